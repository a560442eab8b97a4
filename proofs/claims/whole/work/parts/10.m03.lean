theorem cd_X1_addAtSlots : Cond.code yX1_addAtSlots cX1_addAtSlots 6 none ∈ Tg := Tg_of (i := 443) (by decide +kernel) (by decide +kernel)
theorem lk_X1_60 : LkN RX1 60 yX8_has "Termgrid" cX8_has 2 (some .boolean) 2 := ⟨by decide +kernel, cd_X8_has, iw_X8, by decide +kernel⟩
theorem fl_X1_9 : Fld RX1 9 4 0 (.array .int) := ⟨RX1, TX1, 1, RX1, rfl, by decide, wf_X1_9, (Or.inl rfl), gu_X1, tyX1_ok _ (by decide), ⟨tyX1, tyX1_ok⟩, nmX1⟩
section M_X1_addAtSlots
variable {p : Program} {l : Launch} {e : Env} {s : State} {m : MethodId} {args : Array Value} {below : List Frame} {meth : Method} {c : Code} {G : GG} {o : Except Nat Unit} {hs' : Hs}
def j_X1_addAtSlots_49 (a0 : Option Nat) (a1 : Int32) (a2 : Int32) (a3 : Int32) (a4 : Int32)  (rec_3 : Int32 → OO Unit) : OO Unit :=
  lets (a4 + (1 : Int32)) fun (v4 : Int32) =>
    rec_3 v4
set_option maxRecDepth 100000 in
set_option maxHeartbeats 4000000 in
theorem w_j_X1_addAtSlots_49 (C : Cx G l p s m args c RX1 cX1_addAtSlots 6) (C2 : Cy meth c none) {hs : Hs} (a0 : Option Nat) (a1 : Int32) (a2 : Int32) (a3 : Int32) (a4 : Int32)  (rec_3 : Int32 → OO Unit) (hrec_3 : ∀ (y4 : Int32) hs, rec_3 y4 hs = some (o, hs') → WG G p l e { frames := 1, cells := 0, slots := 0, locals := 21 } s m args below meth c 6 0 0 (vx_MQ below (QcT G o hs' tvV) (XCT G o hs') args s 0 0 (gA G)) hs [(0, va_rf a0), (1, .int a1), (2, .int a2), (3, .int a3), (4, .int y4)] [] 3) (h : j_X1_addAtSlots_49 a0 a1 a2 a3 a4 rec_3 hs = some (o, hs')) : WG G p l e { frames := 1, cells := 0, slots := 0, locals := 21 } s m args below meth c 6 0 0 (vx_MQ below (QcT G o hs' tvV) (XCT G o hs') args s 0 0 (gA G)) hs [(0, va_rf a0), (1, .int a1), (2, .int a2), (3, .int a3), (4, .int a4)] [] 49 := by
  unfold j_X1_addAtSlots_49 at h
  refine q_iinc C 4 (1 : Int32) (fun v4 => [(4, .int v4), (0, va_rf a0), (1, .int a1), (2, .int a2), (3, .int a3)]) dX1_addAtSlots_49 rfl (by decide) (by decide) (fun _ => rfl) h (fun v4 h => ?_)
  refine q_goto C 3 dX1_addAtSlots_52 (by decide) ?_
  refine WG.sub [1, 2, 3, 4, 0] rfl ?_
  exact hrec_3 _ _ h
def L_X1_addAtSlots_3 (a0 : Option Nat) (a1 : Int32) (a2 : Int32) (a3 : Int32) (k_3_55 : OO Unit) : Nat → Int32 → OO Unit
  | 0, _ => failO
  | n + 1, x4 =>
    (if (30 : Int32) ≤ x4 then
    k_3_55
    else
    lets (((8 : Int32) * x4) + a1) fun (v2 : Int32) =>
    call (f_X8_has a2 x4) (fun (v3 : Int32) =>
    (if v3 = 0 then
    j_X1_addAtSlots_49 a0 a1 a2 a3 x4 (L_X1_addAtSlots_3 a0 a1 a2 a3 k_3_55 n)
    else
    gR a0 4 0 fun v5 =>
    alen v5 fun v6 =>
    (if v6 ≤ v2 then
    j_X1_addAtSlots_49 a0 a1 a2 a3 x4 (L_X1_addAtSlots_3 a0 a1 a2 a3 k_3_55 n)
    else
    gR a0 4 0 fun v7 =>
    ldI 0 v7 v2 fun v8 =>
    stI v7 v2 (v8 + a3) (
    j_X1_addAtSlots_49 a0 a1 a2 a3 x4 (L_X1_addAtSlots_3 a0 a1 a2 a3 k_3_55 n))))) nox)
set_option maxRecDepth 100000 in
set_option maxHeartbeats 4000000 in
theorem w_L_X1_addAtSlots_3 (C : Cx G l p s m args c RX1 cX1_addAtSlots 6) (C2 : Cy meth c none) (a0 : Option Nat) (a1 : Int32) (a2 : Int32) (a3 : Int32) (k_3_55 : OO Unit) (hk_3_55 : ∀ hs, k_3_55  hs = some (o, hs') → WG G p l e { frames := 1, cells := 0, slots := 0, locals := 21 } s m args below meth c 6 0 0 (vx_MQ below (QcT G o hs' tvV) (XCT G o hs') args s 0 0 (gA G)) hs [] [] 55) : ∀ (n : Nat) (x4 : Int32) (hs : Hs), L_X1_addAtSlots_3 a0 a1 a2 a3 k_3_55 n x4 hs = some (o, hs') → WG G p l e { frames := 1, cells := 0, slots := 0, locals := 21 } s m args below meth c 6 0 0 (vx_MQ below (QcT G o hs' tvV) (XCT G o hs') args s 0 0 (gA G)) hs [(0, va_rf a0), (1, .int a1), (2, .int a2), (3, .int a3), (4, .int x4)] [] 3 := by
  intro n
  induction n with
  | zero =>
    intro x4 hs h
    rw [L_X1_addAtSlots_3] at h
    exact absurd h failO_e
  | succ n hrec_3 =>
    intro x4 hs h
    rw [L_X1_addAtSlots_3] at h
    refine q_iload C 4 dX1_addAtSlots_3 rfl ?_
    refine q_bipush C (30 : Int32) dX1_addAtSlots_5 (by decide) ?_
    refine q_icmp_ge C 55 dX1_addAtSlots_7 (by decide) h (fun h => ?_) (fun h => ?_)
    · refine WG.sub [] rfl ?_
      exact hk_3_55 _ h
    · refine q_bipush C (8 : Int32) dX1_addAtSlots_10 (by decide) ?_
      refine q_iload C 4 dX1_addAtSlots_12 rfl ?_
      refine q_imul C dX1_addAtSlots_14 ?_
      refine q_iload_n C 1 dX1_addAtSlots_15 rfl ?_
      refine q_iadd C dX1_addAtSlots_16 ?_
      refine q_istore C (fun v2 => [(5, .int v2), (0, va_rf a0), (1, .int a1), (2, .int a2), (3, .int a3), (4, .int x4)]) dX1_addAtSlots_17 (by decide) (fun _ => rfl) h (fun v2 h => ?_)
      refine q_iload_n C 3 dX1_addAtSlots_19 rfl ?_
      refine q_iload C 5 dX1_addAtSlots_20 rfl ?_
      refine q_callSN C [.int a2, .int x4] [] (fun o2 hs1 hm => m_X8_has hm) lk_X1_60 sm_X8_has ⟨(Nat.le_of_ble_eq_true rfl), (Nat.le_of_ble_eq_true rfl)⟩ ⟨(Nat.le_of_ble_eq_true rfl), (Nat.le_of_ble_eq_true rfl)⟩ rfl rfl (by decide) dX1_addAtSlots_22 h (fun v3 hs h => WG_st (st' := [.int v3]) rfl ?_)
      refine q_if_eq C 49 dX1_addAtSlots_25 (by decide) h (fun h => ?_) (fun h => ?_)
      · refine WG.sub [1, 2, 3, 4, 5] rfl ?_
        exact w_j_X1_addAtSlots_49 C C2 _ _ _ _ _ _ hrec_3 h
      · refine q_iload C 0 dX1_addAtSlots_28 rfl ?_
        refine q_aload_n C 1 dX1_addAtSlots_30 rfl ?_
        refine q_gR C fl_X1_9 dX1_addAtSlots_31 h (fun v5 h => ?_)
        refine q_alen C dX1_addAtSlots_34 h (fun v6 h => ?_)
        refine q_icmp_ge C 49 dX1_addAtSlots_35 (by decide) h (fun h => ?_) (fun h => ?_)
        · refine WG.sub [1, 2, 3, 4, 5] rfl ?_
          exact w_j_X1_addAtSlots_49 C C2 _ _ _ _ _ _ hrec_3 h
        · refine q_aload_n C 1 dX1_addAtSlots_38 rfl ?_
          refine q_gR C fl_X1_9 dX1_addAtSlots_39 h (fun v7 h => ?_)
          refine q_iload C 0 dX1_addAtSlots_42 rfl ?_
          refine q_dup2 C rfl (cat_rf _) dX1_addAtSlots_44 ?_
          refine q_iald C dX1_addAtSlots_45 h (fun v8 h => ?_)
          refine q_iload_n C 4 dX1_addAtSlots_46 rfl ?_
          refine q_iadd C dX1_addAtSlots_47 ?_
          refine q_iast C dX1_addAtSlots_48 h (fun hs h => ?_)
          refine WG.sub [1, 2, 3, 4, 5] rfl ?_
          exact w_j_X1_addAtSlots_49 C C2 _ _ _ _ _ _ hrec_3 h
end M_X1_addAtSlots
def f_X1_addAtSlots (a0 : Nat) (p1 : Int32) (p2 : Int32) (p3 : Int32) : OO Unit :=
    lets (0 : Int32) fun (v1 : Int32) =>
    L_X1_addAtSlots_3 (some a0) p1 p2 p3 (rtn ()) 100000 v1
set_option maxRecDepth 100000 in
set_option maxHeartbeats 4000000 in
theorem m_X1_addAtSlots {G : GG} {l : Launch} {a0 : Nat} {p1 : Int32} {p2 : Int32} {p3 : Int32} {hs hs' : Hs} {o : Except Nat Unit} (h : f_X1_addAtSlots a0 p1 p2 p3 hs = some (o, hs')) : CT G l yX1_addAtSlots cX1_addAtSlots 6 none 1 21 0 0 [.ref a0, .int p1, .int p2, .int p3] hs o hs' tvV := by
  refine vx_ofW (cc := cX1_addAtSlots) (maxL := 6) (ret := none) (by decide +kernel) rfl ?_
  intro p e s m args below meth c s₁ B hml hxt hv
  obtain ⟨hav, hR, hKn⟩ := hv
  subst hav
  have hts := atoms_spec (ws := .code yX1_addAtSlots cX1_addAtSlots 6 none :: Tg) B.pre
  have C : Cx G l p s m _ c RX1 cX1_addAtSlots 6 := ⟨B.exec, B.bytes, hml, findClass_of_methodNamed B.named, fun w hw => hts w (List.mem_cons_of_mem _ hw), hKn, fun q hq => Nat.le_trans hR.2.2.1 hq⟩
  have C2 : Cy meth c none := ⟨B.returns, B.notSynchronized, hxt⟩
  have key : WG G p l e { frames := 1, cells := 0, slots := 0, locals := 21 } s m ([.ref a0, .int p1, .int p2, .int p3] : List Value).toArray below meth c 6 0 0 (vx_MQ below (QcT G o hs' tvV) (XCT G o hs') ([.ref a0, .int p1, .int p2, .int p3] : List Value).toArray s 0 0 (gA G)) hs [(0, va_rf (some a0)), (1, .int p1), (2, .int p2), (3, .int p3)] [] 0 := by
    unfold f_X1_addAtSlots at h
    refine q_iconst C (0 : Int32) dX1_addAtSlots_0 (by decide) ?_
    refine q_istore C (fun v1 => [(4, .int v1), (0, va_rf (some a0)), (1, .int p1), (2, .int p2), (3, .int p3)]) dX1_addAtSlots_1 (by decide) (fun _ => rfl) h (fun v1 h => ?_)
    refine WG.sub [1, 2, 3, 4, 0] rfl ?_
    refine w_L_X1_addAtSlots_3 C C2 _ _ _ _ _ ?_ _ _ _ h
    · intro  hs h
      exact q_vret C C2 rfl (Nat.le_of_ble_eq_true rfl) (Nat.le_of_ble_eq_true rfl) dX1_addAtSlots_55 h
  rw [lg_entry_eq]
  exact key _ _ _ hR va_S.rf ⟨lv_entry _ (n := 6) (Nat.le_of_ble_eq_true rfl), (c1_r (c1_i (c1_i (c1_i c1_n))))⟩

theorem cd_X1_slotsBarredByOne : Cond.code yX1_slotsBarredByOne cX1_slotsBarredByOne 4 (some .int) ∈ Tg := Tg_of (i := 448) (by decide +kernel) (by decide +kernel)
theorem wf_X1_47 : Cond.fieldLink RX1 47 RX6 (TX6 2).2.1 (TX6 2).2.2.1 ∈ Tg := Tg_of (i := 164) (by decide +kernel) (by decide +kernel)
theorem fl_X1_47 : Fld RX1 47 9 2 (.object "java/util/ArrayList") := ⟨RX6, TX6, 6, RX6, rfl, by decide, wf_X1_47, (Or.inl rfl), gu_X6, tyX6_ok _ (by decide), ⟨tyX6, tyX6_ok⟩, nmX6⟩
theorem ml_X1_51 : Cond.methodLink RX1 51 yJx4a65c_size_8abf5 ∈ Tg := Tg_of (i := 429) (by decide +kernel) (by decide +kernel)
theorem lk_X1_51 : Lk RX1 51 yJx4a65c_size_8abf5 cJx4a65c_size_8abf5 1 (some .int) 0 := ⟨ml_X1_51, cd_Jx4a65c_size_8abf5, iw_Jx4a65c, by decide +kernel⟩
theorem wf_X1_81 : Cond.fieldLink RX1 81 RX6 (TX6 0).2.1 (TX6 0).2.2.1 ∈ Tg := Tg_of (i := 158) (by decide +kernel) (by decide +kernel)
theorem fl_X1_81 : Fld RX1 81 9 0 (.object "java/util/ArrayList") := ⟨RX6, TX6, 6, RX6, rfl, by decide, wf_X1_81, (Or.inl rfl), gu_X6, tyX6_ok _ (by decide), ⟨tyX6, tyX6_ok⟩, nmX6⟩
theorem wf_X1_98 : Cond.fieldLink RX1 98 RX6 (TX6 5).2.1 (TX6 5).2.2.1 ∈ Tg := Tg_of (i := 171) (by decide +kernel) (by decide +kernel)
theorem fl_X1_98 : Fld RX1 98 9 5 .int := ⟨RX6, TX6, 6, RX6, rfl, by decide, wf_X1_98, (Or.inl rfl), gu_X6, tyX6_ok _ (by decide), ⟨tyX6, tyX6_ok⟩, nmX6⟩
theorem ml_X1_101 : Cond.methodLink RX1 101 yX4_forgetOthers ∈ Tg := Tg_of (i := 449) (by decide +kernel) (by decide +kernel)
theorem lk_X1_101 : Lk RX1 101 yX4_forgetOthers cX4_forgetOthers 2 none 1 := ⟨ml_X1_101, cd_X4_forgetOthers, iw_X4, by decide +kernel⟩
theorem ml_X1_64 : Cond.methodLink RX1 64 yJx4a65c_get_915e3 ∈ Tg := Tg_of (i := 430) (by decide +kernel) (by decide +kernel)
theorem lk_X1_64 : Lk RX1 64 yJx4a65c_get_915e3 cJx4a65c_get_915e3 2 (some (.object "java/lang/Object")) 1 := ⟨ml_X1_64, cd_Jx4a65c_get_915e3, iw_Jx4a65c, by decide +kernel⟩
theorem wc_X1_38 : Cond.classLink RX1 38 RX4 ∈ Tg := Tg_of (i := 445) (by decide +kernel) (by decide +kernel)
theorem ml_X1_105 : Cond.methodLink RX1 105 yX4_see ∈ Tg := Tg_of (i := 450) (by decide +kernel) (by decide +kernel)
theorem lk_X1_105 : Lk RX1 105 yX4_see cX4_see 5 none 1 := ⟨ml_X1_105, cd_X4_see, iw_X4, by decide +kernel⟩
theorem wc_X1_84 : Cond.classLink RX1 84 RX5 ∈ Tg := Tg_of (i := 431) (by decide +kernel) (by decide +kernel)
theorem ml_X1_110 : Cond.methodLink RX1 110 yJ0_length_8abf5 ∈ Tg := Tg_of (i := 452) (by decide +kernel) (by decide +kernel)
section M_X1_slotsBarredByOne
variable {p : Program} {l : Launch} {e : Env} {s : State} {m : MethodId} {args : Array Value} {below : List Frame} {meth : Method} {c : Code} {G : GG} {o : Except Nat Int32} {hs' : Hs}
end M_X1_slotsBarredByOne
def f_X1_slotsBarredByOne (p0 : Option Nat) (p1 : Option Nat) (p2 : Int32) (p3 : Int32) : OO Int32 :=
    gR p0 9 2 fun v1 =>
    rcv v1 2 fun r19 => call (f_Jx4a65c_size_8abf5 r19 ) (fun (v2 : Int32) =>
    (if v2 ≤ p2 then
    rtn (0 : Int32)
    else
    gR p0 9 0 fun v3 =>
    rcv v3 2 fun r18 => call (f_Jx4a65c_size_8abf5 r18 ) (fun (v4 : Int32) =>
    (if p3 < v4 then
    gI p0 9 5 fun v5 =>
    rcv p1 7 fun r17 => call (f_X4_forgetOthers r17 v5) (fun (v6 : Unit) =>
    gR p0 9 2 fun v7 =>
    rcv v7 2 fun r16 => call (f_Jx4a65c_get_915e3 r16 p2) (fun (v8 : Option Nat) =>
    cst v8 7 (
    rcv p1 7 fun r15 => call (f_X4_see r15 v8) (fun (v9 : Unit) =>
    gR p0 9 0 fun v10 =>
    rcv v10 2 fun r14 => call (f_Jx4a65c_get_915e3 r14 p3) (fun (v11 : Option Nat) =>
    cst v11 8 (
    rcv p1 7 fun r13 => call (f_X4_barredByOneOf r13 (6 : Int32) (10 : Int32) v11) (fun (v12 : Int32) =>
    rtn v12) nox)) nox) nox)) nox) nox
    else
    rtn (0 : Int32))) nox)) nox
set_option maxRecDepth 100000 in
set_option maxHeartbeats 4000000 in
theorem m_X1_slotsBarredByOne {G : GG} {l : Launch} {p0 : Option Nat} {p1 : Option Nat} {p2 : Int32} {p3 : Int32} {hs hs' : Hs} {o : Except Nat Int32} (h : f_X1_slotsBarredByOne p0 p1 p2 p3 hs = some (o, hs')) : CT G l yX1_slotsBarredByOne cX1_slotsBarredByOne 4 (some .int) 8 340 0 0 [va_rf p0, va_rf p1, .int p2, .int p3] hs o hs' tvI := by
  refine vx_ofW (cc := cX1_slotsBarredByOne) (maxL := 4) (ret := (some .int)) (by decide +kernel) rfl ?_
  intro p e s m args below meth c s₁ B hml hxt hv
  obtain ⟨hav, hR, hKn⟩ := hv
  subst hav
  have hts := atoms_spec (ws := .code yX1_slotsBarredByOne cX1_slotsBarredByOne 4 (some .int) :: Tg) B.pre
  have C : Cx G l p s m _ c RX1 cX1_slotsBarredByOne 4 := ⟨B.exec, B.bytes, hml, findClass_of_methodNamed B.named, fun w hw => hts w (List.mem_cons_of_mem _ hw), hKn, fun q hq => Nat.le_trans hR.2.2.1 hq⟩
  have C2 : Cy meth c (some .int) := ⟨B.returns, B.notSynchronized, hxt⟩
  have key : WG G p l e { frames := 8, cells := 0, slots := 0, locals := 340 } s m ([va_rf p0, va_rf p1, .int p2, .int p3] : List Value).toArray below meth c 4 0 0 (vx_MQ below (QcT G o hs' tvI) (XCT G o hs') ([va_rf p0, va_rf p1, .int p2, .int p3] : List Value).toArray s 0 0 (gA G)) hs [(0, va_rf p0), (1, va_rf p1), (2, .int p2), (3, .int p3)] [] 0 := by
    unfold f_X1_slotsBarredByOne at h
    refine q_iload_n C 2 dX1_slotsBarredByOne_0 rfl ?_
    refine q_aload_n C 0 dX1_slotsBarredByOne_1 rfl ?_
    refine q_gR C fl_X1_47 dX1_slotsBarredByOne_2 h (fun v1 h => ?_)
    refine q_callV C (CN := RJx4a65c) (T := TJx4a65c) (N := 3) [] [.int p2] (fun a0 o2 hs1 hm => m_Jx4a65c_size_8abf5 hm) lk_X1_51 im_Jx4a65c_size_8abf5 se_Jx4a65c_Jx4a65c_size_8abf5 rfl ⟨(Nat.le_of_ble_eq_true rfl), (Nat.le_of_ble_eq_true rfl)⟩ ⟨(Nat.le_of_ble_eq_true rfl), (Nat.le_of_ble_eq_true rfl)⟩ rfl rfl (by simp only [List.map, cat_rf, cat_i, cat_a]; decide) dX1_slotsBarredByOne_5 h (fun v2 hs h => WG_st (st' := [.int v2, .int p2]) rfl ?_)
    refine q_icmp_ge C 22 dX1_slotsBarredByOne_8 (by decide) h (fun h => ?_) (fun h => ?_)
    · refine q_iconst C (0 : Int32) dX1_slotsBarredByOne_22 (by decide) ?_
      exact q_iret C C2 rfl (Nat.le_of_ble_eq_true rfl) (Nat.le_of_ble_eq_true rfl) dX1_slotsBarredByOne_23 h
    · refine q_iload_n C 3 dX1_slotsBarredByOne_11 rfl ?_
      refine q_aload_n C 0 dX1_slotsBarredByOne_12 rfl ?_
      refine q_gR C fl_X1_81 dX1_slotsBarredByOne_13 h (fun v3 h => ?_)
      refine q_callV C (CN := RJx4a65c) (T := TJx4a65c) (N := 3) [] [.int p3] (fun a0 o2 hs1 hm => m_Jx4a65c_size_8abf5 hm) lk_X1_51 im_Jx4a65c_size_8abf5 se_Jx4a65c_Jx4a65c_size_8abf5 rfl ⟨(Nat.le_of_ble_eq_true rfl), (Nat.le_of_ble_eq_true rfl)⟩ ⟨(Nat.le_of_ble_eq_true rfl), (Nat.le_of_ble_eq_true rfl)⟩ rfl rfl (by simp only [List.map, cat_rf, cat_i, cat_a]; decide) dX1_slotsBarredByOne_16 h (fun v4 hs h => WG_st (st' := [.int v4, .int p3]) rfl ?_)
      refine q_icmp_lt C 24 dX1_slotsBarredByOne_19 (by decide) h (fun h => ?_) (fun h => ?_)
      · refine q_aload_n C 1 dX1_slotsBarredByOne_24 rfl ?_
        refine q_aload_n C 0 dX1_slotsBarredByOne_25 rfl ?_
        refine q_gI C fl_X1_98 dX1_slotsBarredByOne_26 h (fun v5 h => ?_)
        refine q_callV C (CN := RX4) (T := TX4) (N := 18) [.int v5] [] (fun a0 o2 hs1 hm => m_X4_forgetOthers hm) lk_X1_101 im_X4_forgetOthers se_X4_X4_forgetOthers rfl ⟨(Nat.le_of_ble_eq_true rfl), (Nat.le_of_ble_eq_true rfl)⟩ ⟨(Nat.le_of_ble_eq_true rfl), (Nat.le_of_ble_eq_true rfl)⟩ rfl rfl (by decide) dX1_slotsBarredByOne_29 h (fun v6 hs h => WG_st (st' := []) rfl ?_)
        refine q_aload_n C 1 dX1_slotsBarredByOne_32 rfl ?_
        refine q_aload_n C 0 dX1_slotsBarredByOne_33 rfl ?_
        refine q_gR C fl_X1_47 dX1_slotsBarredByOne_34 h (fun v7 h => ?_)
        refine q_iload_n C 2 dX1_slotsBarredByOne_37 rfl ?_
        refine q_callV C (CN := RJx4a65c) (T := TJx4a65c) (N := 3) [.int p2] [va_rf p1] (fun a0 o2 hs1 hm => m_Jx4a65c_get_915e3 hm) lk_X1_64 im_Jx4a65c_get_915e3 se_Jx4a65c_Jx4a65c_get_915e3 rfl ⟨(Nat.le_of_ble_eq_true rfl), (Nat.le_of_ble_eq_true rfl)⟩ ⟨(Nat.le_of_ble_eq_true rfl), (Nat.le_of_ble_eq_true rfl)⟩ rfl rfl (by simp only [List.map, cat_rf, cat_i, cat_a]; decide) dX1_slotsBarredByOne_38 h (fun v8 hs h => WG_st (st' := [va_rf v8, va_rf p1]) rfl ?_)
        refine q_castS C (nm := RX4) (T := TX4) (N := 18) rfl wc_X1_38 dX1_slotsBarredByOne_41 h (fun h => ?_)
        refine q_callV C (CN := RX4) (T := TX4) (N := 18) [va_rf v8] [] (fun a0 o2 hs1 hm => m_X4_see hm) lk_X1_105 im_X4_see se_X4_X4_see rfl ⟨(Nat.le_of_ble_eq_true rfl), (Nat.le_of_ble_eq_true rfl)⟩ ⟨(Nat.le_of_ble_eq_true rfl), (Nat.le_of_ble_eq_true rfl)⟩ rfl rfl (by decide) dX1_slotsBarredByOne_44 h (fun v9 hs h => WG_st (st' := []) rfl ?_)
        refine q_aload_n C 1 dX1_slotsBarredByOne_47 rfl ?_
        refine q_bipush C (6 : Int32) dX1_slotsBarredByOne_48 (by decide) ?_
        refine q_ldcS C (tx := "hpokscrtgv") (by decide) rfl dX1_slotsBarredByOne_50 ?_
        refine q_strlen C ml_X1_110 ⟨(Nat.le_of_ble_eq_true rfl), (Nat.le_of_ble_eq_true rfl)⟩ ⟨(Nat.le_of_ble_eq_true rfl), (Nat.le_of_ble_eq_true rfl)⟩ (by simp only [List.map, cat_rf, cat_i, cat_a]; decide) dX1_slotsBarredByOne_52 ?_
        refine q_aload_n C 0 dX1_slotsBarredByOne_55 rfl ?_
        refine q_gR C fl_X1_81 dX1_slotsBarredByOne_56 h (fun v10 h => ?_)
        refine q_iload_n C 3 dX1_slotsBarredByOne_59 rfl ?_
        refine q_callV C (CN := RJx4a65c) (T := TJx4a65c) (N := 3) [.int p3] [.int (10 : Int32), .int (6 : Int32), va_rf p1] (fun a0 o2 hs1 hm => m_Jx4a65c_get_915e3 hm) lk_X1_64 im_Jx4a65c_get_915e3 se_Jx4a65c_Jx4a65c_get_915e3 rfl ⟨(Nat.le_of_ble_eq_true rfl), (Nat.le_of_ble_eq_true rfl)⟩ ⟨(Nat.le_of_ble_eq_true rfl), (Nat.le_of_ble_eq_true rfl)⟩ rfl rfl (by simp only [List.map, cat_rf, cat_i, cat_a]; decide) dX1_slotsBarredByOne_60 h (fun v11 hs h => WG_st (st' := [va_rf v11, .int (10 : Int32), .int (6 : Int32), va_rf p1]) rfl ?_)
        refine q_castS C (nm := RX5) (T := TX5) (N := 5) rfl wc_X1_84 dX1_slotsBarredByOne_63 h (fun h => ?_)
        refine q_callV C (CN := RX4) (T := TX4) (N := 18) [.int (6 : Int32), .int (10 : Int32), va_rf v11] [] (fun a0 o2 hs1 hm => m_X4_barredByOneOf hm) lk_X1_115 im_X4_barredByOneOf se_X4_X4_barredByOneOf rfl ⟨(Nat.le_of_ble_eq_true rfl), (Nat.le_of_ble_eq_true rfl)⟩ ⟨(Nat.le_of_ble_eq_true rfl), (Nat.le_of_ble_eq_true rfl)⟩ rfl rfl (by decide) dX1_slotsBarredByOne_66 h (fun v12 hs h => WG_st (st' := [.int v12]) rfl ?_)
        exact q_iret C C2 rfl (Nat.le_of_ble_eq_true rfl) (Nat.le_of_ble_eq_true rfl) dX1_slotsBarredByOne_69 h
      · refine q_iconst C (0 : Int32) dX1_slotsBarredByOne_22 (by decide) ?_
        exact q_iret C C2 rfl (Nat.le_of_ble_eq_true rfl) (Nat.le_of_ble_eq_true rfl) dX1_slotsBarredByOne_23 h
  rw [lg_entry_eq]
  cases p0 <;> cases p1 <;> exact key _ _ _ hR va_S.rf ⟨lv_entry _ (n := 4) (Nat.le_of_ble_eq_true rfl), (c1_r (c1_r (c1_i (c1_i c1_n))))⟩

theorem cd_X1_countOthersInTheWay : Cond.code yX1_countOthersInTheWay cX1_countOthersInTheWay 6 none ∈ Tg := Tg_of (i := 426) (by decide +kernel) (by decide +kernel)
theorem ml_X1_72 : Cond.methodLink RX1 72 yJ7_fill_53178 ∈ Tg := Tg_of (i := 427) (by decide +kernel) (by decide +kernel)
theorem lk_X1_72 : Lk RX1 72 yJ7_fill_53178 cJ7_fill_53178 4 none 2 := ⟨ml_X1_72, cd_J7_fill_53178, iw_J7, by decide +kernel⟩
theorem ml_X1_78 : Cond.methodLink RX1 78 yX6_lookAround ∈ Tg := Tg_of (i := 428) (by decide +kernel) (by decide +kernel)
theorem lk_X1_78 : Lk RX1 78 yX6_lookAround cX6_lookAround 3 none 1 := ⟨ml_X1_78, cd_X6_lookAround, iw_X6, by decide +kernel⟩
theorem iw_X1 : Cond.initialized RX1 ∈ Tg := Tg_of (i := 85) (by decide +kernel) (by decide +kernel)
theorem ml_X1_86 : Cond.methodLink RX1 86 yX1_openSlots ∈ Tg := Tg_of (i := 432) (by decide +kernel) (by decide +kernel)
theorem lk_X1_86 : Lk RX1 86 yX1_openSlots cX1_openSlots 2 (some .int) 2 := ⟨ml_X1_86, cd_X1_openSlots, iw_X1, by decide +kernel⟩
theorem ml_X1_90 : Cond.methodLink RX1 90 yX1_addAtSlots ∈ Tg := Tg_of (i := 440) (by decide +kernel) (by decide +kernel)
theorem lk_X1_90 : Lk RX1 90 yX1_addAtSlots cX1_addAtSlots 6 none 3 := ⟨ml_X1_90, cd_X1_addAtSlots, iw_X1, by decide +kernel⟩
theorem im_X1_addAtSlots : Cond.instanceMethod yX1_addAtSlots ∈ Tg := Tg_of (i := 442) (by decide +kernel) (by decide +kernel)
theorem se_X1_X1_addAtSlots : Cond.selects RX1 yX1_addAtSlots yX1_addAtSlots ∈ Tg := Tg_of (i := 9) (by decide +kernel) (by decide +kernel)
theorem sm_X1_openSlots : Cond.static yX1_openSlots ∈ Tg := Tg_of (i := 433) (by decide +kernel) (by decide +kernel)
theorem wf_X1_94 : Cond.fieldLink RX1 94 RX4 (TX4 8).2.1 (TX4 8).2.2.1 ∈ Tg := Tg_of (i := 914) (by decide +kernel) (by decide +kernel)
theorem fl_X1_94 : Fld RX1 94 7 8 .boolean := ⟨RX4, TX4, 18, RX4, rfl, by decide, wf_X1_94, (Or.inl rfl), gu_X4, tyX4_ok _ (by decide), ⟨tyX4, tyX4_ok⟩, nmX4⟩
theorem ml_X1_56 : Cond.methodLink RX1 56 yX1_slotsBarredByOne ∈ Tg := Tg_of (i := 446) (by decide +kernel) (by decide +kernel)
theorem lk_X1_56 : Lk RX1 56 yX1_slotsBarredByOne cX1_slotsBarredByOne 4 (some .int) 4 := ⟨ml_X1_56, cd_X1_slotsBarredByOne, iw_X1, by decide +kernel⟩
theorem sm_X1_slotsBarredByOne : Cond.static yX1_slotsBarredByOne ∈ Tg := Tg_of (i := 447) (by decide +kernel) (by decide +kernel)
section M_X1_countOthersInTheWay
variable {p : Program} {l : Launch} {e : Env} {s : State} {m : MethodId} {args : Array Value} {below : List Frame} {meth : Method} {c : Code} {G : GG} {o : Except Nat Unit} {hs' : Hs}
def L_X1_countOthersInTheWay_17 (a0 : Option Nat) (a1 : Option Nat) (a2 : Option Nat) (k_17_57 : OO Unit) : Nat → Int32 → OO Unit
  | 0, _ => failO
  | n + 1, x3 =>
    gR a1 9 0 fun v5 =>
    rcv v5 2 fun r14 => call (f_Jx4a65c_size_8abf5 r14 ) (fun (v6 : Int32) =>
    (if v6 ≤ x3 then
    k_17_57
    else
    gR a1 9 0 fun v7 =>
    rcv v7 2 fun r13 => call (f_Jx4a65c_get_915e3 r13 x3) (fun (v8 : Option Nat) =>
    cst v8 8 (
    call (f_X1_openSlots a2 v8) (fun (v9 : Int32) =>
    rcv a0 4 fun r12 => call (f_X1_addAtSlots r12 x3 v9 (-1000 : Int32)) (fun (v10 : Unit) =>
    lets (x3 + (1 : Int32)) fun (v11 : Int32) =>
    (L_X1_countOthersInTheWay_17 a0 a1 a2 k_17_57 n) v11) nox) nox)) nox)) nox
set_option maxRecDepth 100000 in
set_option maxHeartbeats 4000000 in
theorem w_L_X1_countOthersInTheWay_17 (C : Cx G l p s m args c RX1 cX1_countOthersInTheWay 6) (C2 : Cy meth c none) (a0 : Option Nat) (a1 : Option Nat) (a2 : Option Nat) (k_17_57 : OO Unit) (hk_17_57 : ∀ hs, k_17_57  hs = some (o, hs') → WG G p l e { frames := 9, cells := 0, slots := 0, locals := 363 } s m args below meth c 6 0 0 (vx_MQ below (QcT G o hs' tvV) (XCT G o hs') args s 0 0 (gA G)) hs [(0, va_rf a0), (1, va_rf a1), (2, va_rf a2)] [] 57) : ∀ (n : Nat) (x3 : Int32) (hs : Hs), L_X1_countOthersInTheWay_17 a0 a1 a2 k_17_57 n x3 hs = some (o, hs') → WG G p l e { frames := 9, cells := 0, slots := 0, locals := 363 } s m args below meth c 6 0 0 (vx_MQ below (QcT G o hs' tvV) (XCT G o hs') args s 0 0 (gA G)) hs [(0, va_rf a0), (1, va_rf a1), (2, va_rf a2), (3, .int x3)] [] 17 := by
  intro n
  induction n with
  | zero =>
    intro x3 hs h
    rw [L_X1_countOthersInTheWay_17] at h
    exact absurd h failO_e
  | succ n hrec_17 =>
    intro x3 hs h
    rw [L_X1_countOthersInTheWay_17] at h
    refine q_iload_n C 3 dX1_countOthersInTheWay_17 rfl ?_
    refine q_aload_n C 1 dX1_countOthersInTheWay_18 rfl ?_
    refine q_gR C fl_X1_81 dX1_countOthersInTheWay_19 h (fun v5 h => ?_)
    refine q_callV C (CN := RJx4a65c) (T := TJx4a65c) (N := 3) [] [.int x3] (fun a0 o2 hs1 hm => m_Jx4a65c_size_8abf5 hm) lk_X1_51 im_Jx4a65c_size_8abf5 se_Jx4a65c_Jx4a65c_size_8abf5 rfl ⟨(Nat.le_of_ble_eq_true rfl), (Nat.le_of_ble_eq_true rfl)⟩ ⟨(Nat.le_of_ble_eq_true rfl), (Nat.le_of_ble_eq_true rfl)⟩ rfl rfl (by simp only [List.map, cat_rf, cat_i, cat_a]; decide) dX1_countOthersInTheWay_22 h (fun v6 hs h => WG_st (st' := [.int v6, .int x3]) rfl ?_)
    refine q_icmp_ge C 57 dX1_countOthersInTheWay_25 (by decide) h (fun h => ?_) (fun h => ?_)
    · refine WG.sub [0, 1, 2] rfl ?_
      exact hk_17_57 _ h
    · refine q_aload_n C 0 dX1_countOthersInTheWay_28 rfl ?_
      refine q_iload_n C 3 dX1_countOthersInTheWay_29 rfl ?_
      refine q_aload_n C 2 dX1_countOthersInTheWay_30 rfl ?_
      refine q_aload_n C 1 dX1_countOthersInTheWay_31 rfl ?_
      refine q_gR C fl_X1_81 dX1_countOthersInTheWay_32 h (fun v7 h => ?_)
      refine q_iload_n C 3 dX1_countOthersInTheWay_35 rfl ?_
      refine q_callV C (CN := RJx4a65c) (T := TJx4a65c) (N := 3) [.int x3] [va_rf a2, .int x3, va_rf a0] (fun a0 o2 hs1 hm => m_Jx4a65c_get_915e3 hm) lk_X1_64 im_Jx4a65c_get_915e3 se_Jx4a65c_Jx4a65c_get_915e3 rfl ⟨(Nat.le_of_ble_eq_true rfl), (Nat.le_of_ble_eq_true rfl)⟩ ⟨(Nat.le_of_ble_eq_true rfl), (Nat.le_of_ble_eq_true rfl)⟩ rfl rfl (by simp only [List.map, cat_rf, cat_i, cat_a]; decide) dX1_countOthersInTheWay_36 h (fun v8 hs h => WG_st (st' := [va_rf v8, va_rf a2, .int x3, va_rf a0]) rfl ?_)
      refine q_castS C (nm := RX5) (T := TX5) (N := 5) rfl wc_X1_84 dX1_countOthersInTheWay_39 h (fun h => ?_)
      refine q_callS C [va_rf a2, va_rf v8] [.int x3, va_rf a0] (fun o2 hs1 hm => m_X1_openSlots hm) lk_X1_86 sm_X1_openSlots ⟨(Nat.le_of_ble_eq_true rfl), (Nat.le_of_ble_eq_true rfl)⟩ ⟨(Nat.le_of_ble_eq_true rfl), (Nat.le_of_ble_eq_true rfl)⟩ rfl rfl (by simp only [List.map, cat_rf, cat_i, cat_a]; decide) dX1_countOthersInTheWay_42 h (fun v9 hs h => WG_st (st' := [.int v9, .int x3, va_rf a0]) rfl ?_)
      refine q_sipush C (-1000 : Int32) dX1_countOthersInTheWay_45 (by decide) ?_
      refine q_callV C (CN := RX1) (T := TX1) (N := 1) [.int x3, .int v9, .int (-1000 : Int32)] [] (fun a0 o2 hs1 hm => m_X1_addAtSlots hm) lk_X1_90 im_X1_addAtSlots se_X1_X1_addAtSlots rfl ⟨(Nat.le_of_ble_eq_true rfl), (Nat.le_of_ble_eq_true rfl)⟩ ⟨(Nat.le_of_ble_eq_true rfl), (Nat.le_of_ble_eq_true rfl)⟩ rfl rfl (by decide) dX1_countOthersInTheWay_48 h (fun v10 hs h => WG_st (st' := []) rfl ?_)
      refine q_iinc C 3 (1 : Int32) (fun v11 => [(3, .int v11), (0, va_rf a0), (1, va_rf a1), (2, va_rf a2)]) dX1_countOthersInTheWay_51 rfl (by decide) (by decide) (fun _ => rfl) h (fun v11 h => ?_)
      refine q_goto C 17 dX1_countOthersInTheWay_54 (by decide) ?_
      refine WG.sub [1, 2, 3, 0] rfl ?_
      exact hrec_17 _ _ h
def L_X1_countOthersInTheWay_99 (a0 : Option Nat) (a1 : Option Nat) (a2 : Option Nat) (a3 : Int32) (a4 : Int32) (k_99_133 : OO Unit) : Nat → Int32 → OO Unit
  | 0, _ => failO
  | n + 1, x5 =>
    gR a1 9 0 fun v23 =>
    rcv v23 2 fun r29 => call (f_Jx4a65c_size_8abf5 r29 ) (fun (v24 : Int32) =>
    (if v24 ≤ x5 then
    k_99_133
    else
    call (f_X1_slotsBarredByOne a1 a2 a3 x5) (fun (v25 : Int32) =>
    rcv a0 4 fun r28 => call (f_X1_addAtSlots r28 x5 v25 a4) (fun (v26 : Unit) =>
    lets (x5 + (1 : Int32)) fun (v27 : Int32) =>
    (L_X1_countOthersInTheWay_99 a0 a1 a2 a3 a4 k_99_133 n) v27) nox) nox)) nox
set_option maxRecDepth 100000 in
set_option maxHeartbeats 4000000 in
theorem w_L_X1_countOthersInTheWay_99 (C : Cx G l p s m args c RX1 cX1_countOthersInTheWay 6) (C2 : Cy meth c none) (a0 : Option Nat) (a1 : Option Nat) (a2 : Option Nat) (a3 : Int32) (a4 : Int32) (k_99_133 : OO Unit) (hk_99_133 : ∀ hs, k_99_133  hs = some (o, hs') → WG G p l e { frames := 9, cells := 0, slots := 0, locals := 363 } s m args below meth c 6 0 0 (vx_MQ below (QcT G o hs' tvV) (XCT G o hs') args s 0 0 (gA G)) hs [(0, va_rf a0), (1, va_rf a1), (2, va_rf a2), (3, .int a3)] [] 133) : ∀ (n : Nat) (x5 : Int32) (hs : Hs), L_X1_countOthersInTheWay_99 a0 a1 a2 a3 a4 k_99_133 n x5 hs = some (o, hs') → WG G p l e { frames := 9, cells := 0, slots := 0, locals := 363 } s m args below meth c 6 0 0 (vx_MQ below (QcT G o hs' tvV) (XCT G o hs') args s 0 0 (gA G)) hs [(0, va_rf a0), (1, va_rf a1), (2, va_rf a2), (3, .int a3), (4, .int a4), (5, .int x5)] [] 99 := by
  intro n
  induction n with
  | zero =>
    intro x5 hs h
    rw [L_X1_countOthersInTheWay_99] at h
    exact absurd h failO_e
  | succ n hrec_99 =>
    intro x5 hs h
    rw [L_X1_countOthersInTheWay_99] at h
    refine q_iload C 5 dX1_countOthersInTheWay_99 rfl ?_
    refine q_aload_n C 1 dX1_countOthersInTheWay_101 rfl ?_
    refine q_gR C fl_X1_81 dX1_countOthersInTheWay_102 h (fun v23 h => ?_)
    refine q_callV C (CN := RJx4a65c) (T := TJx4a65c) (N := 3) [] [.int x5] (fun a0 o2 hs1 hm => m_Jx4a65c_size_8abf5 hm) lk_X1_51 im_Jx4a65c_size_8abf5 se_Jx4a65c_Jx4a65c_size_8abf5 rfl ⟨(Nat.le_of_ble_eq_true rfl), (Nat.le_of_ble_eq_true rfl)⟩ ⟨(Nat.le_of_ble_eq_true rfl), (Nat.le_of_ble_eq_true rfl)⟩ rfl rfl (by simp only [List.map, cat_rf, cat_i, cat_a]; decide) dX1_countOthersInTheWay_105 h (fun v24 hs h => WG_st (st' := [.int v24, .int x5]) rfl ?_)
    refine q_icmp_ge C 133 dX1_countOthersInTheWay_108 (by decide) h (fun h => ?_) (fun h => ?_)
    · refine WG.sub [0, 1, 2, 3] rfl ?_
      exact hk_99_133 _ h
    · refine q_aload_n C 0 dX1_countOthersInTheWay_111 rfl ?_
      refine q_iload C 5 dX1_countOthersInTheWay_112 rfl ?_
      refine q_aload_n C 1 dX1_countOthersInTheWay_114 rfl ?_
      refine q_aload_n C 2 dX1_countOthersInTheWay_115 rfl ?_
      refine q_iload_n C 3 dX1_countOthersInTheWay_116 rfl ?_
      refine q_iload C 5 dX1_countOthersInTheWay_117 rfl ?_
      refine q_callS C [va_rf a1, va_rf a2, .int a3, .int x5] [.int x5, va_rf a0] (fun o2 hs1 hm => m_X1_slotsBarredByOne hm) lk_X1_56 sm_X1_slotsBarredByOne ⟨(Nat.le_of_ble_eq_true rfl), (Nat.le_of_ble_eq_true rfl)⟩ ⟨(Nat.le_of_ble_eq_true rfl), (Nat.le_of_ble_eq_true rfl)⟩ rfl rfl (by simp only [List.map, cat_rf, cat_i, cat_a]; decide) dX1_countOthersInTheWay_119 h (fun v25 hs h => WG_st (st' := [.int v25, .int x5, va_rf a0]) rfl ?_)
      refine q_iload C 4 dX1_countOthersInTheWay_122 rfl ?_
      refine q_callV C (CN := RX1) (T := TX1) (N := 1) [.int x5, .int v25, .int a4] [] (fun a0 o2 hs1 hm => m_X1_addAtSlots hm) lk_X1_90 im_X1_addAtSlots se_X1_X1_addAtSlots rfl ⟨(Nat.le_of_ble_eq_true rfl), (Nat.le_of_ble_eq_true rfl)⟩ ⟨(Nat.le_of_ble_eq_true rfl), (Nat.le_of_ble_eq_true rfl)⟩ rfl rfl (by decide) dX1_countOthersInTheWay_124 h (fun v26 hs h => WG_st (st' := []) rfl ?_)
      refine q_iinc C 5 (1 : Int32) (fun v27 => [(5, .int v27), (0, va_rf a0), (1, va_rf a1), (2, va_rf a2), (3, .int a3), (4, .int a4)]) dX1_countOthersInTheWay_127 rfl (by decide) (by decide) (fun _ => rfl) h (fun v27 h => ?_)
      refine q_goto C 99 dX1_countOthersInTheWay_130 (by decide) ?_
      refine WG.sub [1, 2, 3, 4, 5, 0] rfl ?_
      exact hrec_99 _ _ h
def j_X1_countOthersInTheWay_94 (a0 : Option Nat) (a1 : Option Nat) (a2 : Option Nat) (a3 : Int32) (s0 : Int32) (rec_59 : Int32 → OO Unit) : OO Unit :=
  lets s0 fun (v21 : Int32) =>
    lets (0 : Int32) fun (v22 : Int32) =>
    L_X1_countOthersInTheWay_99 a0 a1 a2 a3 v21 (lets (a3 + (1 : Int32)) fun (v30 : Int32) =>
    rec_59 v30) 100000 v22
set_option maxRecDepth 100000 in
set_option maxHeartbeats 4000000 in
theorem w_j_X1_countOthersInTheWay_94 (C : Cx G l p s m args c RX1 cX1_countOthersInTheWay 6) (C2 : Cy meth c none) {hs : Hs} (a0 : Option Nat) (a1 : Option Nat) (a2 : Option Nat) (a3 : Int32) (s0 : Int32) (rec_59 : Int32 → OO Unit) (hrec_59 : ∀ (y3 : Int32) hs, rec_59 y3 hs = some (o, hs') → WG G p l e { frames := 9, cells := 0, slots := 0, locals := 363 } s m args below meth c 6 0 0 (vx_MQ below (QcT G o hs' tvV) (XCT G o hs') args s 0 0 (gA G)) hs [(0, va_rf a0), (1, va_rf a1), (2, va_rf a2), (3, .int y3)] [] 59) (h : j_X1_countOthersInTheWay_94 a0 a1 a2 a3 s0 rec_59 hs = some (o, hs')) : WG G p l e { frames := 9, cells := 0, slots := 0, locals := 363 } s m args below meth c 6 0 0 (vx_MQ below (QcT G o hs' tvV) (XCT G o hs') args s 0 0 (gA G)) hs [(0, va_rf a0), (1, va_rf a1), (2, va_rf a2), (3, .int a3)] [.int s0] 94 := by
  unfold j_X1_countOthersInTheWay_94 at h
  refine q_istore C (fun v21 => [(4, .int v21), (0, va_rf a0), (1, va_rf a1), (2, va_rf a2), (3, .int a3)]) dX1_countOthersInTheWay_94 (by decide) (fun _ => rfl) h (fun v21 h => ?_)
  refine q_iconst C (0 : Int32) dX1_countOthersInTheWay_96 (by decide) ?_
  refine q_istore C (fun v22 => [(5, .int v22), (4, .int v21), (0, va_rf a0), (1, va_rf a1), (2, va_rf a2), (3, .int a3)]) dX1_countOthersInTheWay_97 (by decide) (fun _ => rfl) h (fun v22 h => ?_)
  refine WG.sub [2, 3, 4, 5, 1, 0] rfl ?_
  refine w_L_X1_countOthersInTheWay_99 C C2 _ _ _ _ _ _ ?_ _ _ _ h
  · intro  hs h
    refine q_iinc C 3 (1 : Int32) (fun v30 => [(3, .int v30), (0, va_rf a0), (1, va_rf a1), (2, va_rf a2)]) dX1_countOthersInTheWay_133 rfl (by decide) (by decide) (fun _ => rfl) h (fun v30 h => ?_)
    refine q_goto C 59 dX1_countOthersInTheWay_136 (by decide) ?_
    refine WG.sub [1, 2, 3, 0] rfl ?_
    exact hrec_59 _ _ h
def L_X1_countOthersInTheWay_59 (a0 : Option Nat) (a1 : Option Nat) (a2 : Option Nat) (k_59_139 : OO Unit) : Nat → Int32 → OO Unit
  | 0, _ => failO
  | n + 1, x3 =>
    gR a1 9 2 fun v16 =>
    rcv v16 2 fun r32 => call (f_Jx4a65c_size_8abf5 r32 ) (fun (v17 : Int32) =>
    (if v17 ≤ x3 then
    k_59_139
    else
    gR a1 9 2 fun v18 =>
    rcv v18 2 fun r31 => call (f_Jx4a65c_get_915e3 r31 x3) (fun (v19 : Option Nat) =>
    cst v19 7 (
    gI v19 7 8 fun v20 =>
    (if v20 = 0 then
    j_X1_countOthersInTheWay_94 a0 a1 a2 x3 (1 : Int32) (L_X1_countOthersInTheWay_59 a0 a1 a2 k_59_139 n)
    else
    j_X1_countOthersInTheWay_94 a0 a1 a2 x3 (1000 : Int32) (L_X1_countOthersInTheWay_59 a0 a1 a2 k_59_139 n)))) nox)) nox
set_option maxRecDepth 100000 in
set_option maxHeartbeats 4000000 in
theorem w_L_X1_countOthersInTheWay_59 (C : Cx G l p s m args c RX1 cX1_countOthersInTheWay 6) (C2 : Cy meth c none) (a0 : Option Nat) (a1 : Option Nat) (a2 : Option Nat) (k_59_139 : OO Unit) (hk_59_139 : ∀ hs, k_59_139  hs = some (o, hs') → WG G p l e { frames := 9, cells := 0, slots := 0, locals := 363 } s m args below meth c 6 0 0 (vx_MQ below (QcT G o hs' tvV) (XCT G o hs') args s 0 0 (gA G)) hs [] [] 139) : ∀ (n : Nat) (x3 : Int32) (hs : Hs), L_X1_countOthersInTheWay_59 a0 a1 a2 k_59_139 n x3 hs = some (o, hs') → WG G p l e { frames := 9, cells := 0, slots := 0, locals := 363 } s m args below meth c 6 0 0 (vx_MQ below (QcT G o hs' tvV) (XCT G o hs') args s 0 0 (gA G)) hs [(0, va_rf a0), (1, va_rf a1), (2, va_rf a2), (3, .int x3)] [] 59 := by
  intro n
  induction n with
  | zero =>
    intro x3 hs h
    rw [L_X1_countOthersInTheWay_59] at h
    exact absurd h failO_e
  | succ n hrec_59 =>
    intro x3 hs h
    rw [L_X1_countOthersInTheWay_59] at h
    refine q_iload_n C 3 dX1_countOthersInTheWay_59 rfl ?_
    refine q_aload_n C 1 dX1_countOthersInTheWay_60 rfl ?_
    refine q_gR C fl_X1_47 dX1_countOthersInTheWay_61 h (fun v16 h => ?_)
    refine q_callV C (CN := RJx4a65c) (T := TJx4a65c) (N := 3) [] [.int x3] (fun a0 o2 hs1 hm => m_Jx4a65c_size_8abf5 hm) lk_X1_51 im_Jx4a65c_size_8abf5 se_Jx4a65c_Jx4a65c_size_8abf5 rfl ⟨(Nat.le_of_ble_eq_true rfl), (Nat.le_of_ble_eq_true rfl)⟩ ⟨(Nat.le_of_ble_eq_true rfl), (Nat.le_of_ble_eq_true rfl)⟩ rfl rfl (by simp only [List.map, cat_rf, cat_i, cat_a]; decide) dX1_countOthersInTheWay_64 h (fun v17 hs h => WG_st (st' := [.int v17, .int x3]) rfl ?_)
    refine q_icmp_ge C 139 dX1_countOthersInTheWay_67 (by decide) h (fun h => ?_) (fun h => ?_)
    · refine WG.sub [] rfl ?_
      exact hk_59_139 _ h
    · refine q_aload_n C 1 dX1_countOthersInTheWay_70 rfl ?_
      refine q_gR C fl_X1_47 dX1_countOthersInTheWay_71 h (fun v18 h => ?_)
      refine q_iload_n C 3 dX1_countOthersInTheWay_74 rfl ?_
      refine q_callV C (CN := RJx4a65c) (T := TJx4a65c) (N := 3) [.int x3] [] (fun a0 o2 hs1 hm => m_Jx4a65c_get_915e3 hm) lk_X1_64 im_Jx4a65c_get_915e3 se_Jx4a65c_Jx4a65c_get_915e3 rfl ⟨(Nat.le_of_ble_eq_true rfl), (Nat.le_of_ble_eq_true rfl)⟩ ⟨(Nat.le_of_ble_eq_true rfl), (Nat.le_of_ble_eq_true rfl)⟩ rfl rfl (by decide) dX1_countOthersInTheWay_75 h (fun v19 hs h => WG_st (st' := [va_rf v19]) rfl ?_)
      refine q_castS C (nm := RX4) (T := TX4) (N := 18) rfl wc_X1_38 dX1_countOthersInTheWay_78 h (fun h => ?_)
      refine q_gI C fl_X1_94 dX1_countOthersInTheWay_81 h (fun v20 h => ?_)
      refine q_if_eq C 93 dX1_countOthersInTheWay_84 (by decide) h (fun h => ?_) (fun h => ?_)
      · refine q_iconst C (1 : Int32) dX1_countOthersInTheWay_93 (by decide) ?_
        exact w_j_X1_countOthersInTheWay_94 C C2 _ _ _ _ _ _ hrec_59 h
      · refine q_sipush C (1000 : Int32) dX1_countOthersInTheWay_87 (by decide) ?_
        refine q_goto C 94 dX1_countOthersInTheWay_90 (by decide) ?_
        exact w_j_X1_countOthersInTheWay_94 C C2 _ _ _ _ _ _ hrec_59 h
end M_X1_countOthersInTheWay
def f_X1_countOthersInTheWay (a0 : Nat) (p1 : Option Nat) (p2 : Option Nat) : OO Unit :=
    gR (some a0) 4 0 fun v1 =>
    call (f_J7_fill_53178 v1 (1000 : Int32)) (fun (v2 : Unit) =>
    rcv p1 9 fun r33 => call (f_X6_lookAround r33 p2) (fun (v3 : Unit) =>
    lets (0 : Int32) fun (v4 : Int32) =>
    L_X1_countOthersInTheWay_17 (some a0) p1 p2 (lets (0 : Int32) fun (v15 : Int32) =>
    L_X1_countOthersInTheWay_59 (some a0) p1 p2 (rtn ()) 100000 v15) 100000 v4) nox) nox
set_option maxRecDepth 100000 in
set_option maxHeartbeats 4000000 in
theorem m_X1_countOthersInTheWay {G : GG} {l : Launch} {a0 : Nat} {p1 : Option Nat} {p2 : Option Nat} {hs hs' : Hs} {o : Except Nat Unit} (h : f_X1_countOthersInTheWay a0 p1 p2 hs = some (o, hs')) : CT G l yX1_countOthersInTheWay cX1_countOthersInTheWay 6 none 9 363 0 0 [.ref a0, va_rf p1, va_rf p2] hs o hs' tvV := by
  refine vx_ofW (cc := cX1_countOthersInTheWay) (maxL := 6) (ret := none) (by decide +kernel) rfl ?_
  intro p e s m args below meth c s₁ B hml hxt hv
  obtain ⟨hav, hR, hKn⟩ := hv
  subst hav
  have hts := atoms_spec (ws := .code yX1_countOthersInTheWay cX1_countOthersInTheWay 6 none :: Tg) B.pre
  have C : Cx G l p s m _ c RX1 cX1_countOthersInTheWay 6 := ⟨B.exec, B.bytes, hml, findClass_of_methodNamed B.named, fun w hw => hts w (List.mem_cons_of_mem _ hw), hKn, fun q hq => Nat.le_trans hR.2.2.1 hq⟩
  have C2 : Cy meth c none := ⟨B.returns, B.notSynchronized, hxt⟩
  have key : WG G p l e { frames := 9, cells := 0, slots := 0, locals := 363 } s m ([.ref a0, va_rf p1, va_rf p2] : List Value).toArray below meth c 6 0 0 (vx_MQ below (QcT G o hs' tvV) (XCT G o hs') ([.ref a0, va_rf p1, va_rf p2] : List Value).toArray s 0 0 (gA G)) hs [(0, va_rf (some a0)), (1, va_rf p1), (2, va_rf p2)] [] 0 := by
    unfold f_X1_countOthersInTheWay at h
    refine q_aload_n C 0 dX1_countOthersInTheWay_0 rfl ?_
    refine q_gR C fl_X1_9 dX1_countOthersInTheWay_1 h (fun v1 h => ?_)
    refine q_sipush C (1000 : Int32) dX1_countOthersInTheWay_4 (by decide) ?_
    refine q_callS C [va_rf v1, .int (1000 : Int32)] [] (fun o2 hs1 hm => m_J7_fill_53178 hm) lk_X1_72 sm_J7_fill_53178 ⟨(Nat.le_of_ble_eq_true rfl), (Nat.le_of_ble_eq_true rfl)⟩ ⟨(Nat.le_of_ble_eq_true rfl), (Nat.le_of_ble_eq_true rfl)⟩ rfl rfl (by decide) dX1_countOthersInTheWay_7 h (fun v2 hs h => WG_st (st' := []) rfl ?_)
    refine q_aload_n C 1 dX1_countOthersInTheWay_10 rfl ?_
    refine q_aload_n C 2 dX1_countOthersInTheWay_11 rfl ?_
    refine q_callV C (CN := RX6) (T := TX6) (N := 6) [va_rf p2] [] (fun a0 o2 hs1 hm => m_X6_lookAround hm) lk_X1_78 im_X6_lookAround se_X6_X6_lookAround rfl ⟨(Nat.le_of_ble_eq_true rfl), (Nat.le_of_ble_eq_true rfl)⟩ ⟨(Nat.le_of_ble_eq_true rfl), (Nat.le_of_ble_eq_true rfl)⟩ rfl rfl (by decide) dX1_countOthersInTheWay_12 h (fun v3 hs h => WG_st (st' := []) rfl ?_)
    refine q_iconst C (0 : Int32) dX1_countOthersInTheWay_15 (by decide) ?_
    refine q_istore_n C (fun v4 => [(3, .int v4), (0, va_rf (some a0)), (1, va_rf p1), (2, va_rf p2)]) dX1_countOthersInTheWay_16 (by decide) (fun _ => rfl) h (fun v4 h => ?_)
    refine WG.sub [1, 2, 3, 0] rfl ?_
    refine w_L_X1_countOthersInTheWay_17 C C2 _ _ _ _ ?_ _ _ _ h
    · intro  hs h
      refine q_iconst C (0 : Int32) dX1_countOthersInTheWay_57 (by decide) ?_
      refine q_istore_n C (fun v15 => [(3, .int v15), (0, va_rf (some a0)), (1, va_rf p1), (2, va_rf p2)]) dX1_countOthersInTheWay_58 (by decide) (fun _ => rfl) h (fun v15 h => ?_)
      refine WG.sub [1, 2, 3, 0] rfl ?_
      refine w_L_X1_countOthersInTheWay_59 C C2 _ _ _ _ ?_ _ _ _ h
      · intro  hs h
        exact q_vret C C2 rfl (Nat.le_of_ble_eq_true rfl) (Nat.le_of_ble_eq_true rfl) dX1_countOthersInTheWay_139 h
  rw [lg_entry_eq]
  cases p1 <;> cases p2 <;> exact key _ _ _ hR va_S.rf ⟨lv_entry _ (n := 6) (Nat.le_of_ble_eq_true rfl), (c1_r (c1_r (c1_r c1_n)))⟩

theorem cd_X6_take : Cond.code yX6_take cX6_take 2 none ∈ Tg := Tg_of (i := 456) (by decide +kernel) (by decide +kernel)
section M_X6_take
variable {p : Program} {l : Launch} {e : Env} {s : State} {m : MethodId} {args : Array Value} {below : List Frame} {meth : Method} {c : Code} {G : GG} {o : Except Nat Unit} {hs' : Hs}
end M_X6_take
def f_X6_take (a0 : Nat) (p1 : Option Nat) : OO Unit :=
    rcv (some a0) 9 fun r4 => call (f_X6_lookAround r4 p1) (fun (v1 : Unit) =>
    rcv (some a0) 9 fun r3 => call (f_X6_changeAmounts r3 p1 (-1 : Int32)) (fun (v2 : Unit) =>
    pI p1 7 7 (-1 : Int32) (
    pR p1 7 6 none (
    rtn ()))) nox) nox
set_option maxRecDepth 100000 in
set_option maxHeartbeats 4000000 in
theorem m_X6_take {G : GG} {l : Launch} {a0 : Nat} {p1 : Option Nat} {hs hs' : Hs} {o : Except Nat Unit} (h : f_X6_take a0 p1 hs = some (o, hs')) : CT G l yX6_take cX6_take 2 none 4 86 0 0 [.ref a0, va_rf p1] hs o hs' tvV := by
  refine vx_ofW (cc := cX6_take) (maxL := 2) (ret := none) (by decide +kernel) rfl ?_
  intro p e s m args below meth c s₁ B hml hxt hv
  obtain ⟨hav, hR, hKn⟩ := hv
  subst hav
  have hts := atoms_spec (ws := .code yX6_take cX6_take 2 none :: Tg) B.pre
  have C : Cx G l p s m _ c RX6 cX6_take 2 := ⟨B.exec, B.bytes, hml, findClass_of_methodNamed B.named, fun w hw => hts w (List.mem_cons_of_mem _ hw), hKn, fun q hq => Nat.le_trans hR.2.2.1 hq⟩
  have C2 : Cy meth c none := ⟨B.returns, B.notSynchronized, hxt⟩
  have key : WG G p l e { frames := 4, cells := 0, slots := 0, locals := 86 } s m ([.ref a0, va_rf p1] : List Value).toArray below meth c 2 0 0 (vx_MQ below (QcT G o hs' tvV) (XCT G o hs') ([.ref a0, va_rf p1] : List Value).toArray s 0 0 (gA G)) hs [(0, va_rf (some a0)), (1, va_rf p1)] [] 0 := by
    unfold f_X6_take at h
    refine q_aload_n C 0 dX6_take_0 rfl ?_
    refine q_aload_n C 1 dX6_take_1 rfl ?_
    refine q_callV C (CN := RX6) (T := TX6) (N := 6) [va_rf p1] [] (fun a0 o2 hs1 hm => m_X6_lookAround hm) lk_X6_68 im_X6_lookAround se_X6_X6_lookAround rfl ⟨(Nat.le_of_ble_eq_true rfl), (Nat.le_of_ble_eq_true rfl)⟩ ⟨(Nat.le_of_ble_eq_true rfl), (Nat.le_of_ble_eq_true rfl)⟩ rfl rfl (by decide) dX6_take_2 h (fun v1 hs h => WG_st (st' := []) rfl ?_)
    refine q_aload_n C 0 dX6_take_5 rfl ?_
    refine q_aload_n C 1 dX6_take_6 rfl ?_
    refine q_iconst C (-1 : Int32) dX6_take_7 (by decide) ?_
    refine q_callV C (CN := RX6) (T := TX6) (N := 6) [va_rf p1, .int (-1 : Int32)] [] (fun a0 o2 hs1 hm => m_X6_changeAmounts hm) lk_X6_75 im_X6_changeAmounts se_X6_X6_changeAmounts rfl ⟨(Nat.le_of_ble_eq_true rfl), (Nat.le_of_ble_eq_true rfl)⟩ ⟨(Nat.le_of_ble_eq_true rfl), (Nat.le_of_ble_eq_true rfl)⟩ rfl rfl (by decide) dX6_take_8 h (fun v2 hs h => WG_st (st' := []) rfl ?_)
    refine q_aload_n C 1 dX6_take_11 rfl ?_
    refine q_iconst C (-1 : Int32) dX6_take_12 (by decide) ?_
    refine q_pI C fw_X6_37 (fun z => nomatch z) dX6_take_13 h (fun hs h => ?_)
    refine q_aload_n C 1 dX6_take_16 rfl ?_
    refine q_null C dX6_take_17 ?_
    refine q_pR C fw_X6_31 (fun z => nomatch z) rfl dX6_take_18 h (fun hs h => ?_)
    exact q_vret C C2 rfl (Nat.le_of_ble_eq_true rfl) (Nat.le_of_ble_eq_true rfl) dX6_take_21 h
  rw [lg_entry_eq]
  cases p1 <;> exact key _ _ _ hR va_S.rf ⟨lv_entry _ (n := 2) (Nat.le_of_ble_eq_true rfl), (c1_r (c1_r c1_n))⟩

theorem cd_X1_throwOthersOut : Cond.code yX1_throwOthersOut cX1_throwOthersOut 6 (some .boolean) ∈ Tg := Tg_of (i := 422) (by decide +kernel) (by decide +kernel)
theorem ml_X1_43 : Cond.methodLink RX1 43 yX1_countOthersInTheWay ∈ Tg := Tg_of (i := 423) (by decide +kernel) (by decide +kernel)
theorem lk_X1_43 : Lk RX1 43 yX1_countOthersInTheWay cX1_countOthersInTheWay 6 none 2 := ⟨ml_X1_43, cd_X1_countOthersInTheWay, iw_X1, by decide +kernel⟩
theorem ml_X1_68 : Cond.methodLink RX1 68 yX6_take ∈ Tg := Tg_of (i := 453) (by decide +kernel) (by decide +kernel)
theorem lk_X1_68 : Lk RX1 68 yX6_take cX6_take 2 none 1 := ⟨ml_X1_68, cd_X6_take, iw_X6, by decide +kernel⟩
theorem im_X6_take : Cond.instanceMethod yX6_take ∈ Tg := Tg_of (i := 454) (by decide +kernel) (by decide +kernel)
theorem se_X6_X6_take : Cond.selects RX6 yX6_take yX6_take ∈ Tg := Tg_of (i := 455) (by decide +kernel) (by decide +kernel)
theorem ml_X1_29 : Cond.methodLink RX1 29 yX6_putAt ∈ Tg := Tg_of (i := 406) (by decide +kernel) (by decide +kernel)
theorem lk_X1_29 : Lk RX1 29 yX6_putAt cX6_putAt 4 none 2 := ⟨ml_X1_29, cd_X6_putAt, iw_X6, by decide +kernel⟩
theorem im_X6_putAt : Cond.instanceMethod yX6_putAt ∈ Tg := Tg_of (i := 407) (by decide +kernel) (by decide +kernel)
theorem se_X6_X6_putAt : Cond.selects RX6 yX6_putAt yX6_putAt ∈ Tg := Tg_of (i := 408) (by decide +kernel) (by decide +kernel)
theorem im_X1_countOthersInTheWay : Cond.instanceMethod yX1_countOthersInTheWay ∈ Tg := Tg_of (i := 425) (by decide +kernel) (by decide +kernel)
theorem se_X1_X1_countOthersInTheWay : Cond.selects RX1 yX1_countOthersInTheWay yX1_countOthersInTheWay ∈ Tg := Tg_of (i := 8) (by decide +kernel) (by decide +kernel)
section M_X1_throwOthersOut
variable {p : Program} {l : Launch} {e : Env} {s : State} {m : MethodId} {args : Array Value} {below : List Frame} {meth : Method} {c : Code} {G : GG} {o : Except Nat Int32} {hs' : Hs}
def j_X1_throwOthersOut_50 (a0 : Option Nat) (a1 : Option Nat) (a2 : Option Nat) (a3 : Int32) (a4 : Int32) (a5 : Int32)  (rec_16 : Int32 → Int32 → Int32 → OO Int32) : OO Int32 :=
  lets (a5 + (1 : Int32)) fun (v9 : Int32) =>
    rec_16 a3 a4 v9
set_option maxRecDepth 100000 in
set_option maxHeartbeats 4000000 in
theorem w_j_X1_throwOthersOut_50 (C : Cx G l p s m args c RX1 cX1_throwOthersOut 6) (C2 : Cy meth c (some .boolean)) {hs : Hs} (a0 : Option Nat) (a1 : Option Nat) (a2 : Option Nat) (a3 : Int32) (a4 : Int32) (a5 : Int32)  (rec_16 : Int32 → Int32 → Int32 → OO Int32) (hrec_16 : ∀ (y3 : Int32) (y4 : Int32) (y5 : Int32) hs, rec_16 y3 y4 y5 hs = some (o, hs') → WG G p l e { frames := 10, cells := 0, slots := 0, locals := 388 } s m args below meth c 6 0 0 (vx_MQ below (QcT G o hs' tvI) (XCT G o hs') args s 0 0 (gA G)) hs [(0, va_rf a0), (1, va_rf a1), (2, va_rf a2), (3, .int y3), (4, .int y4), (5, .int y5)] [] 16) (h : j_X1_throwOthersOut_50 a0 a1 a2 a3 a4 a5 rec_16 hs = some (o, hs')) : WG G p l e { frames := 10, cells := 0, slots := 0, locals := 388 } s m args below meth c 6 0 0 (vx_MQ below (QcT G o hs' tvI) (XCT G o hs') args s 0 0 (gA G)) hs [(0, va_rf a0), (1, va_rf a1), (2, va_rf a2), (3, .int a3), (4, .int a4), (5, .int a5)] [] 50 := by
  unfold j_X1_throwOthersOut_50 at h
  refine q_iinc C 5 (1 : Int32) (fun v9 => [(5, .int v9), (0, va_rf a0), (1, va_rf a1), (2, va_rf a2), (3, .int a3), (4, .int a4)]) dX1_throwOthersOut_50 rfl (by decide) (by decide) (fun _ => rfl) h (fun v9 h => ?_)
  refine q_goto C 16 dX1_throwOthersOut_53 (by decide) ?_
  refine WG.sub [1, 2, 3, 4, 5, 0] rfl ?_
  exact hrec_16 _ _ _ _ h
def L_X1_throwOthersOut_16 (a0 : Option Nat) (a1 : Option Nat) (a2 : Option Nat) (k_16_56 : Int32 → OO Int32) : Nat → Int32 → Int32 → Int32 → OO Int32
  | 0, _, _, _ => failO
  | n + 1, x3, x4, x5 =>
    gR a0 4 0 fun v5 =>
    alen v5 fun v6 =>
    (if v6 ≤ x5 then
    k_16_56 x3
    else
    gR a0 4 0 fun v7 =>
    ldI 0 v7 x5 fun v8 =>
    (if x4 ≤ v8 then
    j_X1_throwOthersOut_50 a0 a1 a2 x3 x4 x5 (L_X1_throwOthersOut_16 a0 a1 a2 k_16_56 n)
    else
    lets x5 fun (v10 : Int32) =>
    gR a0 4 0 fun v11 =>
    ldI 0 v11 x5 fun v12 =>
    lets v12 fun (v13 : Int32) =>
    j_X1_throwOthersOut_50 a0 a1 a2 v10 v13 x5 (L_X1_throwOthersOut_16 a0 a1 a2 k_16_56 n)))
set_option maxRecDepth 100000 in
set_option maxHeartbeats 4000000 in
theorem w_L_X1_throwOthersOut_16 (C : Cx G l p s m args c RX1 cX1_throwOthersOut 6) (C2 : Cy meth c (some .boolean)) (a0 : Option Nat) (a1 : Option Nat) (a2 : Option Nat) (k_16_56 : Int32 → OO Int32) (hk_16_56 : ∀ (y3 : Int32) hs, k_16_56 y3 hs = some (o, hs') → WG G p l e { frames := 10, cells := 0, slots := 0, locals := 388 } s m args below meth c 6 0 0 (vx_MQ below (QcT G o hs' tvI) (XCT G o hs') args s 0 0 (gA G)) hs [(1, va_rf a1), (2, va_rf a2), (3, .int y3)] [] 56) : ∀ (n : Nat) (x3 : Int32) (x4 : Int32) (x5 : Int32) (hs : Hs), L_X1_throwOthersOut_16 a0 a1 a2 k_16_56 n x3 x4 x5 hs = some (o, hs') → WG G p l e { frames := 10, cells := 0, slots := 0, locals := 388 } s m args below meth c 6 0 0 (vx_MQ below (QcT G o hs' tvI) (XCT G o hs') args s 0 0 (gA G)) hs [(0, va_rf a0), (1, va_rf a1), (2, va_rf a2), (3, .int x3), (4, .int x4), (5, .int x5)] [] 16 := by
  intro n
  induction n with
  | zero =>
    intro x3 x4 x5 hs h
    rw [L_X1_throwOthersOut_16] at h
    exact absurd h failO_e
  | succ n hrec_16 =>
    intro x3 x4 x5 hs h
    rw [L_X1_throwOthersOut_16] at h
    refine q_iload C 5 dX1_throwOthersOut_16 rfl ?_
    refine q_aload_n C 0 dX1_throwOthersOut_18 rfl ?_
    refine q_gR C fl_X1_9 dX1_throwOthersOut_19 h (fun v5 h => ?_)
    refine q_alen C dX1_throwOthersOut_22 h (fun v6 h => ?_)
    refine q_icmp_ge C 56 dX1_throwOthersOut_23 (by decide) h (fun h => ?_) (fun h => ?_)
    · refine WG.sub [1, 2, 3] rfl ?_
      exact hk_16_56 _ _ h
    · refine q_aload_n C 0 dX1_throwOthersOut_26 rfl ?_
      refine q_gR C fl_X1_9 dX1_throwOthersOut_27 h (fun v7 h => ?_)
      refine q_iload C 5 dX1_throwOthersOut_30 rfl ?_
      refine q_iald C dX1_throwOthersOut_32 h (fun v8 h => ?_)
      refine q_iload C 4 dX1_throwOthersOut_33 rfl ?_
      refine q_icmp_ge C 50 dX1_throwOthersOut_35 (by decide) h (fun h => ?_) (fun h => ?_)
      · exact w_j_X1_throwOthersOut_50 C C2 _ _ _ _ _ _ _ hrec_16 h
      · refine q_iload C 5 dX1_throwOthersOut_38 rfl ?_
        refine q_istore_n C (fun v10 => [(3, .int v10), (0, va_rf a0), (1, va_rf a1), (2, va_rf a2), (4, .int x4), (5, .int x5)]) dX1_throwOthersOut_40 (by decide) (fun _ => rfl) h (fun v10 h => ?_)
        refine q_aload_n C 1 dX1_throwOthersOut_41 rfl ?_
        refine q_gR C fl_X1_9 dX1_throwOthersOut_42 h (fun v11 h => ?_)
        refine q_iload C 5 dX1_throwOthersOut_45 rfl ?_
        refine q_iald C dX1_throwOthersOut_47 h (fun v12 h => ?_)
        refine q_istore C (fun v13 => [(4, .int v13), (3, .int v10), (0, va_rf a0), (1, va_rf a1), (2, va_rf a2), (5, .int x5)]) dX1_throwOthersOut_48 (by decide) (fun _ => rfl) h (fun v13 h => ?_)
        refine WG.sub [2, 3, 4, 1, 0, 5] rfl ?_
        exact w_j_X1_throwOthersOut_50 C C2 _ _ _ _ _ _ _ hrec_16 h
def j_X1_throwOthersOut_115 (a1 : Option Nat) (a2 : Option Nat) (a3 : Int32) (a5 : Int32)  (rec_66 : Int32 → OO Int32) : OO Int32 :=
  lets (a5 + (1 : Int32)) fun (v20 : Int32) =>
    rec_66 v20
set_option maxRecDepth 100000 in
set_option maxHeartbeats 4000000 in
theorem w_j_X1_throwOthersOut_115 (C : Cx G l p s m args c RX1 cX1_throwOthersOut 6) (C2 : Cy meth c (some .boolean)) {hs : Hs} (a1 : Option Nat) (a2 : Option Nat) (a3 : Int32) (a5 : Int32)  (rec_66 : Int32 → OO Int32) (hrec_66 : ∀ (y5 : Int32) hs, rec_66 y5 hs = some (o, hs') → WG G p l e { frames := 10, cells := 0, slots := 0, locals := 388 } s m args below meth c 6 0 0 (vx_MQ below (QcT G o hs' tvI) (XCT G o hs') args s 0 0 (gA G)) hs [(1, va_rf a1), (2, va_rf a2), (3, .int a3), (5, .int y5)] [] 66) (h : j_X1_throwOthersOut_115 a1 a2 a3 a5 rec_66 hs = some (o, hs')) : WG G p l e { frames := 10, cells := 0, slots := 0, locals := 388 } s m args below meth c 6 0 0 (vx_MQ below (QcT G o hs' tvI) (XCT G o hs') args s 0 0 (gA G)) hs [(1, va_rf a1), (2, va_rf a2), (3, .int a3), (5, .int a5)] [] 115 := by
  unfold j_X1_throwOthersOut_115 at h
  refine q_iinc C 3 (1 : Int32) (fun v20 => [(5, .int v20), (1, va_rf a1), (2, va_rf a2), (3, .int a3)]) dX1_throwOthersOut_115 rfl (by decide) (by decide) (fun _ => rfl) h (fun v20 h => ?_)
  refine q_goto C 66 dX1_throwOthersOut_118 (by decide) ?_
  refine WG.sub [1, 2, 3, 0] rfl ?_
  exact hrec_66 _ _ h
def L_X1_throwOthersOut_66 (a1 : Option Nat) (a2 : Option Nat) (a3 : Int32) (k_66_121 : OO Int32) : Nat → Int32 → OO Int32
  | 0, _ => failO
  | n + 1, x5 =>
    gR a1 9 2 fun v16 =>
    rcv v16 2 fun r26 => call (f_Jx4a65c_size_8abf5 r26 ) (fun (v17 : Int32) =>
    (if v17 ≤ x5 then
    k_66_121
    else
    dvz (8 : Int32) (
    call (f_X1_slotsBarredByOne a1 a2 x5 (irem a3 (8 : Int32))) (fun (v18 : Int32) =>
    dvz (8 : Int32) (
    call (f_X8_has v18 (a3 / (8 : Int32))) (fun (v19 : Int32) =>
    (if v19 = 0 then
    j_X1_throwOthersOut_115 a1 a2 a3 x5 (L_X1_throwOthersOut_66 a1 a2 a3 k_66_121 n)
    else
    gR a1 9 2 fun v21 =>
    rcv v21 2 fun r25 => call (f_Jx4a65c_get_915e3 r25 x5) (fun (v22 : Option Nat) =>
    cst v22 7 (
    rcv a1 9 fun r24 => call (f_X6_take r24 v22) (fun (v23 : Unit) =>
    j_X1_throwOthersOut_115 a1 a2 a3 x5 (L_X1_throwOthersOut_66 a1 a2 a3 k_66_121 n)) nox)) nox)) nox)) nox))) nox
set_option maxRecDepth 100000 in
set_option maxHeartbeats 4000000 in
theorem w_L_X1_throwOthersOut_66 (C : Cx G l p s m args c RX1 cX1_throwOthersOut 6) (C2 : Cy meth c (some .boolean)) (a1 : Option Nat) (a2 : Option Nat) (a3 : Int32) (k_66_121 : OO Int32) (hk_66_121 : ∀ hs, k_66_121  hs = some (o, hs') → WG G p l e { frames := 10, cells := 0, slots := 0, locals := 388 } s m args below meth c 6 0 0 (vx_MQ below (QcT G o hs' tvI) (XCT G o hs') args s 0 0 (gA G)) hs [(1, va_rf a1), (2, va_rf a2), (3, .int a3)] [] 121) : ∀ (n : Nat) (x5 : Int32) (hs : Hs), L_X1_throwOthersOut_66 a1 a2 a3 k_66_121 n x5 hs = some (o, hs') → WG G p l e { frames := 10, cells := 0, slots := 0, locals := 388 } s m args below meth c 6 0 0 (vx_MQ below (QcT G o hs' tvI) (XCT G o hs') args s 0 0 (gA G)) hs [(1, va_rf a1), (2, va_rf a2), (3, .int a3), (5, .int x5)] [] 66 := by
  intro n
  induction n with
  | zero =>
    intro x5 hs h
    rw [L_X1_throwOthersOut_66] at h
    exact absurd h failO_e
  | succ n hrec_66 =>
    intro x5 hs h
    rw [L_X1_throwOthersOut_66] at h
    refine q_iload C 3 dX1_throwOthersOut_66 rfl ?_
    refine q_aload_n C 0 dX1_throwOthersOut_68 rfl ?_
    refine q_gR C fl_X1_47 dX1_throwOthersOut_69 h (fun v16 h => ?_)
    refine q_callV C (CN := RJx4a65c) (T := TJx4a65c) (N := 3) [] [.int x5] (fun a0 o2 hs1 hm => m_Jx4a65c_size_8abf5 hm) lk_X1_51 im_Jx4a65c_size_8abf5 se_Jx4a65c_Jx4a65c_size_8abf5 rfl ⟨(Nat.le_of_ble_eq_true rfl), (Nat.le_of_ble_eq_true rfl)⟩ ⟨(Nat.le_of_ble_eq_true rfl), (Nat.le_of_ble_eq_true rfl)⟩ rfl rfl (by simp only [List.map, cat_rf, cat_i, cat_a]; decide) dX1_throwOthersOut_72 h (fun v17 hs h => WG_st (st' := [.int v17, .int x5]) rfl ?_)
    refine q_icmp_ge C 121 dX1_throwOthersOut_75 (by decide) h (fun h => ?_) (fun h => ?_)
    · refine WG.sub [0, 1, 2] rfl ?_
      exact hk_66_121 _ h
    · refine q_aload_n C 0 dX1_throwOthersOut_78 rfl ?_
      refine q_aload_n C 1 dX1_throwOthersOut_79 rfl ?_
      refine q_iload C 3 dX1_throwOthersOut_80 rfl ?_
      refine q_iload_n C 2 dX1_throwOthersOut_82 rfl ?_
      refine q_bipush C (8 : Int32) dX1_throwOthersOut_83 (by decide) ?_
      refine q_irem C dX1_throwOthersOut_85 h (fun h => ?_)
      refine q_callS C [va_rf a1, va_rf a2, .int x5, .int (irem a3 (8 : Int32))] [] (fun o2 hs1 hm => m_X1_slotsBarredByOne hm) lk_X1_56 sm_X1_slotsBarredByOne ⟨(Nat.le_of_ble_eq_true rfl), (Nat.le_of_ble_eq_true rfl)⟩ ⟨(Nat.le_of_ble_eq_true rfl), (Nat.le_of_ble_eq_true rfl)⟩ rfl rfl (by decide) dX1_throwOthersOut_86 h (fun v18 hs h => WG_st (st' := [.int v18]) rfl ?_)
      refine q_iload_n C 2 dX1_throwOthersOut_89 rfl ?_
      refine q_bipush C (8 : Int32) dX1_throwOthersOut_90 (by decide) ?_
      refine q_idiv C dX1_throwOthersOut_92 h (fun h => ?_)
      refine q_callSN C [.int v18, .int (a3 / (8 : Int32))] [] (fun o2 hs1 hm => m_X8_has hm) lk_X1_60 sm_X8_has ⟨(Nat.le_of_ble_eq_true rfl), (Nat.le_of_ble_eq_true rfl)⟩ ⟨(Nat.le_of_ble_eq_true rfl), (Nat.le_of_ble_eq_true rfl)⟩ rfl rfl (by decide) dX1_throwOthersOut_93 h (fun v19 hs h => WG_st (st' := [.int v19]) rfl ?_)
      refine q_if_eq C 115 dX1_throwOthersOut_96 (by decide) h (fun h => ?_) (fun h => ?_)
      · exact w_j_X1_throwOthersOut_115 C C2 _ _ _ _ _ hrec_66 h
      · refine q_aload_n C 0 dX1_throwOthersOut_99 rfl ?_
        refine q_aload_n C 0 dX1_throwOthersOut_100 rfl ?_
        refine q_gR C fl_X1_47 dX1_throwOthersOut_101 h (fun v21 h => ?_)
        refine q_iload C 3 dX1_throwOthersOut_104 rfl ?_
        refine q_callV C (CN := RJx4a65c) (T := TJx4a65c) (N := 3) [.int x5] [va_rf a1] (fun a0 o2 hs1 hm => m_Jx4a65c_get_915e3 hm) lk_X1_64 im_Jx4a65c_get_915e3 se_Jx4a65c_Jx4a65c_get_915e3 rfl ⟨(Nat.le_of_ble_eq_true rfl), (Nat.le_of_ble_eq_true rfl)⟩ ⟨(Nat.le_of_ble_eq_true rfl), (Nat.le_of_ble_eq_true rfl)⟩ rfl rfl (by simp only [List.map, cat_rf, cat_i, cat_a]; decide) dX1_throwOthersOut_106 h (fun v22 hs h => WG_st (st' := [va_rf v22, va_rf a1]) rfl ?_)
        refine q_castS C (nm := RX4) (T := TX4) (N := 18) rfl wc_X1_38 dX1_throwOthersOut_109 h (fun h => ?_)
        refine q_callV C (CN := RX6) (T := TX6) (N := 6) [va_rf v22] [] (fun a0 o2 hs1 hm => m_X6_take hm) lk_X1_68 im_X6_take se_X6_X6_take rfl ⟨(Nat.le_of_ble_eq_true rfl), (Nat.le_of_ble_eq_true rfl)⟩ ⟨(Nat.le_of_ble_eq_true rfl), (Nat.le_of_ble_eq_true rfl)⟩ rfl rfl (by decide) dX1_throwOthersOut_112 h (fun v23 hs h => WG_st (st' := []) rfl ?_)
        exact w_j_X1_throwOthersOut_115 C C2 _ _ _ _ _ hrec_66 h
end M_X1_throwOthersOut
def f_X1_throwOthersOut (a0 : Nat) (p1 : Option Nat) (p2 : Option Nat) : OO Int32 :=
    rcv (some a0) 4 fun r29 => call (f_X1_countOthersInTheWay r29 p1 p2) (fun (v1 : Unit) =>
    lets (-1 : Int32) fun (v2 : Int32) =>
    lets (1000 : Int32) fun (v3 : Int32) =>
    lets (0 : Int32) fun (v4 : Int32) =>
    L_X1_throwOthersOut_16 (some a0) p1 p2 (fun (v14 : Int32) => (if ¬ v14 = (-1 : Int32) then
    lets (0 : Int32) fun (v15 : Int32) =>
    L_X1_throwOthersOut_66 p1 p2 v14 (rcv p1 9 fun r28 => call (f_X6_putAt r28 p2 v14) (fun (v27 : Unit) =>
    retZ (1 : Int32)) nox) 100000 v15
    else
    retZ (0 : Int32))) 100000 v2 v3 v4) nox
set_option maxRecDepth 100000 in
set_option maxHeartbeats 4000000 in
theorem m_X1_throwOthersOut {G : GG} {l : Launch} {a0 : Nat} {p1 : Option Nat} {p2 : Option Nat} {hs hs' : Hs} {o : Except Nat Int32} (h : f_X1_throwOthersOut a0 p1 p2 hs = some (o, hs')) : CT G l yX1_throwOthersOut cX1_throwOthersOut 6 (some .boolean) 10 388 0 0 [.ref a0, va_rf p1, va_rf p2] hs o hs' tvI := by
  refine vx_ofW (cc := cX1_throwOthersOut) (maxL := 6) (ret := (some .boolean)) (by decide +kernel) rfl ?_
  intro p e s m args below meth c s₁ B hml hxt hv
  obtain ⟨hav, hR, hKn⟩ := hv
  subst hav
  have hts := atoms_spec (ws := .code yX1_throwOthersOut cX1_throwOthersOut 6 (some .boolean) :: Tg) B.pre
  have C : Cx G l p s m _ c RX1 cX1_throwOthersOut 6 := ⟨B.exec, B.bytes, hml, findClass_of_methodNamed B.named, fun w hw => hts w (List.mem_cons_of_mem _ hw), hKn, fun q hq => Nat.le_trans hR.2.2.1 hq⟩
  have C2 : Cy meth c (some .boolean) := ⟨B.returns, B.notSynchronized, hxt⟩
  have key : WG G p l e { frames := 10, cells := 0, slots := 0, locals := 388 } s m ([.ref a0, va_rf p1, va_rf p2] : List Value).toArray below meth c 6 0 0 (vx_MQ below (QcT G o hs' tvI) (XCT G o hs') ([.ref a0, va_rf p1, va_rf p2] : List Value).toArray s 0 0 (gA G)) hs [(0, va_rf (some a0)), (1, va_rf p1), (2, va_rf p2)] [] 0 := by
    unfold f_X1_throwOthersOut at h
    refine q_aload_n C 0 dX1_throwOthersOut_0 rfl ?_
    refine q_aload_n C 1 dX1_throwOthersOut_1 rfl ?_
    refine q_aload_n C 2 dX1_throwOthersOut_2 rfl ?_
    refine q_callV C (CN := RX1) (T := TX1) (N := 1) [va_rf p1, va_rf p2] [] (fun a0 o2 hs1 hm => m_X1_countOthersInTheWay hm) lk_X1_43 im_X1_countOthersInTheWay se_X1_X1_countOthersInTheWay rfl ⟨(Nat.le_of_ble_eq_true rfl), (Nat.le_of_ble_eq_true rfl)⟩ ⟨(Nat.le_of_ble_eq_true rfl), (Nat.le_of_ble_eq_true rfl)⟩ rfl rfl (by decide) dX1_throwOthersOut_3 h (fun v1 hs h => WG_st (st' := []) rfl ?_)
    refine q_iconst C (-1 : Int32) dX1_throwOthersOut_6 (by decide) ?_
    refine q_istore_n C (fun v2 => [(3, .int v2), (0, va_rf (some a0)), (1, va_rf p1), (2, va_rf p2)]) dX1_throwOthersOut_7 (by decide) (fun _ => rfl) h (fun v2 h => ?_)
    refine q_sipush C (1000 : Int32) dX1_throwOthersOut_8 (by decide) ?_
    refine q_istore C (fun v3 => [(4, .int v3), (3, .int v2), (0, va_rf (some a0)), (1, va_rf p1), (2, va_rf p2)]) dX1_throwOthersOut_11 (by decide) (fun _ => rfl) h (fun v3 h => ?_)
    refine q_iconst C (0 : Int32) dX1_throwOthersOut_13 (by decide) ?_
    refine q_istore C (fun v4 => [(5, .int v4), (4, .int v3), (3, .int v2), (0, va_rf (some a0)), (1, va_rf p1), (2, va_rf p2)]) dX1_throwOthersOut_14 (by decide) (fun _ => rfl) h (fun v4 h => ?_)
    refine WG.sub [3, 4, 5, 2, 1, 0] rfl ?_
    refine w_L_X1_throwOthersOut_16 C C2 _ _ _ _ ?_ _ _ _ _ _ h
    · intro v14 hs h
      refine q_iload_n C 2 dX1_throwOthersOut_56 rfl ?_
      refine q_iconst C (-1 : Int32) dX1_throwOthersOut_57 (by decide) ?_
      refine q_icmp_ne C 63 dX1_throwOthersOut_58 (by decide) h (fun h => ?_) (fun h => ?_)
      · refine q_iconst C (0 : Int32) dX1_throwOthersOut_63 (by decide) ?_
        refine q_istore C (fun v15 => [(5, .int v15), (1, va_rf p1), (2, va_rf p2), (3, .int v14)]) dX1_throwOthersOut_64 (by decide) (fun _ => rfl) h (fun v15 h => ?_)
        refine WG.sub [1, 2, 3, 0] rfl ?_
        refine w_L_X1_throwOthersOut_66 C C2 _ _ _ _ ?_ _ _ _ h
        · intro  hs h
          refine q_aload_n C 0 dX1_throwOthersOut_121 rfl ?_
          refine q_aload_n C 1 dX1_throwOthersOut_122 rfl ?_
          refine q_iload_n C 2 dX1_throwOthersOut_123 rfl ?_
          refine q_callV C (CN := RX6) (T := TX6) (N := 6) [va_rf p2, .int v14] [] (fun a0 o2 hs1 hm => m_X6_putAt hm) lk_X1_29 im_X6_putAt se_X6_X6_putAt rfl ⟨(Nat.le_of_ble_eq_true rfl), (Nat.le_of_ble_eq_true rfl)⟩ ⟨(Nat.le_of_ble_eq_true rfl), (Nat.le_of_ble_eq_true rfl)⟩ rfl rfl (by decide) dX1_throwOthersOut_124 h (fun v27 hs h => WG_st (st' := []) rfl ?_)
          refine q_iconst C (1 : Int32) dX1_throwOthersOut_127 (by decide) ?_
          exact q_zret C C2 rfl (Nat.le_of_ble_eq_true rfl) (Nat.le_of_ble_eq_true rfl) dX1_throwOthersOut_128 h
      · refine q_iconst C (0 : Int32) dX1_throwOthersOut_61 (by decide) ?_
        exact q_zret C C2 rfl (Nat.le_of_ble_eq_true rfl) (Nat.le_of_ble_eq_true rfl) dX1_throwOthersOut_62 h
  rw [lg_entry_eq]
  cases p1 <;> cases p2 <;> exact key _ _ _ hR va_S.rf ⟨lv_entry _ (n := 6) (Nat.le_of_ble_eq_true rfl), (c1_r (c1_r (c1_r c1_n)))⟩

theorem cd_X1_fillUp : Cond.code yX1_fillUp cX1_fillUp 7 none ∈ Tg := Tg_of (i := 260) (by decide +kernel) (by decide +kernel)
theorem ml_X1_15 : Cond.methodLink RX1 15 yX6_unplaced ∈ Tg := Tg_of (i := 261) (by decide +kernel) (by decide +kernel)
theorem lk_X1_15 : Lk RX1 15 yX6_unplaced cX6_unplaced 3 (some .int) 0 := ⟨ml_X1_15, cd_X6_unplaced, iw_X6, by decide +kernel⟩
theorem ml_X1_21 : Cond.methodLink RX1 21 yX6_findHardest ∈ Tg := Tg_of (i := 284) (by decide +kernel) (by decide +kernel)
theorem lk_X1_21 : Lk RX1 21 yX6_findHardest cX6_findHardest 6 (some (.object "Termgrid$Lesson")) 1 := ⟨ml_X1_21, cd_X6_findHardest, iw_X6, by decide +kernel⟩
theorem ml_X1_25 : Cond.methodLink RX1 25 yX6_findCheapest ∈ Tg := Tg_of (i := 374) (by decide +kernel) (by decide +kernel)
theorem lk_X1_25 : Lk RX1 25 yX6_findCheapest cX6_findCheapest 2 (some .int) 1 := ⟨ml_X1_25, cd_X6_findCheapest, iw_X6, by decide +kernel⟩
theorem wf_X1_37 : Cond.fieldLink RX1 37 RX4 (TX4 0).2.1 (TX4 0).2.2.1 ∈ Tg := Tg_of (i := 889) (by decide +kernel) (by decide +kernel)
theorem fl_X1_37 : Fld RX1 37 7 0 .int := ⟨RX4, TX4, 18, RX4, rfl, by decide, wf_X1_37, (Or.inl rfl), gu_X4, tyX4_ok _ (by decide), ⟨tyX4, tyX4_ok⟩, nmX4⟩
theorem ml_X1_33 : Cond.methodLink RX1 33 yX1_throwOthersOut ∈ Tg := Tg_of (i := 419) (by decide +kernel) (by decide +kernel)
theorem lk_X1_33 : Lk RX1 33 yX1_throwOthersOut cX1_throwOthersOut 6 (some .boolean) 2 := ⟨ml_X1_33, cd_X1_throwOthersOut, iw_X1, by decide +kernel⟩
theorem im_X1_throwOthersOut : Cond.instanceMethod yX1_throwOthersOut ∈ Tg := Tg_of (i := 421) (by decide +kernel) (by decide +kernel)
theorem se_X1_X1_throwOthersOut : Cond.selects RX1 yX1_throwOthersOut yX1_throwOthersOut ∈ Tg := Tg_of (i := 7) (by decide +kernel) (by decide +kernel)
theorem im_X6_findCheapest : Cond.instanceMethod yX6_findCheapest ∈ Tg := Tg_of (i := 375) (by decide +kernel) (by decide +kernel)
theorem se_X6_X6_findCheapest : Cond.selects RX6 yX6_findCheapest yX6_findCheapest ∈ Tg := Tg_of (i := 376) (by decide +kernel) (by decide +kernel)
theorem im_X6_findHardest : Cond.instanceMethod yX6_findHardest ∈ Tg := Tg_of (i := 285) (by decide +kernel) (by decide +kernel)
theorem se_X6_X6_findHardest : Cond.selects RX6 yX6_findHardest yX6_findHardest ∈ Tg := Tg_of (i := 286) (by decide +kernel) (by decide +kernel)
theorem im_X6_unplaced : Cond.instanceMethod yX6_unplaced ∈ Tg := Tg_of (i := 262) (by decide +kernel) (by decide +kernel)
theorem se_X6_X6_unplaced : Cond.selects RX6 yX6_unplaced yX6_unplaced ∈ Tg := Tg_of (i := 263) (by decide +kernel) (by decide +kernel)
section M_X1_fillUp
variable {p : Program} {l : Launch} {e : Env} {s : State} {m : MethodId} {args : Array Value} {below : List Frame} {meth : Method} {c : Code} {G : GG} {o : Except Nat Unit} {hs' : Hs}
def j_X1_fillUp_92 (a0 : Option Nat) (a1 : Option Nat) (a2 : Int32) (a3 : Int32) (a4 : Int32)  (rec_7 : Int32 → Int32 → Int32 → OO Unit) : OO Unit :=
  lets (a4 + (1 : Int32)) fun (v11 : Int32) =>
    rec_7 a2 a3 v11
set_option maxRecDepth 100000 in
set_option maxHeartbeats 4000000 in
theorem w_j_X1_fillUp_92 (C : Cx G l p s m args c RX1 cX1_fillUp 7) (C2 : Cy meth c none) {hs : Hs} (a0 : Option Nat) (a1 : Option Nat) (a2 : Int32) (a3 : Int32) (a4 : Int32)  (rec_7 : Int32 → Int32 → Int32 → OO Unit) (hrec_7 : ∀ (y2 : Int32) (y3 : Int32) (y4 : Int32) hs, rec_7 y2 y3 y4 hs = some (o, hs') → WG G p l e { frames := 12, cells := 0, slots := 0, locals := 430 } s m args below meth c 7 0 0 (vx_MQ below (QcT G o hs' tvV) (XCT G o hs') args s 0 0 (gA G)) hs [(0, va_rf a0), (1, va_rf a1), (2, .int y2), (3, .int y3), (4, .int y4)] [] 7) (h : j_X1_fillUp_92 a0 a1 a2 a3 a4 rec_7 hs = some (o, hs')) : WG G p l e { frames := 12, cells := 0, slots := 0, locals := 430 } s m args below meth c 7 0 0 (vx_MQ below (QcT G o hs' tvV) (XCT G o hs') args s 0 0 (gA G)) hs [(0, va_rf a0), (1, va_rf a1), (2, .int a2), (3, .int a3), (4, .int a4)] [] 92 := by
  unfold j_X1_fillUp_92 at h
  refine q_iinc C 4 (1 : Int32) (fun v11 => [(4, .int v11), (0, va_rf a0), (1, va_rf a1), (2, .int a2), (3, .int a3)]) dX1_fillUp_92 rfl (by decide) (by decide) (fun _ => rfl) h (fun v11 h => ?_)
  refine q_goto C 7 dX1_fillUp_95 (by decide) ?_
  refine WG.sub [1, 2, 3, 4, 0] rfl ?_
  exact hrec_7 _ _ _ _ h
def j_X1_fillUp_82 (a0 : Option Nat) (a1 : Option Nat) (a2 : Int32) (a3 : Int32) (a4 : Int32) (a5 : Option Nat)  (rec_7 : Int32 → Int32 → Int32 → OO Unit) : OO Unit :=
  gI a5 7 0 fun v9 =>
    lets ((a2 ||| (((1 : Int32) <<< (v9 &&& 31))))) fun (v10 : Int32) =>
    j_X1_fillUp_92 a0 a1 v10 a3 a4 rec_7
set_option maxRecDepth 100000 in
set_option maxHeartbeats 4000000 in
theorem w_j_X1_fillUp_82 (C : Cx G l p s m args c RX1 cX1_fillUp 7) (C2 : Cy meth c none) {hs : Hs} (a0 : Option Nat) (a1 : Option Nat) (a2 : Int32) (a3 : Int32) (a4 : Int32) (a5 : Option Nat)  (rec_7 : Int32 → Int32 → Int32 → OO Unit) (hrec_7 : ∀ (y2 : Int32) (y3 : Int32) (y4 : Int32) hs, rec_7 y2 y3 y4 hs = some (o, hs') → WG G p l e { frames := 12, cells := 0, slots := 0, locals := 430 } s m args below meth c 7 0 0 (vx_MQ below (QcT G o hs' tvV) (XCT G o hs') args s 0 0 (gA G)) hs [(0, va_rf a0), (1, va_rf a1), (2, .int y2), (3, .int y3), (4, .int y4)] [] 7) (h : j_X1_fillUp_82 a0 a1 a2 a3 a4 a5 rec_7 hs = some (o, hs')) : WG G p l e { frames := 12, cells := 0, slots := 0, locals := 430 } s m args below meth c 7 0 0 (vx_MQ below (QcT G o hs' tvV) (XCT G o hs') args s 0 0 (gA G)) hs [(0, va_rf a0), (1, va_rf a1), (2, .int a2), (3, .int a3), (4, .int a4), (5, va_rf a5)] [] 82 := by
  unfold j_X1_fillUp_82 at h
  refine q_iload_n C 2 dX1_fillUp_82 rfl ?_
  refine q_iconst C (1 : Int32) dX1_fillUp_83 (by decide) ?_
  refine q_aload C 5 dX1_fillUp_84 rfl ?_
  refine q_gI C fl_X1_37 dX1_fillUp_86 h (fun v9 h => ?_)
  refine q_ishl C dX1_fillUp_89 ?_
  refine q_ior C dX1_fillUp_90 ?_
  refine q_istore_n C (fun v10 => [(2, .int v10), (0, va_rf a0), (1, va_rf a1), (3, .int a3), (4, .int a4), (5, va_rf a5)]) dX1_fillUp_91 (by decide) (fun _ => rfl) h (fun v10 h => ?_)
  refine WG.sub [1, 2, 0, 3, 4] rfl ?_
  exact w_j_X1_fillUp_92 C C2 _ _ _ _ _ _ hrec_7 h
def L_X1_fillUp_7 (a0 : Option Nat) (a1 : Option Nat) (k_7_34 : OO Unit) (k_7_98 : OO Unit) : Nat → Int32 → Int32 → Int32 → OO Unit
  | 0, _, _, _ => failO
  | n + 1, x2, x3, x4 =>
    (if (1000 : Int32) ≤ x4 then
    k_7_98
    else
    rcv a1 9 fun r19 => call (f_X6_unplaced r19 ) (fun (v4 : Int32) =>
    rcv a1 9 fun r18 => call (f_X6_findHardest r18 (v4 &&& (x2 ^^^ (-1 : Int32)))) (fun (v5 : Option Nat) =>
    lets v5 fun (v6 : Option Nat) =>
    (if ¬ v6 = none then
    rcv a1 9 fun r17 => call (f_X6_findCheapest r17 v6) (fun (v7 : Int32) =>
    lets v7 fun (v8 : Int32) =>
    (if v8 = (-1 : Int32) then
    (if (10 : Int32) ≤ x3 then
    j_X1_fillUp_82 a0 a1 x2 x3 x4 v6 (L_X1_fillUp_7 a0 a1 k_7_34 k_7_98 n)
    else
    rcv a0 4 fun r14 => call (f_X1_throwOthersOut r14 a1 v6) (fun (v12 : Int32) =>
    (if v12 = 0 then
    j_X1_fillUp_82 a0 a1 x2 x3 x4 v6 (L_X1_fillUp_7 a0 a1 k_7_34 k_7_98 n)
    else
    lets (x3 + (1 : Int32)) fun (v13 : Int32) =>
    j_X1_fillUp_92 a0 a1 x2 v13 x4 (L_X1_fillUp_7 a0 a1 k_7_34 k_7_98 n))) nox)
    else
    rcv a1 9 fun r16 => call (f_X6_putAt r16 v6 v8) (fun (v15 : Unit) =>
    j_X1_fillUp_92 a0 a1 x2 x3 x4 (L_X1_fillUp_7 a0 a1 k_7_34 k_7_98 n)) nox)) nox
    else
    k_7_34)) nox) nox)
set_option maxRecDepth 100000 in
set_option maxHeartbeats 4000000 in
theorem w_L_X1_fillUp_7 (C : Cx G l p s m args c RX1 cX1_fillUp 7) (C2 : Cy meth c none) (a0 : Option Nat) (a1 : Option Nat) (k_7_34 : OO Unit) (k_7_98 : OO Unit) (hk_7_34 : ∀ hs, k_7_34  hs = some (o, hs') → WG G p l e { frames := 12, cells := 0, slots := 0, locals := 430 } s m args below meth c 7 0 0 (vx_MQ below (QcT G o hs' tvV) (XCT G o hs') args s 0 0 (gA G)) hs [] [] 34) (hk_7_98 : ∀ hs, k_7_98  hs = some (o, hs') → WG G p l e { frames := 12, cells := 0, slots := 0, locals := 430 } s m args below meth c 7 0 0 (vx_MQ below (QcT G o hs' tvV) (XCT G o hs') args s 0 0 (gA G)) hs [] [] 98) : ∀ (n : Nat) (x2 : Int32) (x3 : Int32) (x4 : Int32) (hs : Hs), L_X1_fillUp_7 a0 a1 k_7_34 k_7_98 n x2 x3 x4 hs = some (o, hs') → WG G p l e { frames := 12, cells := 0, slots := 0, locals := 430 } s m args below meth c 7 0 0 (vx_MQ below (QcT G o hs' tvV) (XCT G o hs') args s 0 0 (gA G)) hs [(0, va_rf a0), (1, va_rf a1), (2, .int x2), (3, .int x3), (4, .int x4)] [] 7 := by
  intro n
  induction n with
  | zero =>
    intro x2 x3 x4 hs h
    rw [L_X1_fillUp_7] at h
    exact absurd h failO_e
  | succ n hrec_7 =>
    intro x2 x3 x4 hs h
    rw [L_X1_fillUp_7] at h
    refine q_iload C 4 dX1_fillUp_7 rfl ?_
    refine q_sipush C (1000 : Int32) dX1_fillUp_9 (by decide) ?_
    refine q_icmp_ge C 98 dX1_fillUp_12 (by decide) h (fun h => ?_) (fun h => ?_)
    · refine WG.sub [] rfl ?_
      exact hk_7_98 _ h
    · refine q_aload_n C 1 dX1_fillUp_15 rfl ?_
      refine q_aload_n C 1 dX1_fillUp_16 rfl ?_
      refine q_callV C (CN := RX6) (T := TX6) (N := 6) [] [va_rf a1] (fun a0 o2 hs1 hm => m_X6_unplaced hm) lk_X1_15 im_X6_unplaced se_X6_X6_unplaced rfl ⟨(Nat.le_of_ble_eq_true rfl), (Nat.le_of_ble_eq_true rfl)⟩ ⟨(Nat.le_of_ble_eq_true rfl), (Nat.le_of_ble_eq_true rfl)⟩ rfl rfl (by simp only [List.map, cat_rf, cat_i, cat_a]; decide) dX1_fillUp_17 h (fun v4 hs h => WG_st (st' := [.int v4, va_rf a1]) rfl ?_)
      refine q_iload_n C 2 dX1_fillUp_20 rfl ?_
      refine q_iconst C (-1 : Int32) dX1_fillUp_21 (by decide) ?_
      refine q_ixor C dX1_fillUp_22 ?_
      refine q_iand C dX1_fillUp_23 ?_
      refine q_callV C (CN := RX6) (T := TX6) (N := 6) [.int (v4 &&& (x2 ^^^ (-1 : Int32)))] [] (fun a0 o2 hs1 hm => m_X6_findHardest hm) lk_X1_21 im_X6_findHardest se_X6_X6_findHardest rfl ⟨(Nat.le_of_ble_eq_true rfl), (Nat.le_of_ble_eq_true rfl)⟩ ⟨(Nat.le_of_ble_eq_true rfl), (Nat.le_of_ble_eq_true rfl)⟩ rfl rfl (by decide) dX1_fillUp_24 h (fun v5 hs h => WG_st (st' := [va_rf v5]) rfl ?_)
      refine q_astore C (fun v6 => [(5, va_rf v6), (0, va_rf a0), (1, va_rf a1), (2, .int x2), (3, .int x3), (4, .int x4)]) dX1_fillUp_27 (by decide) (fun _ => rfl) h (fun v6 h => ?_)
      refine q_aload C 0 dX1_fillUp_29 rfl ?_
      refine q_ifnonnull C 35 dX1_fillUp_31 (by decide) h (fun h => ?_) (fun h => ?_)
      · refine q_aload_n C 2 dX1_fillUp_35 rfl ?_
        refine q_aload C 0 dX1_fillUp_36 rfl ?_
        refine q_callV C (CN := RX6) (T := TX6) (N := 6) [va_rf v6] [] (fun a0 o2 hs1 hm => m_X6_findCheapest hm) lk_X1_25 im_X6_findCheapest se_X6_X6_findCheapest rfl ⟨(Nat.le_of_ble_eq_true rfl), (Nat.le_of_ble_eq_true rfl)⟩ ⟨(Nat.le_of_ble_eq_true rfl), (Nat.le_of_ble_eq_true rfl)⟩ rfl rfl (by decide) dX1_fillUp_38 h (fun v7 hs h => WG_st (st' := [.int v7]) rfl ?_)
        refine q_istore C (fun v8 => [(6, .int v8), (5, va_rf v6), (0, va_rf a0), (1, va_rf a1), (2, .int x2), (3, .int x3), (4, .int x4)]) dX1_fillUp_41 (by decide) (fun _ => rfl) h (fun v8 h => ?_)
        refine q_iload C 0 dX1_fillUp_43 rfl ?_
        refine q_iconst C (-1 : Int32) dX1_fillUp_45 (by decide) ?_
        refine q_icmp_eq C 60 dX1_fillUp_46 (by decide) h (fun h => ?_) (fun h => ?_)
        · refine q_iload_n C 5 dX1_fillUp_60 rfl ?_
          refine q_bipush C (10 : Int32) dX1_fillUp_61 (by decide) ?_
          refine q_icmp_ge C 82 dX1_fillUp_63 (by decide) h (fun h => ?_) (fun h => ?_)
          · refine WG.sub [2, 3, 4, 5, 6, 1] rfl ?_
            exact w_j_X1_fillUp_82 C C2 _ _ _ _ _ _ _ hrec_7 h
          · refine q_aload_n C 2 dX1_fillUp_66 rfl ?_
            refine q_aload_n C 3 dX1_fillUp_67 rfl ?_
            refine q_aload C 1 dX1_fillUp_68 rfl ?_
            refine q_callV C (CN := RX1) (T := TX1) (N := 1) [va_rf a1, va_rf v6] [] (fun a0 o2 hs1 hm => m_X1_throwOthersOut hm) lk_X1_33 im_X1_throwOthersOut se_X1_X1_throwOthersOut rfl ⟨(Nat.le_of_ble_eq_true rfl), (Nat.le_of_ble_eq_true rfl)⟩ ⟨(Nat.le_of_ble_eq_true rfl), (Nat.le_of_ble_eq_true rfl)⟩ rfl rfl (by decide) dX1_fillUp_70 h (fun v12 hs h => WG_st (st' := [.int v12]) rfl ?_)
            refine q_if_eq C 82 dX1_fillUp_73 (by decide) h (fun h => ?_) (fun h => ?_)
            · refine WG.sub [2, 3, 4, 5, 6, 1] rfl ?_
              exact w_j_X1_fillUp_82 C C2 _ _ _ _ _ _ _ hrec_7 h
            · refine q_iinc C 5 (1 : Int32) (fun v13 => [(3, .int v13), (6, .int v8), (5, va_rf v6), (0, va_rf a0), (1, va_rf a1), (2, .int x2), (4, .int x4)]) dX1_fillUp_76 rfl (by decide) (by decide) (fun _ => rfl) h (fun v13 h => ?_)
              refine q_goto C 92 dX1_fillUp_79 (by decide) ?_
              refine WG.sub [3, 4, 5, 0, 6] rfl ?_
              exact w_j_X1_fillUp_92 C C2 _ _ _ _ _ _ hrec_7 h
        · refine q_aload_n C 3 dX1_fillUp_49 rfl ?_
          refine q_aload C 1 dX1_fillUp_50 rfl ?_
          refine q_iload C 0 dX1_fillUp_52 rfl ?_
          refine q_callV C (CN := RX6) (T := TX6) (N := 6) [va_rf v6, .int v8] [] (fun a0 o2 hs1 hm => m_X6_putAt hm) lk_X1_29 im_X6_putAt se_X6_X6_putAt rfl ⟨(Nat.le_of_ble_eq_true rfl), (Nat.le_of_ble_eq_true rfl)⟩ ⟨(Nat.le_of_ble_eq_true rfl), (Nat.le_of_ble_eq_true rfl)⟩ rfl rfl (by decide) dX1_fillUp_54 h (fun v15 hs h => WG_st (st' := []) rfl ?_)
          refine q_goto C 92 dX1_fillUp_57 (by decide) ?_
          refine WG.sub [2, 3, 4, 5, 6] rfl ?_
          exact w_j_X1_fillUp_92 C C2 _ _ _ _ _ _ hrec_7 h
      · refine WG.sub [] rfl ?_
        exact hk_7_34 _ h
end M_X1_fillUp
def f_X1_fillUp (a0 : Nat) (p1 : Option Nat) : OO Unit :=
    lets (0 : Int32) fun (v1 : Int32) =>
    lets (0 : Int32) fun (v2 : Int32) =>
    lets (0 : Int32) fun (v3 : Int32) =>
    L_X1_fillUp_7 (some a0) p1 (rtn ()) (rtn ()) 100000 v1 v2 v3
set_option maxRecDepth 100000 in
set_option maxHeartbeats 4000000 in
theorem m_X1_fillUp {G : GG} {l : Launch} {a0 : Nat} {p1 : Option Nat} {hs hs' : Hs} {o : Except Nat Unit} (h : f_X1_fillUp a0 p1 hs = some (o, hs')) : CT G l yX1_fillUp cX1_fillUp 7 none 12 430 0 0 [.ref a0, va_rf p1] hs o hs' tvV := by
  refine vx_ofW (cc := cX1_fillUp) (maxL := 7) (ret := none) (by decide +kernel) rfl ?_
  intro p e s m args below meth c s₁ B hml hxt hv
  obtain ⟨hav, hR, hKn⟩ := hv
  subst hav
  have hts := atoms_spec (ws := .code yX1_fillUp cX1_fillUp 7 none :: Tg) B.pre
  have C : Cx G l p s m _ c RX1 cX1_fillUp 7 := ⟨B.exec, B.bytes, hml, findClass_of_methodNamed B.named, fun w hw => hts w (List.mem_cons_of_mem _ hw), hKn, fun q hq => Nat.le_trans hR.2.2.1 hq⟩
  have C2 : Cy meth c none := ⟨B.returns, B.notSynchronized, hxt⟩
  have key : WG G p l e { frames := 12, cells := 0, slots := 0, locals := 430 } s m ([.ref a0, va_rf p1] : List Value).toArray below meth c 7 0 0 (vx_MQ below (QcT G o hs' tvV) (XCT G o hs') ([.ref a0, va_rf p1] : List Value).toArray s 0 0 (gA G)) hs [(0, va_rf (some a0)), (1, va_rf p1)] [] 0 := by
    unfold f_X1_fillUp at h
    refine q_iconst C (0 : Int32) dX1_fillUp_0 (by decide) ?_
    refine q_istore_n C (fun v1 => [(2, .int v1), (0, va_rf (some a0)), (1, va_rf p1)]) dX1_fillUp_1 (by decide) (fun _ => rfl) h (fun v1 h => ?_)
    refine q_iconst C (0 : Int32) dX1_fillUp_2 (by decide) ?_
    refine q_istore_n C (fun v2 => [(3, .int v2), (2, .int v1), (0, va_rf (some a0)), (1, va_rf p1)]) dX1_fillUp_3 (by decide) (fun _ => rfl) h (fun v2 h => ?_)
    refine q_iconst C (0 : Int32) dX1_fillUp_4 (by decide) ?_
    refine q_istore C (fun v3 => [(4, .int v3), (3, .int v2), (2, .int v1), (0, va_rf (some a0)), (1, va_rf p1)]) dX1_fillUp_5 (by decide) (fun _ => rfl) h (fun v3 h => ?_)
    refine WG.sub [3, 4, 2, 1, 0] rfl ?_
    refine w_L_X1_fillUp_7 C C2 _ _ _ _ ?_ ?_ _ _ _ _ _ h
    · intro  hs h
      exact q_vret C C2 rfl (Nat.le_of_ble_eq_true rfl) (Nat.le_of_ble_eq_true rfl) dX1_fillUp_34 h
    · intro  hs h
      exact q_vret C C2 rfl (Nat.le_of_ble_eq_true rfl) (Nat.le_of_ble_eq_true rfl) dX1_fillUp_98 h
  rw [lg_entry_eq]
  cases p1 <;> exact key _ _ _ hR va_S.rf ⟨lv_entry _ (n := 7) (Nat.le_of_ble_eq_true rfl), (c1_r (c1_r c1_n))⟩

theorem cd_X2_init : Cond.code yX2_init cX2_init 2 none ∈ Tg := Tg_of (i := 818) (by decide +kernel) (by decide +kernel)
theorem wf_X2_7 : Cond.fieldLink RX2 7 RX2 (TX2 0).2.1 (TX2 0).2.2.1 ∈ Tg := Tg_of (i := 820) (by decide +kernel) (by decide +kernel)
theorem fw_X2_7 : FldW RX2 7 5 0 .int true := ⟨RX2, TX2, 1, RX2, rfl, by decide, wf_X2_7, (Or.inl rfl), gu_X2, tyX2_ok _ (by decide), ⟨tyX2, tyX2_ok⟩, nmX2, rfl, fun _ => rfl⟩
theorem mo_X2_1 : Cond.methodLink RX2 1 Lib.objectInit ∈ Tg := Tg_of (i := 819) (by decide +kernel) (by decide +kernel)
section M_X2_init
variable {p : Program} {l : Launch} {e : Env} {s : State} {m : MethodId} {args : Array Value} {below : List Frame} {meth : Method} {c : Code} {G : GG} {o : Except Nat Unit} {hs' : Hs}
end M_X2_init
def f_X2_init (a0 : Nat) (p1 : Int32) : OO Unit :=
    pI (some a0) 5 0 p1 (
    rtn ())
set_option maxRecDepth 100000 in
set_option maxHeartbeats 4000000 in
theorem m_X2_init {G : GG} {l : Launch} {a0 : Nat} {p1 : Int32} {hs hs' : Hs} {o : Except Nat Unit} (h : f_X2_init a0 p1 hs = some (o, hs')) : CT G l yX2_init cX2_init 2 none 1 20 0 0 [.ref a0, .int p1] hs o hs' tvV := by
  refine vx_ofW (cc := cX2_init) (maxL := 2) (ret := none) (by decide +kernel) rfl ?_
  intro p e s m args below meth c s₁ B hml hxt hv
  obtain ⟨hav, hR, hKn⟩ := hv
  subst hav
  have hts := atoms_spec (ws := .code yX2_init cX2_init 2 none :: Tg) B.pre
  have C : Cx G l p s m _ c RX2 cX2_init 2 := ⟨B.exec, B.bytes, hml, findClass_of_methodNamed B.named, fun w hw => hts w (List.mem_cons_of_mem _ hw), hKn, fun q hq => Nat.le_trans hR.2.2.1 hq⟩
  have C2 : Cy meth c none := ⟨B.returns, B.notSynchronized, hxt⟩
  have hin : meth.name = "<init>" := (name_of_methodNamed B.named B.method).1
  have key : WG G p l e { frames := 1, cells := 0, slots := 0, locals := 20 } s m ([.ref a0, .int p1] : List Value).toArray below meth c 2 0 0 (vx_MQ below (QcT G o hs' tvV) (XCT G o hs') ([.ref a0, .int p1] : List Value).toArray s 0 0 (gA G)) hs [(0, va_rf (some a0)), (1, .int p1)] [] 0 := by
    unfold f_X2_init at h
    refine q_aload_n C 0 dX2_init_0 rfl ?_
    refine q_objInit C rfl mo_X2_1 im_objInit cd_objInit (Nat.le_of_ble_eq_true rfl) (Nat.le_of_ble_eq_true rfl) (by decide) dX2_init_1 ?_
    refine q_aload_n C 0 dX2_init_4 rfl ?_
    refine q_iload_n C 1 dX2_init_5 rfl ?_
    refine q_pI C fw_X2_7 (fun _ => hin) dX2_init_6 h (fun hs h => ?_)
    exact q_vret C C2 rfl (Nat.le_of_ble_eq_true rfl) (Nat.le_of_ble_eq_true rfl) dX2_init_9 h
  rw [lg_entry_eq]
  exact key _ _ _ hR va_S.rf ⟨lv_entry _ (n := 2) (Nat.le_of_ble_eq_true rfl), (c1_r (c1_i c1_n))⟩

theorem cd_X3_init : Cond.code yX3_init cX3_init 1 none ∈ Tg := Tg_of (i := 201) (by decide +kernel) (by decide +kernel)
theorem wf_X3_9 : Cond.fieldLink RX3 9 RX3 (TX3 0).2.1 (TX3 0).2.2.1 ∈ Tg := Tg_of (i := 203) (by decide +kernel) (by decide +kernel)
set_option maxRecDepth 100000 in
theorem gu_X3 : ∀ w ∈ u_ws RX3 TX3 2, w ∈ Tg := by decide +kernel
theorem fw_X3_9 : FldW RX3 9 6 0 (.array .int) true := ⟨RX3, TX3, 2, RX3, rfl, by decide, wf_X3_9, (Or.inl rfl), gu_X3, tyX3_ok _ (by decide), ⟨tyX3, tyX3_ok⟩, nmX3, rfl, fun _ => rfl⟩
theorem wf_X3_15 : Cond.fieldLink RX3 15 RX3 (TX3 1).2.1 (TX3 1).2.2.1 ∈ Tg := Tg_of (i := 204) (by decide +kernel) (by decide +kernel)
theorem fw_X3_15 : FldW RX3 15 6 1 (.array .int) true := ⟨RX3, TX3, 2, RX3, rfl, by decide, wf_X3_15, (Or.inl rfl), gu_X3, tyX3_ok _ (by decide), ⟨tyX3, tyX3_ok⟩, nmX3, rfl, fun _ => rfl⟩
theorem mo_X3_3 : Cond.methodLink RX3 3 Lib.objectInit ∈ Tg := Tg_of (i := 202) (by decide +kernel) (by decide +kernel)
section M_X3_init
variable {p : Program} {l : Launch} {e : Env} {s : State} {m : MethodId} {args : Array Value} {below : List Frame} {meth : Method} {c : Code} {G : GG} {o : Except Nat Unit} {hs' : Hs}
end M_X3_init
def f_X3_init (a0 : Nat) : OO Unit :=
    nwI 0 (16 : Int32) 16 fun q1 =>
    pR (some a0) 6 0 (some q1) (
    nwI 0 (16 : Int32) 16 fun q2 =>
    pR (some a0) 6 1 (some q2) (
    rtn ()))
set_option maxRecDepth 100000 in
set_option maxHeartbeats 4000000 in
theorem m_X3_init {G : GG} {l : Launch} {a0 : Nat} {hs hs' : Hs} {o : Except Nat Unit} (h : f_X3_init a0 hs = some (o, hs')) : CT G l yX3_init cX3_init 1 none 1 20 2 32 [.ref a0] hs o hs' tvV := by
  refine vx_ofW (cc := cX3_init) (maxL := 1) (ret := none) (by decide +kernel) rfl ?_
  intro p e s m args below meth c s₁ B hml hxt hv
  obtain ⟨hav, hR, hKn⟩ := hv
  subst hav
  have hts := atoms_spec (ws := .code yX3_init cX3_init 1 none :: Tg) B.pre
  have C : Cx G l p s m _ c RX3 cX3_init 1 := ⟨B.exec, B.bytes, hml, findClass_of_methodNamed B.named, fun w hw => hts w (List.mem_cons_of_mem _ hw), hKn, fun q hq => Nat.le_trans hR.2.2.1 hq⟩
  have C2 : Cy meth c none := ⟨B.returns, B.notSynchronized, hxt⟩
  have hin : meth.name = "<init>" := (name_of_methodNamed B.named B.method).1
  have key : WG G p l e { frames := 1, cells := 2, slots := 32, locals := 20 } s m ([.ref a0] : List Value).toArray below meth c 1 0 0 (vx_MQ below (QcT G o hs' tvV) (XCT G o hs') ([.ref a0] : List Value).toArray s 2 32 (gA G)) hs [(0, va_rf (some a0))] [] 0 := by
    unfold f_X3_init at h
    refine q_aload_n C 0 dX3_init_0 rfl ?_
    refine q_objInit C rfl mo_X3_3 im_objInit cd_objInit (Nat.le_of_ble_eq_true rfl) (Nat.le_of_ble_eq_true rfl) (by decide) dX3_init_1 ?_
    refine q_aload_n C 0 dX3_init_4 rfl ?_
    refine q_bipush C (16 : Int32) dX3_init_5 (by decide) ?_
    refine q_newI C 16 (Nat.le_of_ble_eq_true rfl) ac_0 (Nat.le_of_ble_eq_true rfl) (Nat.le_of_ble_eq_true rfl) dX3_init_7 h (fun q1 hs h => ?_)
    refine q_pR C fw_X3_9 (fun _ => hin) rfl dX3_init_9 h (fun hs h => ?_)
    refine q_aload_n C 0 dX3_init_12 rfl ?_
    refine q_bipush C (16 : Int32) dX3_init_13 (by decide) ?_
    refine q_newI C 16 (Nat.le_of_ble_eq_true rfl) ac_0 (Nat.le_of_ble_eq_true rfl) (Nat.le_of_ble_eq_true rfl) dX3_init_15 h (fun q2 hs h => ?_)
    refine q_pR C fw_X3_15 (fun _ => hin) rfl dX3_init_17 h (fun hs h => ?_)
    exact q_vret C C2 rfl (Nat.le_of_ble_eq_true rfl) (Nat.le_of_ble_eq_true rfl) dX3_init_20 h
  rw [lg_entry_eq]
  exact key _ _ _ hR va_S.rf ⟨lv_entry _ (n := 1) (Nat.le_of_ble_eq_true rfl), (c1_r c1_n)⟩

theorem cd_X4_placeNow : Cond.code yX4_placeNow cX4_placeNow 1 (some .int) ∈ Tg := Tg_of (i := 1174) (by decide +kernel) (by decide +kernel)
section M_X4_placeNow
variable {p : Program} {l : Launch} {e : Env} {s : State} {m : MethodId} {args : Array Value} {below : List Frame} {meth : Method} {c : Code} {G : GG} {o : Except Nat Int32} {hs' : Hs}
end M_X4_placeNow
def f_X4_placeNow (a0 : Nat) : OO Int32 :=
    gR (some a0) 7 6 fun v1 =>
    (if ¬ v1 = none then
    gI (some a0) 7 7 fun v2 =>
    gR (some a0) 7 6 fun v3 =>
    gI v3 8 0 fun v4 =>
    rtn (((8 : Int32) * v2) + v4)
    else
    rtn (-1 : Int32))
set_option maxRecDepth 100000 in
set_option maxHeartbeats 4000000 in
theorem m_X4_placeNow {G : GG} {l : Launch} {a0 : Nat} {hs hs' : Hs} {o : Except Nat Int32} (h : f_X4_placeNow a0 hs = some (o, hs')) : CT G l yX4_placeNow cX4_placeNow 1 (some .int) 0 0 0 0 [.ref a0] hs o hs' tvI := by
  refine vx_ofW (cc := cX4_placeNow) (maxL := 1) (ret := (some .int)) (by decide +kernel) rfl ?_
  intro p e s m args below meth c s₁ B hml hxt hv
  obtain ⟨hav, hR, hKn⟩ := hv
  subst hav
  have hts := atoms_spec (ws := .code yX4_placeNow cX4_placeNow 1 (some .int) :: Tg) B.pre
  have C : Cx G l p s m _ c RX4 cX4_placeNow 1 := ⟨B.exec, B.bytes, hml, findClass_of_methodNamed B.named, fun w hw => hts w (List.mem_cons_of_mem _ hw), hKn, fun q hq => Nat.le_trans hR.2.2.1 hq⟩
  have C2 : Cy meth c (some .int) := ⟨B.returns, B.notSynchronized, hxt⟩
  have key : WG G p l e { frames := 0, cells := 0, slots := 0, locals := 0 } s m ([.ref a0] : List Value).toArray below meth c 1 0 0 (vx_MQ below (QcT G o hs' tvI) (XCT G o hs') ([.ref a0] : List Value).toArray s 0 0 (gA G)) hs [(0, va_rf (some a0))] [] 0 := by
    unfold f_X4_placeNow at h
    refine q_aload_n C 0 dX4_placeNow_0 rfl ?_
    refine q_gR C fl_X4_56 dX4_placeNow_1 h (fun v1 h => ?_)
    refine q_ifnonnull C 11 dX4_placeNow_4 (by decide) h (fun h => ?_) (fun h => ?_)
    · refine q_bipush C (8 : Int32) dX4_placeNow_11 (by decide) ?_
      refine q_aload_n C 0 dX4_placeNow_13 rfl ?_
      refine q_gI C fl_X4_9 dX4_placeNow_14 h (fun v2 h => ?_)
      refine q_imul C dX4_placeNow_17 ?_
      refine q_aload_n C 0 dX4_placeNow_18 rfl ?_
      refine q_gR C fl_X4_56 dX4_placeNow_19 h (fun v3 h => ?_)
      refine q_gI C fl_X4_60 dX4_placeNow_22 h (fun v4 h => ?_)
      refine q_iadd C dX4_placeNow_25 ?_
      exact q_iret C C2 rfl (Nat.le_of_ble_eq_true rfl) (Nat.le_of_ble_eq_true rfl) dX4_placeNow_26 h
    · refine q_iconst C (-1 : Int32) dX4_placeNow_7 (by decide) ?_
      refine q_goto C 26 dX4_placeNow_8 (by decide) ?_
      exact q_iret C C2 rfl (Nat.le_of_ble_eq_true rfl) (Nat.le_of_ble_eq_true rfl) dX4_placeNow_26 h
  rw [lg_entry_eq]
  exact key _ _ _ hR va_S.rf ⟨lv_entry _ (n := 1) (Nat.le_of_ble_eq_true rfl), (c1_r c1_n)⟩

theorem cd_X6_copyPlaces : Cond.code yX6_copyPlaces cX6_copyPlaces 3 none ∈ Tg := Tg_of (i := 1262) (by decide +kernel) (by decide +kernel)
theorem ml_X6_122 : Cond.methodLink RX6 122 yJ7_fill_53178 ∈ Tg := Tg_of (i := 1263) (by decide +kernel) (by decide +kernel)
theorem lk_X6_122 : Lk RX6 122 yJ7_fill_53178 cJ7_fill_53178 4 none 2 := ⟨ml_X6_122, cd_J7_fill_53178, iw_J7, by decide +kernel⟩
theorem ml_X6_128 : Cond.methodLink RX6 128 yX4_placeNow ∈ Tg := Tg_of (i := 1264) (by decide +kernel) (by decide +kernel)
theorem lk_X6_128 : Lk RX6 128 yX4_placeNow cX4_placeNow 1 (some .int) 0 := ⟨ml_X6_128, cd_X4_placeNow, iw_X4, by decide +kernel⟩
theorem im_X4_placeNow : Cond.instanceMethod yX4_placeNow ∈ Tg := Tg_of (i := 1172) (by decide +kernel) (by decide +kernel)
theorem se_X4_X4_placeNow : Cond.selects RX4 yX4_placeNow yX4_placeNow ∈ Tg := Tg_of (i := 1173) (by decide +kernel) (by decide +kernel)
section M_X6_copyPlaces
variable {p : Program} {l : Launch} {e : Env} {s : State} {m : MethodId} {args : Array Value} {below : List Frame} {meth : Method} {c : Code} {G : GG} {o : Except Nat Unit} {hs' : Hs}
def L_X6_copyPlaces_7 (a0 : Option Nat) (a1 : Option Nat) (k_7_47 : OO Unit) : Nat → Int32 → OO Unit
  | 0, _ => failO
  | n + 1, x2 =>
    gR a0 9 2 fun v3 =>
    rcv v3 2 fun r12 => call (f_Jx4a65c_size_8abf5 r12 ) (fun (v4 : Int32) =>
    (if v4 ≤ x2 then
    k_7_47
    else
    alen a1 fun v5 =>
    (if v5 ≤ x2 then
    k_7_47
    else
    gR a0 9 2 fun v6 =>
    rcv v6 2 fun r11 => call (f_Jx4a65c_get_915e3 r11 x2) (fun (v7 : Option Nat) =>
    cst v7 7 (
    rcv v7 7 fun r10 => call (f_X4_placeNow r10 ) (fun (v8 : Int32) =>
    stI a1 x2 v8 (
    lets (x2 + (1 : Int32)) fun (v9 : Int32) =>
    (L_X6_copyPlaces_7 a0 a1 k_7_47 n) v9)) nox)) nox))) nox
set_option maxRecDepth 100000 in
set_option maxHeartbeats 4000000 in
theorem w_L_X6_copyPlaces_7 (C : Cx G l p s m args c RX6 cX6_copyPlaces 3) (C2 : Cy meth c none) (a0 : Option Nat) (a1 : Option Nat) (k_7_47 : OO Unit) (hk_7_47 : ∀ hs, k_7_47  hs = some (o, hs') → WG G p l e { frames := 3, cells := 0, slots := 0, locals := 64 } s m args below meth c 3 0 0 (vx_MQ below (QcT G o hs' tvV) (XCT G o hs') args s 0 0 (gA G)) hs [] [] 47) : ∀ (n : Nat) (x2 : Int32) (hs : Hs), L_X6_copyPlaces_7 a0 a1 k_7_47 n x2 hs = some (o, hs') → WG G p l e { frames := 3, cells := 0, slots := 0, locals := 64 } s m args below meth c 3 0 0 (vx_MQ below (QcT G o hs' tvV) (XCT G o hs') args s 0 0 (gA G)) hs [(0, va_rf a0), (1, va_rf a1), (2, .int x2)] [] 7 := by
  intro n
  induction n with
  | zero =>
    intro x2 hs h
    rw [L_X6_copyPlaces_7] at h
    exact absurd h failO_e
  | succ n hrec_7 =>
    intro x2 hs h
    rw [L_X6_copyPlaces_7] at h
    refine q_iload_n C 2 dX6_copyPlaces_7 rfl ?_
    refine q_aload_n C 0 dX6_copyPlaces_8 rfl ?_
    refine q_gR C fl_X6_21 dX6_copyPlaces_9 h (fun v3 h => ?_)
    refine q_callV C (CN := RJx4a65c) (T := TJx4a65c) (N := 3) [] [.int x2] (fun a0 o2 hs1 hm => m_Jx4a65c_size_8abf5 hm) lk_X6_52 im_Jx4a65c_size_8abf5 se_Jx4a65c_Jx4a65c_size_8abf5 rfl ⟨(Nat.le_of_ble_eq_true rfl), (Nat.le_of_ble_eq_true rfl)⟩ ⟨(Nat.le_of_ble_eq_true rfl), (Nat.le_of_ble_eq_true rfl)⟩ rfl rfl (by simp only [List.map, cat_rf, cat_i, cat_a]; decide) dX6_copyPlaces_12 h (fun v4 hs h => WG_st (st' := [.int v4, .int x2]) rfl ?_)
    refine q_icmp_ge C 47 dX6_copyPlaces_15 (by decide) h (fun h => ?_) (fun h => ?_)
    · refine WG.sub [] rfl ?_
      exact hk_7_47 _ h
    · refine q_iload_n C 2 dX6_copyPlaces_18 rfl ?_
      refine q_aload_n C 1 dX6_copyPlaces_19 rfl ?_
      refine q_alen C dX6_copyPlaces_20 h (fun v5 h => ?_)
      refine q_icmp_ge C 47 dX6_copyPlaces_21 (by decide) h (fun h => ?_) (fun h => ?_)
      · refine WG.sub [] rfl ?_
        exact hk_7_47 _ h
      · refine q_aload_n C 1 dX6_copyPlaces_24 rfl ?_
        refine q_iload_n C 2 dX6_copyPlaces_25 rfl ?_
        refine q_aload_n C 0 dX6_copyPlaces_26 rfl ?_
        refine q_gR C fl_X6_21 dX6_copyPlaces_27 h (fun v6 h => ?_)
        refine q_iload_n C 2 dX6_copyPlaces_30 rfl ?_
        refine q_callV C (CN := RJx4a65c) (T := TJx4a65c) (N := 3) [.int x2] [.int x2, va_rf a1] (fun a0 o2 hs1 hm => m_Jx4a65c_get_915e3 hm) lk_X6_56 im_Jx4a65c_get_915e3 se_Jx4a65c_Jx4a65c_get_915e3 rfl ⟨(Nat.le_of_ble_eq_true rfl), (Nat.le_of_ble_eq_true rfl)⟩ ⟨(Nat.le_of_ble_eq_true rfl), (Nat.le_of_ble_eq_true rfl)⟩ rfl rfl (by simp only [List.map, cat_rf, cat_i, cat_a]; decide) dX6_copyPlaces_31 h (fun v7 hs h => WG_st (st' := [va_rf v7, .int x2, va_rf a1]) rfl ?_)
        refine q_castS C (nm := RX4) (T := TX4) (N := 18) rfl wc_X6_32 dX6_copyPlaces_34 h (fun h => ?_)
        refine q_callV C (CN := RX4) (T := TX4) (N := 18) [] [.int x2, va_rf a1] (fun a0 o2 hs1 hm => m_X4_placeNow hm) lk_X6_128 im_X4_placeNow se_X4_X4_placeNow rfl ⟨(Nat.le_of_ble_eq_true rfl), (Nat.le_of_ble_eq_true rfl)⟩ ⟨(Nat.le_of_ble_eq_true rfl), (Nat.le_of_ble_eq_true rfl)⟩ rfl rfl (by simp only [List.map, cat_rf, cat_i, cat_a]; decide) dX6_copyPlaces_37 h (fun v8 hs h => WG_st (st' := [.int v8, .int x2, va_rf a1]) rfl ?_)
        refine q_iast C dX6_copyPlaces_40 h (fun hs h => ?_)
        refine q_iinc C 2 (1 : Int32) (fun v9 => [(2, .int v9), (0, va_rf a0), (1, va_rf a1)]) dX6_copyPlaces_41 rfl (by decide) (by decide) (fun _ => rfl) h (fun v9 h => ?_)
        refine q_goto C 7 dX6_copyPlaces_44 (by decide) ?_
        refine WG.sub [1, 2, 0] rfl ?_
        exact hrec_7 _ _ h
end M_X6_copyPlaces
def f_X6_copyPlaces (a0 : Nat) (p1 : Option Nat) : OO Unit :=
    call (f_J7_fill_53178 p1 (-1 : Int32)) (fun (v1 : Unit) =>
    lets (0 : Int32) fun (v2 : Int32) =>
    L_X6_copyPlaces_7 (some a0) p1 (rtn ()) 100000 v2) nox
set_option maxRecDepth 100000 in
set_option maxHeartbeats 4000000 in
theorem m_X6_copyPlaces {G : GG} {l : Launch} {a0 : Nat} {p1 : Option Nat} {hs hs' : Hs} {o : Except Nat Unit} (h : f_X6_copyPlaces a0 p1 hs = some (o, hs')) : CT G l yX6_copyPlaces cX6_copyPlaces 3 none 3 64 0 0 [.ref a0, va_rf p1] hs o hs' tvV := by
  refine vx_ofW (cc := cX6_copyPlaces) (maxL := 3) (ret := none) (by decide +kernel) rfl ?_
  intro p e s m args below meth c s₁ B hml hxt hv
  obtain ⟨hav, hR, hKn⟩ := hv
  subst hav
  have hts := atoms_spec (ws := .code yX6_copyPlaces cX6_copyPlaces 3 none :: Tg) B.pre
  have C : Cx G l p s m _ c RX6 cX6_copyPlaces 3 := ⟨B.exec, B.bytes, hml, findClass_of_methodNamed B.named, fun w hw => hts w (List.mem_cons_of_mem _ hw), hKn, fun q hq => Nat.le_trans hR.2.2.1 hq⟩
  have C2 : Cy meth c none := ⟨B.returns, B.notSynchronized, hxt⟩
  have key : WG G p l e { frames := 3, cells := 0, slots := 0, locals := 64 } s m ([.ref a0, va_rf p1] : List Value).toArray below meth c 3 0 0 (vx_MQ below (QcT G o hs' tvV) (XCT G o hs') ([.ref a0, va_rf p1] : List Value).toArray s 0 0 (gA G)) hs [(0, va_rf (some a0)), (1, va_rf p1)] [] 0 := by
    unfold f_X6_copyPlaces at h
    refine q_aload_n C 1 dX6_copyPlaces_0 rfl ?_
    refine q_iconst C (-1 : Int32) dX6_copyPlaces_1 (by decide) ?_
    refine q_callS C [va_rf p1, .int (-1 : Int32)] [] (fun o2 hs1 hm => m_J7_fill_53178 hm) lk_X6_122 sm_J7_fill_53178 ⟨(Nat.le_of_ble_eq_true rfl), (Nat.le_of_ble_eq_true rfl)⟩ ⟨(Nat.le_of_ble_eq_true rfl), (Nat.le_of_ble_eq_true rfl)⟩ rfl rfl (by decide) dX6_copyPlaces_2 h (fun v1 hs h => WG_st (st' := []) rfl ?_)
    refine q_iconst C (0 : Int32) dX6_copyPlaces_5 (by decide) ?_
    refine q_istore_n C (fun v2 => [(2, .int v2), (0, va_rf (some a0)), (1, va_rf p1)]) dX6_copyPlaces_6 (by decide) (fun _ => rfl) h (fun v2 h => ?_)
    refine WG.sub [1, 2, 0] rfl ?_
    refine w_L_X6_copyPlaces_7 C C2 _ _ _ ?_ _ _ _ h
    · intro  hs h
      exact q_vret C C2 rfl (Nat.le_of_ble_eq_true rfl) (Nat.le_of_ble_eq_true rfl) dX6_copyPlaces_47 h
  rw [lg_entry_eq]
  cases p1 <;> exact key _ _ _ hR va_S.rf ⟨lv_entry _ (n := 3) (Nat.le_of_ble_eq_true rfl), (c1_r (c1_r c1_n))⟩

theorem cd_X6_costKept : Cond.code yX6_costKept cX6_costKept 3 (some .int) ∈ Tg := Tg_of (i := 467) (by decide +kernel) (by decide +kernel)
theorem lk_X6_134 : LkN RX6 134 yX8_at "Termgrid" cX8_at 2 (some .int) 2 := ⟨by decide +kernel, cd_X8_at, iw_X8, by decide +kernel⟩
section M_X6_costKept
variable {p : Program} {l : Launch} {e : Env} {s : State} {m : MethodId} {args : Array Value} {below : List Frame} {meth : Method} {c : Code} {G : GG} {o : Except Nat Int32} {hs' : Hs}
def L_X6_costKept_4 (a0 : Option Nat) (k_4_35 : Int32 → OO Int32) : Nat → Int32 → Int32 → OO Int32
  | 0, _, _ => failO
  | n + 1, x1, x2 =>
    (if (4 : Int32) ≤ x2 then
    k_4_35 x1
    else
    gR a0 9 3 fun v3 =>
    call (f_X8_at v3 x2) (fun (v4 : Int32) =>
    gR a0 9 4 fun v5 =>
    call (f_X8_at v5 x2) (fun (v6 : Int32) =>
    lets (x1 + (v4 * v6)) fun (v7 : Int32) =>
    lets (x2 + (1 : Int32)) fun (v8 : Int32) =>
    (L_X6_costKept_4 a0 k_4_35 n) v7 v8) nox) nox)
set_option maxRecDepth 100000 in
set_option maxHeartbeats 4000000 in
theorem w_L_X6_costKept_4 (C : Cx G l p s m args c RX6 cX6_costKept 3) (C2 : Cy meth c (some .int)) (a0 : Option Nat) (k_4_35 : Int32 → OO Int32) (hk_4_35 : ∀ (y1 : Int32) hs, k_4_35 y1 hs = some (o, hs') → WG G p l e { frames := 1, cells := 0, slots := 0, locals := 21 } s m args below meth c 3 0 0 (vx_MQ below (QcT G o hs' tvI) (XCT G o hs') args s 0 0 (gA G)) hs [(1, .int y1)] [] 35) : ∀ (n : Nat) (x1 : Int32) (x2 : Int32) (hs : Hs), L_X6_costKept_4 a0 k_4_35 n x1 x2 hs = some (o, hs') → WG G p l e { frames := 1, cells := 0, slots := 0, locals := 21 } s m args below meth c 3 0 0 (vx_MQ below (QcT G o hs' tvI) (XCT G o hs') args s 0 0 (gA G)) hs [(0, va_rf a0), (1, .int x1), (2, .int x2)] [] 4 := by
  intro n
  induction n with
  | zero =>
    intro x1 x2 hs h
    rw [L_X6_costKept_4] at h
    exact absurd h failO_e
  | succ n hrec_4 =>
    intro x1 x2 hs h
    rw [L_X6_costKept_4] at h
    refine q_iload_n C 2 dX6_costKept_4 rfl ?_
    refine q_iconst C (4 : Int32) dX6_costKept_5 (by decide) ?_
    refine q_icmp_ge C 35 dX6_costKept_6 (by decide) h (fun h => ?_) (fun h => ?_)
    · refine WG.sub [1] rfl ?_
      exact hk_4_35 _ _ h
    · refine q_iload_n C 1 dX6_costKept_9 rfl ?_
      refine q_aload_n C 0 dX6_costKept_10 rfl ?_
      refine q_gR C fl_X6_24 dX6_costKept_11 h (fun v3 h => ?_)
      refine q_iload_n C 2 dX6_costKept_14 rfl ?_
      refine q_callSN C [va_rf v3, .int x2] [.int x1] (fun o2 hs1 hm => m_X8_at hm) lk_X6_134 sm_X8_at ⟨(Nat.le_of_ble_eq_true rfl), (Nat.le_of_ble_eq_true rfl)⟩ ⟨(Nat.le_of_ble_eq_true rfl), (Nat.le_of_ble_eq_true rfl)⟩ rfl rfl (by simp only [List.map, cat_rf, cat_i, cat_a]; decide) dX6_costKept_15 h (fun v4 hs h => WG_st (st' := [.int v4, .int x1]) rfl ?_)
      refine q_aload_n C 0 dX6_costKept_18 rfl ?_
      refine q_gR C fl_X6_28 dX6_costKept_19 h (fun v5 h => ?_)
      refine q_iload_n C 2 dX6_costKept_22 rfl ?_
      refine q_callSN C [va_rf v5, .int x2] [.int v4, .int x1] (fun o2 hs1 hm => m_X8_at hm) lk_X6_134 sm_X8_at ⟨(Nat.le_of_ble_eq_true rfl), (Nat.le_of_ble_eq_true rfl)⟩ ⟨(Nat.le_of_ble_eq_true rfl), (Nat.le_of_ble_eq_true rfl)⟩ rfl rfl (by simp only [List.map, cat_rf, cat_i, cat_a]; decide) dX6_costKept_23 h (fun v6 hs h => WG_st (st' := [.int v6, .int v4, .int x1]) rfl ?_)
      refine q_imul C dX6_costKept_26 ?_
      refine q_iadd C dX6_costKept_27 ?_
      refine q_istore_n C (fun v7 => [(1, .int v7), (0, va_rf a0), (2, .int x2)]) dX6_costKept_28 (by decide) (fun _ => rfl) h (fun v7 h => ?_)
      refine q_iinc C 2 (1 : Int32) (fun v8 => [(2, .int v8), (1, .int v7), (0, va_rf a0)]) dX6_costKept_29 rfl (by decide) (by decide) (fun _ => rfl) h (fun v8 h => ?_)
      refine q_goto C 4 dX6_costKept_32 (by decide) ?_
      refine WG.sub [2, 1, 0] rfl ?_
      exact hrec_4 _ _ _ h
end M_X6_costKept
def f_X6_costKept (a0 : Nat) : OO Int32 :=
    lets (0 : Int32) fun (v1 : Int32) =>
    lets (0 : Int32) fun (v2 : Int32) =>
    L_X6_costKept_4 (some a0) (fun (v9 : Int32) => rtn v9) 100000 v1 v2
set_option maxRecDepth 100000 in
set_option maxHeartbeats 4000000 in
theorem m_X6_costKept {G : GG} {l : Launch} {a0 : Nat} {hs hs' : Hs} {o : Except Nat Int32} (h : f_X6_costKept a0 hs = some (o, hs')) : CT G l yX6_costKept cX6_costKept 3 (some .int) 1 21 0 0 [.ref a0] hs o hs' tvI := by
  refine vx_ofW (cc := cX6_costKept) (maxL := 3) (ret := (some .int)) (by decide +kernel) rfl ?_
  intro p e s m args below meth c s₁ B hml hxt hv
  obtain ⟨hav, hR, hKn⟩ := hv
  subst hav
  have hts := atoms_spec (ws := .code yX6_costKept cX6_costKept 3 (some .int) :: Tg) B.pre
  have C : Cx G l p s m _ c RX6 cX6_costKept 3 := ⟨B.exec, B.bytes, hml, findClass_of_methodNamed B.named, fun w hw => hts w (List.mem_cons_of_mem _ hw), hKn, fun q hq => Nat.le_trans hR.2.2.1 hq⟩
  have C2 : Cy meth c (some .int) := ⟨B.returns, B.notSynchronized, hxt⟩
  have key : WG G p l e { frames := 1, cells := 0, slots := 0, locals := 21 } s m ([.ref a0] : List Value).toArray below meth c 3 0 0 (vx_MQ below (QcT G o hs' tvI) (XCT G o hs') ([.ref a0] : List Value).toArray s 0 0 (gA G)) hs [(0, va_rf (some a0))] [] 0 := by
    unfold f_X6_costKept at h
    refine q_iconst C (0 : Int32) dX6_costKept_0 (by decide) ?_
    refine q_istore_n C (fun v1 => [(1, .int v1), (0, va_rf (some a0))]) dX6_costKept_1 (by decide) (fun _ => rfl) h (fun v1 h => ?_)
    refine q_iconst C (0 : Int32) dX6_costKept_2 (by decide) ?_
    refine q_istore_n C (fun v2 => [(2, .int v2), (1, .int v1), (0, va_rf (some a0))]) dX6_costKept_3 (by decide) (fun _ => rfl) h (fun v2 h => ?_)
    refine WG.sub [2, 1, 0] rfl ?_
    refine w_L_X6_costKept_4 C C2 _ _ ?_ _ _ _ _ h
    · intro v9 hs h
      refine q_iload_n C 0 dX6_costKept_35 rfl ?_
      exact q_iret C C2 rfl (Nat.le_of_ble_eq_true rfl) (Nat.le_of_ble_eq_true rfl) dX6_costKept_36 h
  rw [lg_entry_eq]
  exact key _ _ _ hR va_S.rf ⟨lv_entry _ (n := 3) (Nat.le_of_ble_eq_true rfl), (c1_r c1_n)⟩

theorem cd_X6_isPast : Cond.code yX6_isPast cX6_isPast 2 (some .boolean) ∈ Tg := Tg_of (i := 531) (by decide +kernel) (by decide +kernel)
section M_X6_isPast
variable {p : Program} {l : Launch} {e : Env} {s : State} {m : MethodId} {args : Array Value} {below : List Frame} {meth : Method} {c : Code} {G : GG} {o : Except Nat Int32} {hs' : Hs}
end M_X6_isPast
def f_X6_isPast (a0 : Nat) (p1 : Option Nat) : OO Int32 :=
    gR p1 7 6 fun v1 =>
    (if v1 = none then
    retZ (0 : Int32)
    else
    gI p1 7 7 fun v2 =>
    dvz (6 : Int32) (
    gI (some a0) 9 5 fun v3 =>
    (if v3 ≤ (v2 / (6 : Int32)) then
    retZ (0 : Int32)
    else
    retZ (1 : Int32))))
set_option maxRecDepth 100000 in
set_option maxHeartbeats 4000000 in
theorem m_X6_isPast {G : GG} {l : Launch} {a0 : Nat} {p1 : Option Nat} {hs hs' : Hs} {o : Except Nat Int32} (h : f_X6_isPast a0 p1 hs = some (o, hs')) : CT G l yX6_isPast cX6_isPast 2 (some .boolean) 0 0 0 0 [.ref a0, va_rf p1] hs o hs' tvI := by
  refine vx_ofW (cc := cX6_isPast) (maxL := 2) (ret := (some .boolean)) (by decide +kernel) rfl ?_
  intro p e s m args below meth c s₁ B hml hxt hv
  obtain ⟨hav, hR, hKn⟩ := hv
  subst hav
  have hts := atoms_spec (ws := .code yX6_isPast cX6_isPast 2 (some .boolean) :: Tg) B.pre
  have C : Cx G l p s m _ c RX6 cX6_isPast 2 := ⟨B.exec, B.bytes, hml, findClass_of_methodNamed B.named, fun w hw => hts w (List.mem_cons_of_mem _ hw), hKn, fun q hq => Nat.le_trans hR.2.2.1 hq⟩
  have C2 : Cy meth c (some .boolean) := ⟨B.returns, B.notSynchronized, hxt⟩
  have key : WG G p l e { frames := 0, cells := 0, slots := 0, locals := 0 } s m ([.ref a0, va_rf p1] : List Value).toArray below meth c 2 0 0 (vx_MQ below (QcT G o hs' tvI) (XCT G o hs') ([.ref a0, va_rf p1] : List Value).toArray s 0 0 (gA G)) hs [(0, va_rf (some a0)), (1, va_rf p1)] [] 0 := by
    unfold f_X6_isPast at h
    refine q_aload_n C 1 dX6_isPast_0 rfl ?_
    refine q_gR C fl_X6_31 dX6_isPast_1 h (fun v1 h => ?_)
    refine q_ifnull C 25 dX6_isPast_4 (by decide) h (fun h => ?_) (fun h => ?_)
    · refine q_iconst C (0 : Int32) dX6_isPast_25 (by decide) ?_
      exact q_zret C C2 rfl (Nat.le_of_ble_eq_true rfl) (Nat.le_of_ble_eq_true rfl) dX6_isPast_26 h
    · refine q_aload_n C 1 dX6_isPast_7 rfl ?_
      refine q_gI C fl_X6_37 dX6_isPast_8 h (fun v2 h => ?_)
      refine q_bipush C (6 : Int32) dX6_isPast_11 (by decide) ?_
      refine q_idiv C dX6_isPast_13 h (fun h => ?_)
      refine q_aload_n C 0 dX6_isPast_14 rfl ?_
      refine q_gI C fl_X6_41 dX6_isPast_15 h (fun v3 h => ?_)
      refine q_icmp_ge C 25 dX6_isPast_18 (by decide) h (fun h => ?_) (fun h => ?_)
      · refine q_iconst C (0 : Int32) dX6_isPast_25 (by decide) ?_
        exact q_zret C C2 rfl (Nat.le_of_ble_eq_true rfl) (Nat.le_of_ble_eq_true rfl) dX6_isPast_26 h
      · refine q_iconst C (1 : Int32) dX6_isPast_21 (by decide) ?_
        refine q_goto C 26 dX6_isPast_22 (by decide) ?_
        exact q_zret C C2 rfl (Nat.le_of_ble_eq_true rfl) (Nat.le_of_ble_eq_true rfl) dX6_isPast_26 h
  rw [lg_entry_eq]
  cases p1 <;> exact key _ _ _ hR va_S.rf ⟨lv_entry _ (n := 2) (Nat.le_of_ble_eq_true rfl), (c1_r (c1_r c1_n))⟩

theorem cd_X6_isFree : Cond.code yX6_isFree cX6_isFree 2 (some .boolean) ∈ Tg := Tg_of (i := 1103) (by decide +kernel) (by decide +kernel)
theorem wf_X6_44 : Cond.fieldLink RX6 44 RX4 (TX4 8).2.1 (TX4 8).2.2.1 ∈ Tg := Tg_of (i := 913) (by decide +kernel) (by decide +kernel)
theorem fl_X6_44 : Fld RX6 44 7 8 .boolean := ⟨RX4, TX4, 18, RX4, rfl, by decide, wf_X6_44, (Or.inl rfl), gu_X4, tyX4_ok _ (by decide), ⟨tyX4, tyX4_ok⟩, nmX4⟩
theorem ml_X6_48 : Cond.methodLink RX6 48 yX6_isPast ∈ Tg := Tg_of (i := 528) (by decide +kernel) (by decide +kernel)
theorem lk_X6_48 : Lk RX6 48 yX6_isPast cX6_isPast 2 (some .boolean) 1 := ⟨ml_X6_48, cd_X6_isPast, iw_X6, by decide +kernel⟩
theorem im_X6_isPast : Cond.instanceMethod yX6_isPast ∈ Tg := Tg_of (i := 529) (by decide +kernel) (by decide +kernel)
theorem se_X6_X6_isPast : Cond.selects RX6 yX6_isPast yX6_isPast ∈ Tg := Tg_of (i := 530) (by decide +kernel) (by decide +kernel)
section M_X6_isFree
variable {p : Program} {l : Launch} {e : Env} {s : State} {m : MethodId} {args : Array Value} {below : List Frame} {meth : Method} {c : Code} {G : GG} {o : Except Nat Int32} {hs' : Hs}
end M_X6_isFree
def f_X6_isFree (a0 : Nat) (p1 : Option Nat) : OO Int32 :=
    gI p1 7 8 fun v1 =>
    (if ¬ v1 = 0 then
    retZ (0 : Int32)
    else
    rcv (some a0) 9 fun r3 => call (f_X6_isPast r3 p1) (fun (v2 : Int32) =>
    (if ¬ v2 = 0 then
    retZ (0 : Int32)
    else
    retZ (1 : Int32))) nox)
set_option maxRecDepth 100000 in
set_option maxHeartbeats 4000000 in
theorem m_X6_isFree {G : GG} {l : Launch} {a0 : Nat} {p1 : Option Nat} {hs hs' : Hs} {o : Except Nat Int32} (h : f_X6_isFree a0 p1 hs = some (o, hs')) : CT G l yX6_isFree cX6_isFree 2 (some .boolean) 1 21 0 0 [.ref a0, va_rf p1] hs o hs' tvI := by
  refine vx_ofW (cc := cX6_isFree) (maxL := 2) (ret := (some .boolean)) (by decide +kernel) rfl ?_
  intro p e s m args below meth c s₁ B hml hxt hv
  obtain ⟨hav, hR, hKn⟩ := hv
  subst hav
  have hts := atoms_spec (ws := .code yX6_isFree cX6_isFree 2 (some .boolean) :: Tg) B.pre
  have C : Cx G l p s m _ c RX6 cX6_isFree 2 := ⟨B.exec, B.bytes, hml, findClass_of_methodNamed B.named, fun w hw => hts w (List.mem_cons_of_mem _ hw), hKn, fun q hq => Nat.le_trans hR.2.2.1 hq⟩
  have C2 : Cy meth c (some .boolean) := ⟨B.returns, B.notSynchronized, hxt⟩
  have key : WG G p l e { frames := 1, cells := 0, slots := 0, locals := 21 } s m ([.ref a0, va_rf p1] : List Value).toArray below meth c 2 0 0 (vx_MQ below (QcT G o hs' tvI) (XCT G o hs') ([.ref a0, va_rf p1] : List Value).toArray s 0 0 (gA G)) hs [(0, va_rf (some a0)), (1, va_rf p1)] [] 0 := by
    unfold f_X6_isFree at h
    refine q_aload_n C 1 dX6_isFree_0 rfl ?_
    refine q_gI C fl_X6_44 dX6_isFree_1 h (fun v1 h => ?_)
    refine q_if_ne C 19 dX6_isFree_4 (by decide) h (fun h => ?_) (fun h => ?_)
    · refine q_iconst C (0 : Int32) dX6_isFree_19 (by decide) ?_
      exact q_zret C C2 rfl (Nat.le_of_ble_eq_true rfl) (Nat.le_of_ble_eq_true rfl) dX6_isFree_20 h
    · refine q_aload_n C 0 dX6_isFree_7 rfl ?_
      refine q_aload_n C 1 dX6_isFree_8 rfl ?_
      refine q_callV C (CN := RX6) (T := TX6) (N := 6) [va_rf p1] [] (fun a0 o2 hs1 hm => m_X6_isPast hm) lk_X6_48 im_X6_isPast se_X6_X6_isPast rfl ⟨(Nat.le_of_ble_eq_true rfl), (Nat.le_of_ble_eq_true rfl)⟩ ⟨(Nat.le_of_ble_eq_true rfl), (Nat.le_of_ble_eq_true rfl)⟩ rfl rfl (by decide) dX6_isFree_9 h (fun v2 hs h => WG_st (st' := [.int v2]) rfl ?_)
      refine q_if_ne C 19 dX6_isFree_12 (by decide) h (fun h => ?_) (fun h => ?_)
      · refine q_iconst C (0 : Int32) dX6_isFree_19 (by decide) ?_
        exact q_zret C C2 rfl (Nat.le_of_ble_eq_true rfl) (Nat.le_of_ble_eq_true rfl) dX6_isFree_20 h
      · refine q_iconst C (1 : Int32) dX6_isFree_15 (by decide) ?_
        refine q_goto C 20 dX6_isFree_16 (by decide) ?_
        exact q_zret C C2 rfl (Nat.le_of_ble_eq_true rfl) (Nat.le_of_ble_eq_true rfl) dX6_isFree_20 h
  rw [lg_entry_eq]
  cases p1 <;> exact key _ _ _ hR va_S.rf ⟨lv_entry _ (n := 2) (Nat.le_of_ble_eq_true rfl), (c1_r (c1_r c1_n))⟩

