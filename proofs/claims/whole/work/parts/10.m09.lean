theorem cd_X8_isLocked : Cond.code yX8_isLocked cX8_isLocked 2 (some .boolean) ∈ Tg := Tg_of (i := 1163) (by decide +kernel) (by decide +kernel)
section M_X8_isLocked
variable {p : Program} {l : Launch} {e : Env} {s : State} {m : MethodId} {args : Array Value} {below : List Frame} {meth : Method} {c : Code} {G : GG} {o : Except Nat Int32} {hs' : Hs}
end M_X8_isLocked
def f_X8_isLocked (a0 : Nat) (p1 : Int32) : OO Int32 :=
    rcv (some a0) 11 fun r3 => call (f_X8_lessonNumbered r3 p1) (fun (v1 : Option Nat) =>
    gI v1 7 8 fun v2 =>
    retZ v2) thr
set_option maxRecDepth 100000 in
set_option maxHeartbeats 4000000 in
theorem m_X8_isLocked {G : GG} {l : Launch} {a0 : Nat} {p1 : Int32} {hs hs' : Hs} {o : Except Nat Int32} (h : f_X8_isLocked a0 p1 hs = some (o, hs')) : CT G l yX8_isLocked cX8_isLocked 2 (some .boolean) 7 221 1 6 [.ref a0, .int p1] hs o hs' tvI := by
  refine vx_ofW (cc := cX8_isLocked) (maxL := 2) (ret := (some .boolean)) (by decide +kernel) rfl ?_
  intro p e s m args below meth c s₁ B hml hxt hv
  obtain ⟨hav, hR, hKn⟩ := hv
  subst hav
  have hts := atoms_spec (ws := .code yX8_isLocked cX8_isLocked 2 (some .boolean) :: Tg) B.pre
  have C : Cx G l p s m _ c RX8 cX8_isLocked 2 := ⟨B.exec, B.bytes, hml, findClass_of_methodNamed B.named, fun w hw => hts w (List.mem_cons_of_mem _ hw), hKn, fun q hq => Nat.le_trans hR.2.2.1 hq⟩
  have C2 : Cy meth c (some .boolean) := ⟨B.returns, B.notSynchronized, hxt⟩
  have key : WG G p l e { frames := 7, cells := 1, slots := 6, locals := 221 } s m ([.ref a0, .int p1] : List Value).toArray below meth c 2 0 0 (vx_MQ below (QcT G o hs' tvI) (XCT G o hs') ([.ref a0, .int p1] : List Value).toArray s 1 6 (gA G)) hs [(0, va_rf (some a0)), (1, .int p1)] [] 0 := by
    unfold f_X8_isLocked at h
    refine q_aload_n C 0 dX8_isLocked_0 rfl ?_
    refine q_iload_n C 1 dX8_isLocked_1 rfl ?_
    refine q_callVX C (CN := RX8) (T := TX8) (N := 10) [.int p1] [] C2 ⟨(Nat.le_of_ble_eq_true rfl), (Nat.le_of_ble_eq_true rfl)⟩ (fun a0 o2 hs1 hm => m_X8_lessonNumbered hm) lk_X8_149 im_X8_lessonNumbered se_X8_X8_lessonNumbered rfl ⟨(Nat.le_of_ble_eq_true rfl), (Nat.le_of_ble_eq_true rfl)⟩ ⟨(Nat.le_of_ble_eq_true rfl), (Nat.le_of_ble_eq_true rfl)⟩ rfl rfl (by decide) dX8_isLocked_2 h (fun v1 hs h => WG_st (st' := [va_rf v1]) rfl ?_)
    refine q_gI C fl_X8_230 dX8_isLocked_5 h (fun v2 h => ?_)
    exact q_zret C C2 rfl (Nat.le_of_ble_eq_true rfl) (Nat.le_of_ble_eq_true rfl) dX8_isLocked_8 h
  rw [lg_entry_eq]
  exact key _ _ _ hR va_S.rf ⟨lv_entry _ (n := 2) (Nat.le_of_ble_eq_true rfl), (c1_r (c1_i c1_n))⟩

theorem cd_X8_placeOf : Cond.code yX8_placeOf cX8_placeOf 3 (some .int) ∈ Tg := Tg_of (i := 1170) (by decide +kernel) (by decide +kernel)
theorem ml_X8_239 : Cond.methodLink RX8 239 yX4_placeNow ∈ Tg := Tg_of (i := 1171) (by decide +kernel) (by decide +kernel)
theorem lk_X8_239 : Lk RX8 239 yX4_placeNow cX4_placeNow 1 (some .int) 0 := ⟨ml_X8_239, cd_X4_placeNow, iw_X4, by decide +kernel⟩
section M_X8_placeOf
variable {p : Program} {l : Launch} {e : Env} {s : State} {m : MethodId} {args : Array Value} {below : List Frame} {meth : Method} {c : Code} {G : GG} {o : Except Nat Int32} {hs' : Hs}
end M_X8_placeOf
def f_X8_placeOf (a0 : Nat) (p1 : Int32) : OO Int32 :=
    rcv (some a0) 11 fun r5 => call (f_X8_lessonNumbered r5 p1) (fun (v1 : Option Nat) =>
    rcv v1 7 fun r4 => call (f_X4_placeNow r4 ) (fun (v2 : Int32) =>
    lets v2 fun (v3 : Int32) =>
    (if ¬ v3 = (-1 : Int32) then
    rtn v3
    else
    nthrow 3)) nox) thr
set_option maxRecDepth 100000 in
set_option maxHeartbeats 4000000 in
theorem m_X8_placeOf {G : GG} {l : Launch} {a0 : Nat} {p1 : Int32} {hs hs' : Hs} {o : Except Nat Int32} (h : f_X8_placeOf a0 p1 hs = some (o, hs')) : CT G l yX8_placeOf cX8_placeOf 3 (some .int) 7 221 2 12 [.ref a0, .int p1] hs o hs' tvI := by
  refine vx_ofW (cc := cX8_placeOf) (maxL := 3) (ret := (some .int)) (by decide +kernel) rfl ?_
  intro p e s m args below meth c s₁ B hml hxt hv
  obtain ⟨hav, hR, hKn⟩ := hv
  subst hav
  have hts := atoms_spec (ws := .code yX8_placeOf cX8_placeOf 3 (some .int) :: Tg) B.pre
  have C : Cx G l p s m _ c RX8 cX8_placeOf 3 := ⟨B.exec, B.bytes, hml, findClass_of_methodNamed B.named, fun w hw => hts w (List.mem_cons_of_mem _ hw), hKn, fun q hq => Nat.le_trans hR.2.2.1 hq⟩
  have C2 : Cy meth c (some .int) := ⟨B.returns, B.notSynchronized, hxt⟩
  have key : WG G p l e { frames := 7, cells := 2, slots := 12, locals := 221 } s m ([.ref a0, .int p1] : List Value).toArray below meth c 3 0 0 (vx_MQ below (QcT G o hs' tvI) (XCT G o hs') ([.ref a0, .int p1] : List Value).toArray s 2 12 (gA G)) hs [(0, va_rf (some a0)), (1, .int p1)] [] 0 := by
    unfold f_X8_placeOf at h
    refine q_aload_n C 0 dX8_placeOf_0 rfl ?_
    refine q_iload_n C 1 dX8_placeOf_1 rfl ?_
    refine q_callVX C (CN := RX8) (T := TX8) (N := 10) [.int p1] [] C2 ⟨(Nat.le_of_ble_eq_true rfl), (Nat.le_of_ble_eq_true rfl)⟩ (fun a0 o2 hs1 hm => m_X8_lessonNumbered hm) lk_X8_149 im_X8_lessonNumbered se_X8_X8_lessonNumbered rfl ⟨(Nat.le_of_ble_eq_true rfl), (Nat.le_of_ble_eq_true rfl)⟩ ⟨(Nat.le_of_ble_eq_true rfl), (Nat.le_of_ble_eq_true rfl)⟩ rfl rfl (by decide) dX8_placeOf_2 h (fun v1 hs h => WG_st (st' := [va_rf v1]) rfl ?_)
    refine q_callV C (CN := RX4) (T := TX4) (N := 18) [] [] (fun a0 o2 hs1 hm => m_X4_placeNow hm) lk_X8_239 im_X4_placeNow se_X4_X4_placeNow rfl ⟨(Nat.le_of_ble_eq_true rfl), (Nat.le_of_ble_eq_true rfl)⟩ ⟨(Nat.le_of_ble_eq_true rfl), (Nat.le_of_ble_eq_true rfl)⟩ rfl rfl (by decide) dX8_placeOf_5 h (fun v2 hs h => WG_st (st' := [.int v2]) rfl ?_)
    refine q_istore_n C (fun v3 => [(2, .int v3), (0, va_rf (some a0)), (1, .int p1)]) dX8_placeOf_8 (by decide) (fun _ => rfl) h (fun v3 h => ?_)
    refine q_iload_n C 0 dX8_placeOf_9 rfl ?_
    refine q_iconst C (-1 : Int32) dX8_placeOf_10 (by decide) ?_
    refine q_icmp_ne C 24 dX8_placeOf_11 (by decide) h (fun h => ?_) (fun h => ?_)
    · refine q_iload_n C 0 dX8_placeOf_24 rfl ?_
      exact q_iret C C2 rfl (Nat.le_of_ble_eq_true rfl) (Nat.le_of_ble_eq_true rfl) dX8_placeOf_25 h
    · exact q_throwN C C2 (k := 3) (tx := "the lesson is not placed") wc_X8_x190 iw_x3 at_X8_194 (by decide +kernel) (Nat.le_of_ble_eq_true rfl) (Nat.le_of_ble_eq_true rfl) (Nat.le_of_ble_eq_true rfl) (Nat.le_of_ble_eq_true rfl) (Nat.le_of_ble_eq_true rfl) (Nat.le_of_ble_eq_true rfl) (by decide) dX8_placeOf_14 dX8_placeOf_17 (Or.inl ⟨rfl, dX8_placeOf_18⟩) dX8_placeOf_20 dX8_placeOf_23 h
  rw [lg_entry_eq]
  exact key _ _ _ hR va_S.rf ⟨lv_entry _ (n := 3) (Nat.le_of_ble_eq_true rfl), (c1_r (c1_i c1_n))⟩

theorem cd_X8_groupAt : Cond.code yX8_groupAt cX8_groupAt 6 (some .int) ∈ Tg := Tg_of (i := 1181) (by decide +kernel) (by decide +kernel)
theorem wf_X8_244 : Cond.fieldLink RX8 244 RX4 (TX4 1).2.1 (TX4 1).2.2.1 ∈ Tg := Tg_of (i := 895) (by decide +kernel) (by decide +kernel)
theorem fl_X8_244 : Fld RX8 244 7 1 (.object "Termgrid$Group") := ⟨RX4, TX4, 18, RX4, rfl, by decide, wf_X8_244, (Or.inl rfl), gu_X4, tyX4_ok _ (by decide), ⟨tyX4, tyX4_ok⟩, nmX4⟩
theorem ml_X8_248 : Cond.methodLink RX8 248 yX4_hoursNow ∈ Tg := Tg_of (i := 1182) (by decide +kernel) (by decide +kernel)
theorem lk_X8_248 : Lk RX8 248 yX4_hoursNow cX4_hoursNow 1 (some .int) 0 := ⟨ml_X8_248, cd_X4_hoursNow, iw_X4, by decide +kernel⟩
theorem wf_X8_251 : Cond.fieldLink RX8 251 RX4 (TX4 0).2.1 (TX4 0).2.2.1 ∈ Tg := Tg_of (i := 892) (by decide +kernel) (by decide +kernel)
theorem fl_X8_251 : Fld RX8 251 7 0 .int := ⟨RX4, TX4, 18, RX4, rfl, by decide, wf_X8_251, (Or.inl rfl), gu_X4, tyX4_ok _ (by decide), ⟨tyX4, tyX4_ok⟩, nmX4⟩
section M_X8_groupAt
variable {p : Program} {l : Launch} {e : Env} {s : State} {m : MethodId} {args : Array Value} {below : List Frame} {meth : Method} {c : Code} {G : GG} {o : Except Nat Int32} {hs' : Hs}
def j_X8_groupAt_72 (a0 : Option Nat) (a2 : Int32) (a3 : Option Nat) (a4 : Int32)  (rec_13 : Int32 → OO Int32) : OO Int32 :=
  lets (a4 + (1 : Int32)) fun (v13 : Int32) =>
    rec_13 v13
set_option maxRecDepth 100000 in
set_option maxHeartbeats 4000000 in
theorem w_j_X8_groupAt_72 (C : Cx G l p s m args c RX8 cX8_groupAt 6) (C2 : Cy meth c (some .int)) {hs : Hs} (a0 : Option Nat) (a2 : Int32) (a3 : Option Nat) (a4 : Int32)  (rec_13 : Int32 → OO Int32) (hrec_13 : ∀ (y4 : Int32) hs, rec_13 y4 hs = some (o, hs') → WG G p l e { frames := 7, cells := 3, slots := 18, locals := 221 } s m args below meth c 6 2 12 (vx_MQ below (QcT G o hs' tvI) (XCT G o hs') args s 3 18 (gA G)) hs [(0, va_rf a0), (2, .int a2), (3, va_rf a3), (4, .int y4)] [] 13) (h : j_X8_groupAt_72 a0 a2 a3 a4 rec_13 hs = some (o, hs')) : WG G p l e { frames := 7, cells := 3, slots := 18, locals := 221 } s m args below meth c 6 2 12 (vx_MQ below (QcT G o hs' tvI) (XCT G o hs') args s 3 18 (gA G)) hs [(0, va_rf a0), (2, .int a2), (3, va_rf a3), (4, .int a4)] [] 72 := by
  unfold j_X8_groupAt_72 at h
  refine q_iinc C 3 (1 : Int32) (fun v13 => [(4, .int v13), (0, va_rf a0), (2, .int a2), (3, va_rf a3)]) dX8_groupAt_72 rfl (by decide) (by decide) (fun _ => rfl) h (fun v13 h => ?_)
  refine q_goto C 13 dX8_groupAt_75 (by decide) ?_
  refine WG.sub [1, 2, 3, 0] rfl ?_
  exact hrec_13 _ _ h
def L_X8_groupAt_13 (a0 : Option Nat) (a2 : Int32) (a3 : Option Nat) (k_13_66 : Option Nat → OO Int32) (k_13_78 : OO Int32) : Nat → Int32 → OO Int32
  | 0, _ => failO
  | n + 1, x4 =>
    gR a0 11 1 fun v5 =>
    gR v5 9 2 fun v6 =>
    rcv v6 2 fun r18 => call (f_Jx4a65c_size_8abf5 r18 ) (fun (v7 : Int32) =>
    (if v7 ≤ x4 then
    k_13_78
    else
    gR a0 11 1 fun v8 =>
    gR v8 9 2 fun v9 =>
    rcv v9 2 fun r17 => call (f_Jx4a65c_get_915e3 r17 x4) (fun (v10 : Option Nat) =>
    cst v10 7 (
    lets v10 fun (v11 : Option Nat) =>
    gR v11 7 1 fun v12 =>
    (if ¬ v12 = a3 then
    j_X8_groupAt_72 a0 a2 a3 x4 (L_X8_groupAt_13 a0 a2 a3 k_13_66 k_13_78 n)
    else
    rcv v11 7 fun r16 => call (f_X4_hoursNow r16 ) (fun (v14 : Int32) =>
    call (f_X8_has v14 a2) (fun (v15 : Int32) =>
    (if v15 = 0 then
    j_X8_groupAt_72 a0 a2 a3 x4 (L_X8_groupAt_13 a0 a2 a3 k_13_66 k_13_78 n)
    else
    k_13_66 v11)) nox) nox))) nox)) nox
set_option maxRecDepth 100000 in
set_option maxHeartbeats 4000000 in
theorem w_L_X8_groupAt_13 (C : Cx G l p s m args c RX8 cX8_groupAt 6) (C2 : Cy meth c (some .int)) (a0 : Option Nat) (a2 : Int32) (a3 : Option Nat) (k_13_66 : Option Nat → OO Int32) (k_13_78 : OO Int32) (hk_13_66 : ∀ (y5 : Option Nat) hs, k_13_66 y5 hs = some (o, hs') → WG G p l e { frames := 7, cells := 3, slots := 18, locals := 221 } s m args below meth c 6 2 12 (vx_MQ below (QcT G o hs' tvI) (XCT G o hs') args s 3 18 (gA G)) hs [(5, va_rf y5)] [] 66) (hk_13_78 : ∀ hs, k_13_78  hs = some (o, hs') → WG G p l e { frames := 7, cells := 3, slots := 18, locals := 221 } s m args below meth c 6 2 12 (vx_MQ below (QcT G o hs' tvI) (XCT G o hs') args s 3 18 (gA G)) hs [] [] 78) : ∀ (n : Nat) (x4 : Int32) (hs : Hs), L_X8_groupAt_13 a0 a2 a3 k_13_66 k_13_78 n x4 hs = some (o, hs') → WG G p l e { frames := 7, cells := 3, slots := 18, locals := 221 } s m args below meth c 6 2 12 (vx_MQ below (QcT G o hs' tvI) (XCT G o hs') args s 3 18 (gA G)) hs [(0, va_rf a0), (2, .int a2), (3, va_rf a3), (4, .int x4)] [] 13 := by
  intro n
  induction n with
  | zero =>
    intro x4 hs h
    rw [L_X8_groupAt_13] at h
    exact absurd h failO_e
  | succ n hrec_13 =>
    intro x4 hs h
    rw [L_X8_groupAt_13] at h
    refine q_iload C 3 dX8_groupAt_13 rfl ?_
    refine q_aload_n C 0 dX8_groupAt_15 rfl ?_
    refine q_gR C fl_X8_19 dX8_groupAt_16 h (fun v5 h => ?_)
    refine q_gR C fl_X8_121 dX8_groupAt_19 h (fun v6 h => ?_)
    refine q_callV C (CN := RJx4a65c) (T := TJx4a65c) (N := 3) [] [.int x4] (fun a0 o2 hs1 hm => m_Jx4a65c_size_8abf5 hm) lk_X8_70 im_Jx4a65c_size_8abf5 se_Jx4a65c_Jx4a65c_size_8abf5 rfl ⟨(Nat.le_of_ble_eq_true rfl), (Nat.le_of_ble_eq_true rfl)⟩ ⟨(Nat.le_of_ble_eq_true rfl), (Nat.le_of_ble_eq_true rfl)⟩ rfl rfl (by simp only [List.map, cat_rf, cat_i, cat_a]; decide) dX8_groupAt_22 h (fun v7 hs h => WG_st (st' := [.int v7, .int x4]) rfl ?_)
    refine q_icmp_ge C 78 dX8_groupAt_25 (by decide) h (fun h => ?_) (fun h => ?_)
    · refine WG.sub [] rfl ?_
      exact hk_13_78 _ h
    · refine q_aload_n C 0 dX8_groupAt_28 rfl ?_
      refine q_gR C fl_X8_19 dX8_groupAt_29 h (fun v8 h => ?_)
      refine q_gR C fl_X8_121 dX8_groupAt_32 h (fun v9 h => ?_)
      refine q_iload C 3 dX8_groupAt_35 rfl ?_
      refine q_callV C (CN := RJx4a65c) (T := TJx4a65c) (N := 3) [.int x4] [] (fun a0 o2 hs1 hm => m_Jx4a65c_get_915e3 hm) lk_X8_186 im_Jx4a65c_get_915e3 se_Jx4a65c_Jx4a65c_get_915e3 rfl ⟨(Nat.le_of_ble_eq_true rfl), (Nat.le_of_ble_eq_true rfl)⟩ ⟨(Nat.le_of_ble_eq_true rfl), (Nat.le_of_ble_eq_true rfl)⟩ rfl rfl (by decide) dX8_groupAt_37 h (fun v10 hs h => WG_st (st' := [va_rf v10]) rfl ?_)
      refine q_castS C (nm := RX4) (T := TX4) (N := 18) rfl wc_X8_126 dX8_groupAt_40 h (fun h => ?_)
      refine q_astore C (fun v11 => [(5, va_rf v11), (0, va_rf a0), (2, .int a2), (3, va_rf a3), (4, .int x4)]) dX8_groupAt_43 (by decide) (fun _ => rfl) h (fun v11 h => ?_)
      refine q_aload C 0 dX8_groupAt_45 rfl ?_
      refine q_gR C fl_X8_244 dX8_groupAt_47 h (fun v12 h => ?_)
      refine q_aload_n C 3 dX8_groupAt_50 rfl ?_
      refine q_acmp_ne C 72 dX8_groupAt_51 (by decide) h (fun h => ?_) (fun h => ?_)
      · refine WG.sub [1, 2, 3, 4] rfl ?_
        exact w_j_X8_groupAt_72 C C2 _ _ _ _ _ hrec_13 h
      · refine q_aload C 0 dX8_groupAt_54 rfl ?_
        refine q_callV C (CN := RX4) (T := TX4) (N := 18) [] [] (fun a0 o2 hs1 hm => m_X4_hoursNow hm) lk_X8_248 im_X4_hoursNow se_X4_X4_hoursNow rfl ⟨(Nat.le_of_ble_eq_true rfl), (Nat.le_of_ble_eq_true rfl)⟩ ⟨(Nat.le_of_ble_eq_true rfl), (Nat.le_of_ble_eq_true rfl)⟩ rfl rfl (by decide) dX8_groupAt_56 h (fun v14 hs h => WG_st (st' := [.int v14]) rfl ?_)
        refine q_iload_n C 2 dX8_groupAt_59 rfl ?_
        refine q_callS C [.int v14, .int a2] [] (fun o2 hs1 hm => m_X8_has hm) lk_X8_172 sm_X8_has ⟨(Nat.le_of_ble_eq_true rfl), (Nat.le_of_ble_eq_true rfl)⟩ ⟨(Nat.le_of_ble_eq_true rfl), (Nat.le_of_ble_eq_true rfl)⟩ rfl rfl (by decide) dX8_groupAt_60 h (fun v15 hs h => WG_st (st' := [.int v15]) rfl ?_)
        refine q_if_eq C 72 dX8_groupAt_63 (by decide) h (fun h => ?_) (fun h => ?_)
        · refine WG.sub [1, 2, 3, 4] rfl ?_
          exact w_j_X8_groupAt_72 C C2 _ _ _ _ _ hrec_13 h
        · refine WG.sub [0] rfl ?_
          exact hk_13_66 _ _ h
end M_X8_groupAt
def f_X8_groupAt (a0 : Nat) (p1 : Int32) (p2 : Int32) : OO Int32 :=
    rcv (some a0) 11 fun r21 => call (f_X8_groupNumbered r21 p1) (fun (v1 : Option Nat) =>
    lets v1 fun (v2 : Option Nat) =>
    call (f_X8_requireSlot p2) (fun (v3 : Unit) =>
    lets (0 : Int32) fun (v4 : Int32) =>
    L_X8_groupAt_13 (some a0) p2 v2 (fun (v19 : Option Nat) => gI v19 7 0 fun v20 =>
    rtn v20) (nthrow 3) 100000 v4) thr) thr
set_option maxRecDepth 100000 in
set_option maxHeartbeats 4000000 in
theorem m_X8_groupAt {G : GG} {l : Launch} {a0 : Nat} {p1 : Int32} {p2 : Int32} {hs hs' : Hs} {o : Except Nat Int32} (h : f_X8_groupAt a0 p1 p2 hs = some (o, hs')) : CT G l yX8_groupAt cX8_groupAt 6 (some .int) 7 221 3 18 [.ref a0, .int p1, .int p2] hs o hs' tvI := by
  refine vx_ofW (cc := cX8_groupAt) (maxL := 6) (ret := (some .int)) (by decide +kernel) rfl ?_
  intro p e s m args below meth c s₁ B hml hxt hv
  obtain ⟨hav, hR, hKn⟩ := hv
  subst hav
  have hts := atoms_spec (ws := .code yX8_groupAt cX8_groupAt 6 (some .int) :: Tg) B.pre
  have C : Cx G l p s m _ c RX8 cX8_groupAt 6 := ⟨B.exec, B.bytes, hml, findClass_of_methodNamed B.named, fun w hw => hts w (List.mem_cons_of_mem _ hw), hKn, fun q hq => Nat.le_trans hR.2.2.1 hq⟩
  have C2 : Cy meth c (some .int) := ⟨B.returns, B.notSynchronized, hxt⟩
  have key : WG G p l e { frames := 7, cells := 3, slots := 18, locals := 221 } s m ([.ref a0, .int p1, .int p2] : List Value).toArray below meth c 6 0 0 (vx_MQ below (QcT G o hs' tvI) (XCT G o hs') ([.ref a0, .int p1, .int p2] : List Value).toArray s 3 18 (gA G)) hs [(0, va_rf (some a0)), (1, .int p1), (2, .int p2)] [] 0 := by
    unfold f_X8_groupAt at h
    refine q_aload_n C 0 dX8_groupAt_0 rfl ?_
    refine q_iload_n C 1 dX8_groupAt_1 rfl ?_
    refine q_callVX C (CN := RX8) (T := TX8) (N := 10) [.int p1] [] C2 ⟨(Nat.le_of_ble_eq_true rfl), (Nat.le_of_ble_eq_true rfl)⟩ (fun a0 o2 hs1 hm => m_X8_groupNumbered hm) lk_X8_111 im_X8_groupNumbered se_X8_X8_groupNumbered rfl ⟨(Nat.le_of_ble_eq_true rfl), (Nat.le_of_ble_eq_true rfl)⟩ ⟨(Nat.le_of_ble_eq_true rfl), (Nat.le_of_ble_eq_true rfl)⟩ rfl rfl (by decide) dX8_groupAt_2 h (fun v1 hs h => WG_st (st' := [va_rf v1]) rfl ?_)
    refine q_astore_n C (fun v2 => [(3, va_rf v2), (0, va_rf (some a0)), (1, .int p1), (2, .int p2)]) dX8_groupAt_5 (by decide) (fun _ => rfl) h (fun v2 h => ?_)
    refine q_iload_n C 3 dX8_groupAt_6 rfl ?_
    refine q_callSX C [.int p2] [] C2 ⟨(Nat.le_of_ble_eq_true rfl), (Nat.le_of_ble_eq_true rfl)⟩ (fun o2 hs1 hm => m_X8_requireSlot hm) lk_X8_131 sm_X8_requireSlot ⟨(Nat.le_of_ble_eq_true rfl), (Nat.le_of_ble_eq_true rfl)⟩ ⟨(Nat.le_of_ble_eq_true rfl), (Nat.le_of_ble_eq_true rfl)⟩ rfl rfl (by decide) dX8_groupAt_7 h (fun v3 hs h => WG_st (st' := []) rfl ?_)
    refine q_iconst C (0 : Int32) dX8_groupAt_10 (by decide) ?_
    refine q_istore C (fun v4 => [(4, .int v4), (3, va_rf v2), (0, va_rf (some a0)), (1, .int p1), (2, .int p2)]) dX8_groupAt_11 (by decide) (fun _ => rfl) h (fun v4 h => ?_)
    refine WG.sub [2, 4, 1, 0] rfl ?_
    refine w_L_X8_groupAt_13 C C2 _ _ _ _ _ ?_ ?_ _ _ _ h
    · intro v19 hs h
      refine q_aload C 0 dX8_groupAt_66 rfl ?_
      refine q_gI C fl_X8_251 dX8_groupAt_68 h (fun v20 h => ?_)
      exact q_iret C C2 rfl (Nat.le_of_ble_eq_true rfl) (Nat.le_of_ble_eq_true rfl) dX8_groupAt_71 h
    · intro  hs h
      exact q_throwN C C2 (k := 3) (tx := "the group has no lesson then") wc_X8_x190 iw_x3 at_X8_194 (by decide +kernel) (Nat.le_of_ble_eq_true rfl) (Nat.le_of_ble_eq_true rfl) (Nat.le_of_ble_eq_true rfl) (Nat.le_of_ble_eq_true rfl) (Nat.le_of_ble_eq_true rfl) (Nat.le_of_ble_eq_true rfl) (by decide) dX8_groupAt_78 dX8_groupAt_81 (Or.inl ⟨rfl, dX8_groupAt_82⟩) dX8_groupAt_84 dX8_groupAt_87 h
  rw [lg_entry_eq]
  exact key _ _ _ hR va_S.rf ⟨lv_entry _ (n := 6) (Nat.le_of_ble_eq_true rfl), (c1_r (c1_i (c1_i c1_n)))⟩

theorem cd_X8_teacherAt : Cond.code yX8_teacherAt cX8_teacherAt 6 (some .int) ∈ Tg := Tg_of (i := 1190) (by decide +kernel) (by decide +kernel)
theorem wf_X8_257 : Cond.fieldLink RX8 257 RX4 (TX4 2).2.1 (TX4 2).2.2.1 ∈ Tg := Tg_of (i := 899) (by decide +kernel) (by decide +kernel)
theorem fl_X8_257 : Fld RX8 257 7 2 (.object "Termgrid$Teacher") := ⟨RX4, TX4, 18, RX4, rfl, by decide, wf_X8_257, (Or.inl rfl), gu_X4, tyX4_ok _ (by decide), ⟨tyX4, tyX4_ok⟩, nmX4⟩
section M_X8_teacherAt
variable {p : Program} {l : Launch} {e : Env} {s : State} {m : MethodId} {args : Array Value} {below : List Frame} {meth : Method} {c : Code} {G : GG} {o : Except Nat Int32} {hs' : Hs}
def j_X8_teacherAt_72 (a0 : Option Nat) (a2 : Int32) (a3 : Option Nat) (a4 : Int32)  (rec_13 : Int32 → OO Int32) : OO Int32 :=
  lets (a4 + (1 : Int32)) fun (v13 : Int32) =>
    rec_13 v13
set_option maxRecDepth 100000 in
set_option maxHeartbeats 4000000 in
theorem w_j_X8_teacherAt_72 (C : Cx G l p s m args c RX8 cX8_teacherAt 6) (C2 : Cy meth c (some .int)) {hs : Hs} (a0 : Option Nat) (a2 : Int32) (a3 : Option Nat) (a4 : Int32)  (rec_13 : Int32 → OO Int32) (hrec_13 : ∀ (y4 : Int32) hs, rec_13 y4 hs = some (o, hs') → WG G p l e { frames := 7, cells := 3, slots := 18, locals := 221 } s m args below meth c 6 2 12 (vx_MQ below (QcT G o hs' tvI) (XCT G o hs') args s 3 18 (gA G)) hs [(0, va_rf a0), (2, .int a2), (3, va_rf a3), (4, .int y4)] [] 13) (h : j_X8_teacherAt_72 a0 a2 a3 a4 rec_13 hs = some (o, hs')) : WG G p l e { frames := 7, cells := 3, slots := 18, locals := 221 } s m args below meth c 6 2 12 (vx_MQ below (QcT G o hs' tvI) (XCT G o hs') args s 3 18 (gA G)) hs [(0, va_rf a0), (2, .int a2), (3, va_rf a3), (4, .int a4)] [] 72 := by
  unfold j_X8_teacherAt_72 at h
  refine q_iinc C 3 (1 : Int32) (fun v13 => [(4, .int v13), (0, va_rf a0), (2, .int a2), (3, va_rf a3)]) dX8_teacherAt_72 rfl (by decide) (by decide) (fun _ => rfl) h (fun v13 h => ?_)
  refine q_goto C 13 dX8_teacherAt_75 (by decide) ?_
  refine WG.sub [1, 2, 3, 0] rfl ?_
  exact hrec_13 _ _ h
def L_X8_teacherAt_13 (a0 : Option Nat) (a2 : Int32) (a3 : Option Nat) (k_13_66 : Option Nat → OO Int32) (k_13_78 : OO Int32) : Nat → Int32 → OO Int32
  | 0, _ => failO
  | n + 1, x4 =>
    gR a0 11 1 fun v5 =>
    gR v5 9 2 fun v6 =>
    rcv v6 2 fun r18 => call (f_Jx4a65c_size_8abf5 r18 ) (fun (v7 : Int32) =>
    (if v7 ≤ x4 then
    k_13_78
    else
    gR a0 11 1 fun v8 =>
    gR v8 9 2 fun v9 =>
    rcv v9 2 fun r17 => call (f_Jx4a65c_get_915e3 r17 x4) (fun (v10 : Option Nat) =>
    cst v10 7 (
    lets v10 fun (v11 : Option Nat) =>
    gR v11 7 2 fun v12 =>
    (if ¬ v12 = a3 then
    j_X8_teacherAt_72 a0 a2 a3 x4 (L_X8_teacherAt_13 a0 a2 a3 k_13_66 k_13_78 n)
    else
    rcv v11 7 fun r16 => call (f_X4_hoursNow r16 ) (fun (v14 : Int32) =>
    call (f_X8_has v14 a2) (fun (v15 : Int32) =>
    (if v15 = 0 then
    j_X8_teacherAt_72 a0 a2 a3 x4 (L_X8_teacherAt_13 a0 a2 a3 k_13_66 k_13_78 n)
    else
    k_13_66 v11)) nox) nox))) nox)) nox
set_option maxRecDepth 100000 in
set_option maxHeartbeats 4000000 in
theorem w_L_X8_teacherAt_13 (C : Cx G l p s m args c RX8 cX8_teacherAt 6) (C2 : Cy meth c (some .int)) (a0 : Option Nat) (a2 : Int32) (a3 : Option Nat) (k_13_66 : Option Nat → OO Int32) (k_13_78 : OO Int32) (hk_13_66 : ∀ (y5 : Option Nat) hs, k_13_66 y5 hs = some (o, hs') → WG G p l e { frames := 7, cells := 3, slots := 18, locals := 221 } s m args below meth c 6 2 12 (vx_MQ below (QcT G o hs' tvI) (XCT G o hs') args s 3 18 (gA G)) hs [(5, va_rf y5)] [] 66) (hk_13_78 : ∀ hs, k_13_78  hs = some (o, hs') → WG G p l e { frames := 7, cells := 3, slots := 18, locals := 221 } s m args below meth c 6 2 12 (vx_MQ below (QcT G o hs' tvI) (XCT G o hs') args s 3 18 (gA G)) hs [] [] 78) : ∀ (n : Nat) (x4 : Int32) (hs : Hs), L_X8_teacherAt_13 a0 a2 a3 k_13_66 k_13_78 n x4 hs = some (o, hs') → WG G p l e { frames := 7, cells := 3, slots := 18, locals := 221 } s m args below meth c 6 2 12 (vx_MQ below (QcT G o hs' tvI) (XCT G o hs') args s 3 18 (gA G)) hs [(0, va_rf a0), (2, .int a2), (3, va_rf a3), (4, .int x4)] [] 13 := by
  intro n
  induction n with
  | zero =>
    intro x4 hs h
    rw [L_X8_teacherAt_13] at h
    exact absurd h failO_e
  | succ n hrec_13 =>
    intro x4 hs h
    rw [L_X8_teacherAt_13] at h
    refine q_iload C 3 dX8_teacherAt_13 rfl ?_
    refine q_aload_n C 0 dX8_teacherAt_15 rfl ?_
    refine q_gR C fl_X8_19 dX8_teacherAt_16 h (fun v5 h => ?_)
    refine q_gR C fl_X8_121 dX8_teacherAt_19 h (fun v6 h => ?_)
    refine q_callV C (CN := RJx4a65c) (T := TJx4a65c) (N := 3) [] [.int x4] (fun a0 o2 hs1 hm => m_Jx4a65c_size_8abf5 hm) lk_X8_70 im_Jx4a65c_size_8abf5 se_Jx4a65c_Jx4a65c_size_8abf5 rfl ⟨(Nat.le_of_ble_eq_true rfl), (Nat.le_of_ble_eq_true rfl)⟩ ⟨(Nat.le_of_ble_eq_true rfl), (Nat.le_of_ble_eq_true rfl)⟩ rfl rfl (by simp only [List.map, cat_rf, cat_i, cat_a]; decide) dX8_teacherAt_22 h (fun v7 hs h => WG_st (st' := [.int v7, .int x4]) rfl ?_)
    refine q_icmp_ge C 78 dX8_teacherAt_25 (by decide) h (fun h => ?_) (fun h => ?_)
    · refine WG.sub [] rfl ?_
      exact hk_13_78 _ h
    · refine q_aload_n C 0 dX8_teacherAt_28 rfl ?_
      refine q_gR C fl_X8_19 dX8_teacherAt_29 h (fun v8 h => ?_)
      refine q_gR C fl_X8_121 dX8_teacherAt_32 h (fun v9 h => ?_)
      refine q_iload C 3 dX8_teacherAt_35 rfl ?_
      refine q_callV C (CN := RJx4a65c) (T := TJx4a65c) (N := 3) [.int x4] [] (fun a0 o2 hs1 hm => m_Jx4a65c_get_915e3 hm) lk_X8_186 im_Jx4a65c_get_915e3 se_Jx4a65c_Jx4a65c_get_915e3 rfl ⟨(Nat.le_of_ble_eq_true rfl), (Nat.le_of_ble_eq_true rfl)⟩ ⟨(Nat.le_of_ble_eq_true rfl), (Nat.le_of_ble_eq_true rfl)⟩ rfl rfl (by decide) dX8_teacherAt_37 h (fun v10 hs h => WG_st (st' := [va_rf v10]) rfl ?_)
      refine q_castS C (nm := RX4) (T := TX4) (N := 18) rfl wc_X8_126 dX8_teacherAt_40 h (fun h => ?_)
      refine q_astore C (fun v11 => [(5, va_rf v11), (0, va_rf a0), (2, .int a2), (3, va_rf a3), (4, .int x4)]) dX8_teacherAt_43 (by decide) (fun _ => rfl) h (fun v11 h => ?_)
      refine q_aload C 0 dX8_teacherAt_45 rfl ?_
      refine q_gR C fl_X8_257 dX8_teacherAt_47 h (fun v12 h => ?_)
      refine q_aload_n C 3 dX8_teacherAt_50 rfl ?_
      refine q_acmp_ne C 72 dX8_teacherAt_51 (by decide) h (fun h => ?_) (fun h => ?_)
      · refine WG.sub [1, 2, 3, 4] rfl ?_
        exact w_j_X8_teacherAt_72 C C2 _ _ _ _ _ hrec_13 h
      · refine q_aload C 0 dX8_teacherAt_54 rfl ?_
        refine q_callV C (CN := RX4) (T := TX4) (N := 18) [] [] (fun a0 o2 hs1 hm => m_X4_hoursNow hm) lk_X8_248 im_X4_hoursNow se_X4_X4_hoursNow rfl ⟨(Nat.le_of_ble_eq_true rfl), (Nat.le_of_ble_eq_true rfl)⟩ ⟨(Nat.le_of_ble_eq_true rfl), (Nat.le_of_ble_eq_true rfl)⟩ rfl rfl (by decide) dX8_teacherAt_56 h (fun v14 hs h => WG_st (st' := [.int v14]) rfl ?_)
        refine q_iload_n C 2 dX8_teacherAt_59 rfl ?_
        refine q_callS C [.int v14, .int a2] [] (fun o2 hs1 hm => m_X8_has hm) lk_X8_172 sm_X8_has ⟨(Nat.le_of_ble_eq_true rfl), (Nat.le_of_ble_eq_true rfl)⟩ ⟨(Nat.le_of_ble_eq_true rfl), (Nat.le_of_ble_eq_true rfl)⟩ rfl rfl (by decide) dX8_teacherAt_60 h (fun v15 hs h => WG_st (st' := [.int v15]) rfl ?_)
        refine q_if_eq C 72 dX8_teacherAt_63 (by decide) h (fun h => ?_) (fun h => ?_)
        · refine WG.sub [1, 2, 3, 4] rfl ?_
          exact w_j_X8_teacherAt_72 C C2 _ _ _ _ _ hrec_13 h
        · refine WG.sub [0] rfl ?_
          exact hk_13_66 _ _ h
end M_X8_teacherAt
def f_X8_teacherAt (a0 : Nat) (p1 : Int32) (p2 : Int32) : OO Int32 :=
    rcv (some a0) 11 fun r21 => call (f_X8_teacherNumbered r21 p1) (fun (v1 : Option Nat) =>
    lets v1 fun (v2 : Option Nat) =>
    call (f_X8_requireSlot p2) (fun (v3 : Unit) =>
    lets (0 : Int32) fun (v4 : Int32) =>
    L_X8_teacherAt_13 (some a0) p2 v2 (fun (v19 : Option Nat) => gI v19 7 0 fun v20 =>
    rtn v20) (nthrow 3) 100000 v4) thr) thr
set_option maxRecDepth 100000 in
set_option maxHeartbeats 4000000 in
theorem m_X8_teacherAt {G : GG} {l : Launch} {a0 : Nat} {p1 : Int32} {p2 : Int32} {hs hs' : Hs} {o : Except Nat Int32} (h : f_X8_teacherAt a0 p1 p2 hs = some (o, hs')) : CT G l yX8_teacherAt cX8_teacherAt 6 (some .int) 7 221 3 18 [.ref a0, .int p1, .int p2] hs o hs' tvI := by
  refine vx_ofW (cc := cX8_teacherAt) (maxL := 6) (ret := (some .int)) (by decide +kernel) rfl ?_
  intro p e s m args below meth c s₁ B hml hxt hv
  obtain ⟨hav, hR, hKn⟩ := hv
  subst hav
  have hts := atoms_spec (ws := .code yX8_teacherAt cX8_teacherAt 6 (some .int) :: Tg) B.pre
  have C : Cx G l p s m _ c RX8 cX8_teacherAt 6 := ⟨B.exec, B.bytes, hml, findClass_of_methodNamed B.named, fun w hw => hts w (List.mem_cons_of_mem _ hw), hKn, fun q hq => Nat.le_trans hR.2.2.1 hq⟩
  have C2 : Cy meth c (some .int) := ⟨B.returns, B.notSynchronized, hxt⟩
  have key : WG G p l e { frames := 7, cells := 3, slots := 18, locals := 221 } s m ([.ref a0, .int p1, .int p2] : List Value).toArray below meth c 6 0 0 (vx_MQ below (QcT G o hs' tvI) (XCT G o hs') ([.ref a0, .int p1, .int p2] : List Value).toArray s 3 18 (gA G)) hs [(0, va_rf (some a0)), (1, .int p1), (2, .int p2)] [] 0 := by
    unfold f_X8_teacherAt at h
    refine q_aload_n C 0 dX8_teacherAt_0 rfl ?_
    refine q_iload_n C 1 dX8_teacherAt_1 rfl ?_
    refine q_callVX C (CN := RX8) (T := TX8) (N := 10) [.int p1] [] C2 ⟨(Nat.le_of_ble_eq_true rfl), (Nat.le_of_ble_eq_true rfl)⟩ (fun a0 o2 hs1 hm => m_X8_teacherNumbered hm) lk_X8_115 im_X8_teacherNumbered se_X8_X8_teacherNumbered rfl ⟨(Nat.le_of_ble_eq_true rfl), (Nat.le_of_ble_eq_true rfl)⟩ ⟨(Nat.le_of_ble_eq_true rfl), (Nat.le_of_ble_eq_true rfl)⟩ rfl rfl (by decide) dX8_teacherAt_2 h (fun v1 hs h => WG_st (st' := [va_rf v1]) rfl ?_)
    refine q_astore_n C (fun v2 => [(3, va_rf v2), (0, va_rf (some a0)), (1, .int p1), (2, .int p2)]) dX8_teacherAt_5 (by decide) (fun _ => rfl) h (fun v2 h => ?_)
    refine q_iload_n C 3 dX8_teacherAt_6 rfl ?_
    refine q_callSX C [.int p2] [] C2 ⟨(Nat.le_of_ble_eq_true rfl), (Nat.le_of_ble_eq_true rfl)⟩ (fun o2 hs1 hm => m_X8_requireSlot hm) lk_X8_131 sm_X8_requireSlot ⟨(Nat.le_of_ble_eq_true rfl), (Nat.le_of_ble_eq_true rfl)⟩ ⟨(Nat.le_of_ble_eq_true rfl), (Nat.le_of_ble_eq_true rfl)⟩ rfl rfl (by decide) dX8_teacherAt_7 h (fun v3 hs h => WG_st (st' := []) rfl ?_)
    refine q_iconst C (0 : Int32) dX8_teacherAt_10 (by decide) ?_
    refine q_istore C (fun v4 => [(4, .int v4), (3, va_rf v2), (0, va_rf (some a0)), (1, .int p1), (2, .int p2)]) dX8_teacherAt_11 (by decide) (fun _ => rfl) h (fun v4 h => ?_)
    refine WG.sub [2, 4, 1, 0] rfl ?_
    refine w_L_X8_teacherAt_13 C C2 _ _ _ _ _ ?_ ?_ _ _ _ h
    · intro v19 hs h
      refine q_aload C 0 dX8_teacherAt_66 rfl ?_
      refine q_gI C fl_X8_251 dX8_teacherAt_68 h (fun v20 h => ?_)
      exact q_iret C C2 rfl (Nat.le_of_ble_eq_true rfl) (Nat.le_of_ble_eq_true rfl) dX8_teacherAt_71 h
    · intro  hs h
      exact q_throwN C C2 (k := 3) (tx := "the teacher has no lesson then") wc_X8_x190 iw_x3 at_X8_194 (by decide +kernel) (Nat.le_of_ble_eq_true rfl) (Nat.le_of_ble_eq_true rfl) (Nat.le_of_ble_eq_true rfl) (Nat.le_of_ble_eq_true rfl) (Nat.le_of_ble_eq_true rfl) (Nat.le_of_ble_eq_true rfl) (by decide) dX8_teacherAt_78 dX8_teacherAt_81 (Or.inr ⟨rfl, dX8_teacherAt_82⟩) dX8_teacherAt_85 dX8_teacherAt_88 h
  rw [lg_entry_eq]
  exact key _ _ _ hR va_S.rf ⟨lv_entry _ (n := 6) (Nat.le_of_ble_eq_true rfl), (c1_r (c1_i (c1_i c1_n)))⟩

theorem cd_X8_possible : Cond.code yX8_possible cX8_possible 2 (some .int) ∈ Tg := Tg_of (i := 1198) (by decide +kernel) (by decide +kernel)
theorem ml_X8_263 : Cond.methodLink RX8 263 yX6_countPossible ∈ Tg := Tg_of (i := 1199) (by decide +kernel) (by decide +kernel)
theorem lk_X8_263 : Lk RX8 263 yX6_countPossible cX6_countPossible 2 (some .int) 1 := ⟨ml_X8_263, cd_X6_countPossible, iw_X6, by decide +kernel⟩
section M_X8_possible
variable {p : Program} {l : Launch} {e : Env} {s : State} {m : MethodId} {args : Array Value} {below : List Frame} {meth : Method} {c : Code} {G : GG} {o : Except Nat Int32} {hs' : Hs}
end M_X8_possible
def f_X8_possible (a0 : Nat) (p1 : Int32) : OO Int32 :=
    gR (some a0) 11 1 fun v1 =>
    rcv (some a0) 11 fun r5 => call (f_X8_lessonNumbered r5 p1) (fun (v2 : Option Nat) =>
    rcv v1 9 fun r4 => call (f_X6_countPossible r4 v2) (fun (v3 : Int32) =>
    rtn v3) nox) thr
set_option maxRecDepth 100000 in
set_option maxHeartbeats 4000000 in
theorem m_X8_possible {G : GG} {l : Launch} {a0 : Nat} {p1 : Int32} {hs hs' : Hs} {o : Except Nat Int32} (h : f_X8_possible a0 p1 hs = some (o, hs')) : CT G l yX8_possible cX8_possible 2 (some .int) 11 405 1 6 [.ref a0, .int p1] hs o hs' tvI := by
  refine vx_ofW (cc := cX8_possible) (maxL := 2) (ret := (some .int)) (by decide +kernel) rfl ?_
  intro p e s m args below meth c s₁ B hml hxt hv
  obtain ⟨hav, hR, hKn⟩ := hv
  subst hav
  have hts := atoms_spec (ws := .code yX8_possible cX8_possible 2 (some .int) :: Tg) B.pre
  have C : Cx G l p s m _ c RX8 cX8_possible 2 := ⟨B.exec, B.bytes, hml, findClass_of_methodNamed B.named, fun w hw => hts w (List.mem_cons_of_mem _ hw), hKn, fun q hq => Nat.le_trans hR.2.2.1 hq⟩
  have C2 : Cy meth c (some .int) := ⟨B.returns, B.notSynchronized, hxt⟩
  have key : WG G p l e { frames := 11, cells := 1, slots := 6, locals := 405 } s m ([.ref a0, .int p1] : List Value).toArray below meth c 2 0 0 (vx_MQ below (QcT G o hs' tvI) (XCT G o hs') ([.ref a0, .int p1] : List Value).toArray s 1 6 (gA G)) hs [(0, va_rf (some a0)), (1, .int p1)] [] 0 := by
    unfold f_X8_possible at h
    refine q_aload_n C 0 dX8_possible_0 rfl ?_
    refine q_gR C fl_X8_19 dX8_possible_1 h (fun v1 h => ?_)
    refine q_aload_n C 0 dX8_possible_4 rfl ?_
    refine q_iload_n C 1 dX8_possible_5 rfl ?_
    refine q_callVX C (CN := RX8) (T := TX8) (N := 10) [.int p1] [va_rf v1] C2 ⟨(Nat.le_of_ble_eq_true rfl), (Nat.le_of_ble_eq_true rfl)⟩ (fun a0 o2 hs1 hm => m_X8_lessonNumbered hm) lk_X8_149 im_X8_lessonNumbered se_X8_X8_lessonNumbered rfl ⟨(Nat.le_of_ble_eq_true rfl), (Nat.le_of_ble_eq_true rfl)⟩ ⟨(Nat.le_of_ble_eq_true rfl), (Nat.le_of_ble_eq_true rfl)⟩ rfl rfl (by simp only [List.map, cat_rf, cat_i, cat_a]; decide) dX8_possible_6 h (fun v2 hs h => WG_st (st' := [va_rf v2, va_rf v1]) rfl ?_)
    refine q_callV C (CN := RX6) (T := TX6) (N := 6) [va_rf v2] [] (fun a0 o2 hs1 hm => m_X6_countPossible hm) lk_X8_263 im_X6_countPossible se_X6_X6_countPossible rfl ⟨(Nat.le_of_ble_eq_true rfl), (Nat.le_of_ble_eq_true rfl)⟩ ⟨(Nat.le_of_ble_eq_true rfl), (Nat.le_of_ble_eq_true rfl)⟩ rfl rfl (by decide) dX8_possible_9 h (fun v3 hs h => WG_st (st' := [.int v3]) rfl ?_)
    exact q_iret C C2 rfl (Nat.le_of_ble_eq_true rfl) (Nat.le_of_ble_eq_true rfl) dX8_possible_12 h
  rw [lg_entry_eq]
  exact key _ _ _ hR va_S.rf ⟨lv_entry _ (n := 2) (Nat.le_of_ble_eq_true rfl), (c1_r (c1_i c1_n))⟩

theorem cd_X8_possibleAt : Cond.code yX8_possibleAt cX8_possibleAt 4 (some .int) ∈ Tg := Tg_of (i := 1206) (by decide +kernel) (by decide +kernel)
theorem ml_X8_267 : Cond.methodLink RX8 267 yX6_findPossible ∈ Tg := Tg_of (i := 1207) (by decide +kernel) (by decide +kernel)
theorem lk_X8_267 : Lk RX8 267 yX6_findPossible cX6_findPossible 5 (some .int) 2 := ⟨ml_X8_267, cd_X6_findPossible, iw_X6, by decide +kernel⟩
theorem im_X6_findPossible : Cond.instanceMethod yX6_findPossible ∈ Tg := Tg_of (i := 1208) (by decide +kernel) (by decide +kernel)
theorem se_X6_X6_findPossible : Cond.selects RX6 yX6_findPossible yX6_findPossible ∈ Tg := Tg_of (i := 1209) (by decide +kernel) (by decide +kernel)
section M_X8_possibleAt
variable {p : Program} {l : Launch} {e : Env} {s : State} {m : MethodId} {args : Array Value} {below : List Frame} {meth : Method} {c : Code} {G : GG} {o : Except Nat Int32} {hs' : Hs}
end M_X8_possibleAt
def f_X8_possibleAt (a0 : Nat) (p1 : Int32) (p2 : Int32) : OO Int32 :=
    gR (some a0) 11 1 fun v1 =>
    rcv (some a0) 11 fun r6 => call (f_X8_lessonNumbered r6 p1) (fun (v2 : Option Nat) =>
    rcv v1 9 fun r5 => call (f_X6_findPossible r5 v2 p2) (fun (v3 : Int32) =>
    lets v3 fun (v4 : Int32) =>
    (if ¬ v4 = (-1 : Int32) then
    rtn v4
    else
    nthrow 3)) nox) thr
set_option maxRecDepth 100000 in
set_option maxHeartbeats 4000000 in
theorem m_X8_possibleAt {G : GG} {l : Launch} {a0 : Nat} {p1 : Int32} {p2 : Int32} {hs hs' : Hs} {o : Except Nat Int32} (h : f_X8_possibleAt a0 p1 p2 hs = some (o, hs')) : CT G l yX8_possibleAt cX8_possibleAt 4 (some .int) 11 408 2 12 [.ref a0, .int p1, .int p2] hs o hs' tvI := by
  refine vx_ofW (cc := cX8_possibleAt) (maxL := 4) (ret := (some .int)) (by decide +kernel) rfl ?_
  intro p e s m args below meth c s₁ B hml hxt hv
  obtain ⟨hav, hR, hKn⟩ := hv
  subst hav
  have hts := atoms_spec (ws := .code yX8_possibleAt cX8_possibleAt 4 (some .int) :: Tg) B.pre
  have C : Cx G l p s m _ c RX8 cX8_possibleAt 4 := ⟨B.exec, B.bytes, hml, findClass_of_methodNamed B.named, fun w hw => hts w (List.mem_cons_of_mem _ hw), hKn, fun q hq => Nat.le_trans hR.2.2.1 hq⟩
  have C2 : Cy meth c (some .int) := ⟨B.returns, B.notSynchronized, hxt⟩
  have key : WG G p l e { frames := 11, cells := 2, slots := 12, locals := 408 } s m ([.ref a0, .int p1, .int p2] : List Value).toArray below meth c 4 0 0 (vx_MQ below (QcT G o hs' tvI) (XCT G o hs') ([.ref a0, .int p1, .int p2] : List Value).toArray s 2 12 (gA G)) hs [(0, va_rf (some a0)), (1, .int p1), (2, .int p2)] [] 0 := by
    unfold f_X8_possibleAt at h
    refine q_aload_n C 0 dX8_possibleAt_0 rfl ?_
    refine q_gR C fl_X8_19 dX8_possibleAt_1 h (fun v1 h => ?_)
    refine q_aload_n C 0 dX8_possibleAt_4 rfl ?_
    refine q_iload_n C 1 dX8_possibleAt_5 rfl ?_
    refine q_callVX C (CN := RX8) (T := TX8) (N := 10) [.int p1] [va_rf v1] C2 ⟨(Nat.le_of_ble_eq_true rfl), (Nat.le_of_ble_eq_true rfl)⟩ (fun a0 o2 hs1 hm => m_X8_lessonNumbered hm) lk_X8_149 im_X8_lessonNumbered se_X8_X8_lessonNumbered rfl ⟨(Nat.le_of_ble_eq_true rfl), (Nat.le_of_ble_eq_true rfl)⟩ ⟨(Nat.le_of_ble_eq_true rfl), (Nat.le_of_ble_eq_true rfl)⟩ rfl rfl (by simp only [List.map, cat_rf, cat_i, cat_a]; decide) dX8_possibleAt_6 h (fun v2 hs h => WG_st (st' := [va_rf v2, va_rf v1]) rfl ?_)
    refine q_iload_n C 2 dX8_possibleAt_9 rfl ?_
    refine q_callV C (CN := RX6) (T := TX6) (N := 6) [va_rf v2, .int p2] [] (fun a0 o2 hs1 hm => m_X6_findPossible hm) lk_X8_267 im_X6_findPossible se_X6_X6_findPossible rfl ⟨(Nat.le_of_ble_eq_true rfl), (Nat.le_of_ble_eq_true rfl)⟩ ⟨(Nat.le_of_ble_eq_true rfl), (Nat.le_of_ble_eq_true rfl)⟩ rfl rfl (by decide) dX8_possibleAt_10 h (fun v3 hs h => WG_st (st' := [.int v3]) rfl ?_)
    refine q_istore_n C (fun v4 => [(3, .int v4), (0, va_rf (some a0)), (1, .int p1), (2, .int p2)]) dX8_possibleAt_13 (by decide) (fun _ => rfl) h (fun v4 h => ?_)
    refine q_iload_n C 0 dX8_possibleAt_14 rfl ?_
    refine q_iconst C (-1 : Int32) dX8_possibleAt_15 (by decide) ?_
    refine q_icmp_ne C 30 dX8_possibleAt_16 (by decide) h (fun h => ?_) (fun h => ?_)
    · refine q_iload_n C 0 dX8_possibleAt_30 rfl ?_
      exact q_iret C C2 rfl (Nat.le_of_ble_eq_true rfl) (Nat.le_of_ble_eq_true rfl) dX8_possibleAt_31 h
    · exact q_throwN C C2 (k := 3) (tx := "there is no such place") wc_X8_x190 iw_x3 at_X8_194 (by decide +kernel) (Nat.le_of_ble_eq_true rfl) (Nat.le_of_ble_eq_true rfl) (Nat.le_of_ble_eq_true rfl) (Nat.le_of_ble_eq_true rfl) (Nat.le_of_ble_eq_true rfl) (Nat.le_of_ble_eq_true rfl) (by decide) dX8_possibleAt_19 dX8_possibleAt_22 (Or.inr ⟨rfl, dX8_possibleAt_23⟩) dX8_possibleAt_26 dX8_possibleAt_29 h
  rw [lg_entry_eq]
  exact key _ _ _ hR va_S.rf ⟨lv_entry _ (n := 4) (Nat.le_of_ble_eq_true rfl), (c1_r (c1_i (c1_i c1_n)))⟩

theorem cd_X8_cheapest : Cond.code yX8_cheapest cX8_cheapest 3 (some .int) ∈ Tg := Tg_of (i := 1222) (by decide +kernel) (by decide +kernel)
theorem ml_X8_273 : Cond.methodLink RX8 273 yX6_findCheapest ∈ Tg := Tg_of (i := 1223) (by decide +kernel) (by decide +kernel)
theorem lk_X8_273 : Lk RX8 273 yX6_findCheapest cX6_findCheapest 2 (some .int) 1 := ⟨ml_X8_273, cd_X6_findCheapest, iw_X6, by decide +kernel⟩
section M_X8_cheapest
variable {p : Program} {l : Launch} {e : Env} {s : State} {m : MethodId} {args : Array Value} {below : List Frame} {meth : Method} {c : Code} {G : GG} {o : Except Nat Int32} {hs' : Hs}
end M_X8_cheapest
def f_X8_cheapest (a0 : Nat) (p1 : Int32) : OO Int32 :=
    gR (some a0) 11 1 fun v1 =>
    rcv (some a0) 11 fun r6 => call (f_X8_lessonNumbered r6 p1) (fun (v2 : Option Nat) =>
    rcv v1 9 fun r5 => call (f_X6_findCheapest r5 v2) (fun (v3 : Int32) =>
    lets v3 fun (v4 : Int32) =>
    (if ¬ v4 = (-1 : Int32) then
    rtn v4
    else
    nthrow 3)) nox) thr
set_option maxRecDepth 100000 in
set_option maxHeartbeats 4000000 in
theorem m_X8_cheapest {G : GG} {l : Launch} {a0 : Nat} {p1 : Int32} {hs hs' : Hs} {o : Except Nat Int32} (h : f_X8_cheapest a0 p1 hs = some (o, hs')) : CT G l yX8_cheapest cX8_cheapest 3 (some .int) 11 405 2 12 [.ref a0, .int p1] hs o hs' tvI := by
  refine vx_ofW (cc := cX8_cheapest) (maxL := 3) (ret := (some .int)) (by decide +kernel) rfl ?_
  intro p e s m args below meth c s₁ B hml hxt hv
  obtain ⟨hav, hR, hKn⟩ := hv
  subst hav
  have hts := atoms_spec (ws := .code yX8_cheapest cX8_cheapest 3 (some .int) :: Tg) B.pre
  have C : Cx G l p s m _ c RX8 cX8_cheapest 3 := ⟨B.exec, B.bytes, hml, findClass_of_methodNamed B.named, fun w hw => hts w (List.mem_cons_of_mem _ hw), hKn, fun q hq => Nat.le_trans hR.2.2.1 hq⟩
  have C2 : Cy meth c (some .int) := ⟨B.returns, B.notSynchronized, hxt⟩
  have key : WG G p l e { frames := 11, cells := 2, slots := 12, locals := 405 } s m ([.ref a0, .int p1] : List Value).toArray below meth c 3 0 0 (vx_MQ below (QcT G o hs' tvI) (XCT G o hs') ([.ref a0, .int p1] : List Value).toArray s 2 12 (gA G)) hs [(0, va_rf (some a0)), (1, .int p1)] [] 0 := by
    unfold f_X8_cheapest at h
    refine q_aload_n C 0 dX8_cheapest_0 rfl ?_
    refine q_gR C fl_X8_19 dX8_cheapest_1 h (fun v1 h => ?_)
    refine q_aload_n C 0 dX8_cheapest_4 rfl ?_
    refine q_iload_n C 1 dX8_cheapest_5 rfl ?_
    refine q_callVX C (CN := RX8) (T := TX8) (N := 10) [.int p1] [va_rf v1] C2 ⟨(Nat.le_of_ble_eq_true rfl), (Nat.le_of_ble_eq_true rfl)⟩ (fun a0 o2 hs1 hm => m_X8_lessonNumbered hm) lk_X8_149 im_X8_lessonNumbered se_X8_X8_lessonNumbered rfl ⟨(Nat.le_of_ble_eq_true rfl), (Nat.le_of_ble_eq_true rfl)⟩ ⟨(Nat.le_of_ble_eq_true rfl), (Nat.le_of_ble_eq_true rfl)⟩ rfl rfl (by simp only [List.map, cat_rf, cat_i, cat_a]; decide) dX8_cheapest_6 h (fun v2 hs h => WG_st (st' := [va_rf v2, va_rf v1]) rfl ?_)
    refine q_callV C (CN := RX6) (T := TX6) (N := 6) [va_rf v2] [] (fun a0 o2 hs1 hm => m_X6_findCheapest hm) lk_X8_273 im_X6_findCheapest se_X6_X6_findCheapest rfl ⟨(Nat.le_of_ble_eq_true rfl), (Nat.le_of_ble_eq_true rfl)⟩ ⟨(Nat.le_of_ble_eq_true rfl), (Nat.le_of_ble_eq_true rfl)⟩ rfl rfl (by decide) dX8_cheapest_9 h (fun v3 hs h => WG_st (st' := [.int v3]) rfl ?_)
    refine q_istore_n C (fun v4 => [(2, .int v4), (0, va_rf (some a0)), (1, .int p1)]) dX8_cheapest_12 (by decide) (fun _ => rfl) h (fun v4 h => ?_)
    refine q_iload_n C 0 dX8_cheapest_13 rfl ?_
    refine q_iconst C (-1 : Int32) dX8_cheapest_14 (by decide) ?_
    refine q_icmp_ne C 29 dX8_cheapest_15 (by decide) h (fun h => ?_) (fun h => ?_)
    · refine q_iload_n C 0 dX8_cheapest_29 rfl ?_
      exact q_iret C C2 rfl (Nat.le_of_ble_eq_true rfl) (Nat.le_of_ble_eq_true rfl) dX8_cheapest_30 h
    · exact q_throwN C C2 (k := 3) (tx := "no place is possible") wc_X8_x190 iw_x3 at_X8_194 (by decide +kernel) (Nat.le_of_ble_eq_true rfl) (Nat.le_of_ble_eq_true rfl) (Nat.le_of_ble_eq_true rfl) (Nat.le_of_ble_eq_true rfl) (Nat.le_of_ble_eq_true rfl) (Nat.le_of_ble_eq_true rfl) (by decide) dX8_cheapest_18 dX8_cheapest_21 (Or.inr ⟨rfl, dX8_cheapest_22⟩) dX8_cheapest_25 dX8_cheapest_28 h
  rw [lg_entry_eq]
  exact key _ _ _ hR va_S.rf ⟨lv_entry _ (n := 3) (Nat.le_of_ble_eq_true rfl), (c1_r (c1_i c1_n))⟩

theorem cd_X8_costWith : Cond.code yX8_costWith cX8_costWith 6 (some .int) ∈ Tg := Tg_of (i := 1231) (by decide +kernel) (by decide +kernel)
theorem ml_X8_278 : Cond.methodLink RX8 278 yX6_costFrom ∈ Tg := Tg_of (i := 1232) (by decide +kernel) (by decide +kernel)
theorem lk_X8_278 : Lk RX8 278 yX6_costFrom cX6_costFrom 4 (some .int) 2 := ⟨ml_X8_278, cd_X6_costFrom, iw_X6, by decide +kernel⟩
section M_X8_costWith
variable {p : Program} {l : Launch} {e : Env} {s : State} {m : MethodId} {args : Array Value} {below : List Frame} {meth : Method} {c : Code} {G : GG} {o : Except Nat Int32} {hs' : Hs}
end M_X8_costWith
def f_X8_costWith (a0 : Nat) (p1 : Int32) (p2 : Int32) (p3 : Int32) : OO Int32 :=
    rcv (some a0) 11 fun r11 => call (f_X8_lessonNumbered r11 p1) (fun (v1 : Option Nat) =>
    lets v1 fun (v2 : Option Nat) =>
    rcv (some a0) 11 fun r10 => call (f_X8_roomOfPlace r10 p2 p3) (fun (v3 : Option Nat) =>
    lets v3 fun (v4 : Option Nat) =>
    rcv (some a0) 11 fun r9 => call (f_X8_requirePossible r9 v2 p2 v4) (fun (v5 : Unit) =>
    gR (some a0) 11 1 fun v6 =>
    rcv v6 9 fun r8 => call (f_X6_costFrom r8 v2 p2) (fun (v7 : Int32) =>
    rtn v7) nox) thr) thr) thr
set_option maxRecDepth 100000 in
set_option maxHeartbeats 4000000 in
theorem m_X8_costWith {G : GG} {l : Launch} {a0 : Nat} {p1 : Int32} {p2 : Int32} {p3 : Int32} {hs hs' : Hs} {o : Except Nat Int32} (h : f_X8_costWith a0 p1 p2 p3 hs = some (o, hs')) : CT G l yX8_costWith cX8_costWith 6 (some .int) 10 387 4 24 [.ref a0, .int p1, .int p2, .int p3] hs o hs' tvI := by
  refine vx_ofW (cc := cX8_costWith) (maxL := 6) (ret := (some .int)) (by decide +kernel) rfl ?_
  intro p e s m args below meth c s₁ B hml hxt hv
  obtain ⟨hav, hR, hKn⟩ := hv
  subst hav
  have hts := atoms_spec (ws := .code yX8_costWith cX8_costWith 6 (some .int) :: Tg) B.pre
  have C : Cx G l p s m _ c RX8 cX8_costWith 6 := ⟨B.exec, B.bytes, hml, findClass_of_methodNamed B.named, fun w hw => hts w (List.mem_cons_of_mem _ hw), hKn, fun q hq => Nat.le_trans hR.2.2.1 hq⟩
  have C2 : Cy meth c (some .int) := ⟨B.returns, B.notSynchronized, hxt⟩
  have key : WG G p l e { frames := 10, cells := 4, slots := 24, locals := 387 } s m ([.ref a0, .int p1, .int p2, .int p3] : List Value).toArray below meth c 6 0 0 (vx_MQ below (QcT G o hs' tvI) (XCT G o hs') ([.ref a0, .int p1, .int p2, .int p3] : List Value).toArray s 4 24 (gA G)) hs [(0, va_rf (some a0)), (1, .int p1), (2, .int p2), (3, .int p3)] [] 0 := by
    unfold f_X8_costWith at h
    refine q_aload_n C 0 dX8_costWith_0 rfl ?_
    refine q_iload_n C 1 dX8_costWith_1 rfl ?_
    refine q_callVX C (CN := RX8) (T := TX8) (N := 10) [.int p1] [] C2 ⟨(Nat.le_of_ble_eq_true rfl), (Nat.le_of_ble_eq_true rfl)⟩ (fun a0 o2 hs1 hm => m_X8_lessonNumbered hm) lk_X8_149 im_X8_lessonNumbered se_X8_X8_lessonNumbered rfl ⟨(Nat.le_of_ble_eq_true rfl), (Nat.le_of_ble_eq_true rfl)⟩ ⟨(Nat.le_of_ble_eq_true rfl), (Nat.le_of_ble_eq_true rfl)⟩ rfl rfl (by decide) dX8_costWith_2 h (fun v1 hs h => WG_st (st' := [va_rf v1]) rfl ?_)
    refine q_astore C (fun v2 => [(4, va_rf v2), (0, va_rf (some a0)), (1, .int p1), (2, .int p2), (3, .int p3)]) dX8_costWith_5 (by decide) (fun _ => rfl) h (fun v2 h => ?_)
    refine q_aload_n C 1 dX8_costWith_7 rfl ?_
    refine q_iload_n C 3 dX8_costWith_8 rfl ?_
    refine q_iload_n C 4 dX8_costWith_9 rfl ?_
    refine q_callVX C (CN := RX8) (T := TX8) (N := 10) [.int p2, .int p3] [] C2 ⟨(Nat.le_of_ble_eq_true rfl), (Nat.le_of_ble_eq_true rfl)⟩ (fun a0 o2 hs1 hm => m_X8_roomOfPlace hm) lk_X8_153 im_X8_roomOfPlace se_X8_X8_roomOfPlace rfl ⟨(Nat.le_of_ble_eq_true rfl), (Nat.le_of_ble_eq_true rfl)⟩ ⟨(Nat.le_of_ble_eq_true rfl), (Nat.le_of_ble_eq_true rfl)⟩ rfl rfl (by decide) dX8_costWith_10 h (fun v3 hs h => WG_st (st' := [va_rf v3]) rfl ?_)
    refine q_astore C (fun v4 => [(5, va_rf v4), (4, va_rf v2), (0, va_rf (some a0)), (1, .int p1), (2, .int p2), (3, .int p3)]) dX8_costWith_13 (by decide) (fun _ => rfl) h (fun v4 h => ?_)
    refine q_aload_n C 2 dX8_costWith_15 rfl ?_
    refine q_aload C 1 dX8_costWith_16 rfl ?_
    refine q_iload_n C 4 dX8_costWith_18 rfl ?_
    refine q_aload C 0 dX8_costWith_19 rfl ?_
    refine q_callVX C (CN := RX8) (T := TX8) (N := 10) [va_rf v2, .int p2, va_rf v4] [] C2 ⟨(Nat.le_of_ble_eq_true rfl), (Nat.le_of_ble_eq_true rfl)⟩ (fun a0 o2 hs1 hm => m_X8_requirePossible hm) lk_X8_214 im_X8_requirePossible se_X8_X8_requirePossible rfl ⟨(Nat.le_of_ble_eq_true rfl), (Nat.le_of_ble_eq_true rfl)⟩ ⟨(Nat.le_of_ble_eq_true rfl), (Nat.le_of_ble_eq_true rfl)⟩ rfl rfl (by decide) dX8_costWith_21 h (fun v5 hs h => WG_st (st' := []) rfl ?_)
    refine q_aload_n C 2 dX8_costWith_24 rfl ?_
    refine q_gR C fl_X8_19 dX8_costWith_25 h (fun v6 h => ?_)
    refine q_aload C 1 dX8_costWith_28 rfl ?_
    refine q_iload_n C 4 dX8_costWith_30 rfl ?_
    refine q_callV C (CN := RX6) (T := TX6) (N := 6) [va_rf v2, .int p2] [] (fun a0 o2 hs1 hm => m_X6_costFrom hm) lk_X8_278 im_X6_costFrom se_X6_X6_costFrom rfl ⟨(Nat.le_of_ble_eq_true rfl), (Nat.le_of_ble_eq_true rfl)⟩ ⟨(Nat.le_of_ble_eq_true rfl), (Nat.le_of_ble_eq_true rfl)⟩ rfl rfl (by decide) dX8_costWith_31 h (fun v7 hs h => WG_st (st' := [.int v7]) rfl ?_)
    exact q_iret C C2 rfl (Nat.le_of_ble_eq_true rfl) (Nat.le_of_ble_eq_true rfl) dX8_costWith_34 h
  rw [lg_entry_eq]
  exact key _ _ _ hR va_S.rf ⟨lv_entry _ (n := 6) (Nat.le_of_ble_eq_true rfl), (c1_r (c1_i (c1_i (c1_i c1_n))))⟩

theorem cd_X8_hardest : Cond.code yX8_hardest cX8_hardest 2 (some .int) ∈ Tg := Tg_of (i := 1243) (by decide +kernel) (by decide +kernel)
theorem ml_X8_281 : Cond.methodLink RX8 281 yX6_unplaced ∈ Tg := Tg_of (i := 457) (by decide +kernel) (by decide +kernel)
theorem lk_X8_281 : Lk RX8 281 yX6_unplaced cX6_unplaced 3 (some .int) 0 := ⟨ml_X8_281, cd_X6_unplaced, iw_X6, by decide +kernel⟩
theorem ml_X8_284 : Cond.methodLink RX8 284 yX6_findHardest ∈ Tg := Tg_of (i := 1244) (by decide +kernel) (by decide +kernel)
theorem lk_X8_284 : Lk RX8 284 yX6_findHardest cX6_findHardest 6 (some (.object "Termgrid$Lesson")) 1 := ⟨ml_X8_284, cd_X6_findHardest, iw_X6, by decide +kernel⟩
section M_X8_hardest
variable {p : Program} {l : Launch} {e : Env} {s : State} {m : MethodId} {args : Array Value} {below : List Frame} {meth : Method} {c : Code} {G : GG} {o : Except Nat Int32} {hs' : Hs}
end M_X8_hardest
def f_X8_hardest (a0 : Nat) : OO Int32 :=
    gR (some a0) 11 1 fun v1 =>
    gR (some a0) 11 1 fun v2 =>
    rcv v2 9 fun r8 => call (f_X6_unplaced r8 ) (fun (v3 : Int32) =>
    rcv v1 9 fun r7 => call (f_X6_findHardest r7 v3) (fun (v4 : Option Nat) =>
    lets v4 fun (v5 : Option Nat) =>
    (if ¬ v5 = none then
    gI v5 7 0 fun v6 =>
    rtn v6
    else
    nthrow 3)) nox) nox
set_option maxRecDepth 100000 in
set_option maxHeartbeats 4000000 in
theorem m_X8_hardest {G : GG} {l : Launch} {a0 : Nat} {hs hs' : Hs} {o : Except Nat Int32} (h : f_X8_hardest a0 hs = some (o, hs')) : CT G l yX8_hardest cX8_hardest 2 (some .int) 12 430 1 6 [.ref a0] hs o hs' tvI := by
  refine vx_ofW (cc := cX8_hardest) (maxL := 2) (ret := (some .int)) (by decide +kernel) rfl ?_
  intro p e s m args below meth c s₁ B hml hxt hv
  obtain ⟨hav, hR, hKn⟩ := hv
  subst hav
  have hts := atoms_spec (ws := .code yX8_hardest cX8_hardest 2 (some .int) :: Tg) B.pre
  have C : Cx G l p s m _ c RX8 cX8_hardest 2 := ⟨B.exec, B.bytes, hml, findClass_of_methodNamed B.named, fun w hw => hts w (List.mem_cons_of_mem _ hw), hKn, fun q hq => Nat.le_trans hR.2.2.1 hq⟩
  have C2 : Cy meth c (some .int) := ⟨B.returns, B.notSynchronized, hxt⟩
  have key : WG G p l e { frames := 12, cells := 1, slots := 6, locals := 430 } s m ([.ref a0] : List Value).toArray below meth c 2 0 0 (vx_MQ below (QcT G o hs' tvI) (XCT G o hs') ([.ref a0] : List Value).toArray s 1 6 (gA G)) hs [(0, va_rf (some a0))] [] 0 := by
    unfold f_X8_hardest at h
    refine q_aload_n C 0 dX8_hardest_0 rfl ?_
    refine q_gR C fl_X8_19 dX8_hardest_1 h (fun v1 h => ?_)
    refine q_aload_n C 0 dX8_hardest_4 rfl ?_
    refine q_gR C fl_X8_19 dX8_hardest_5 h (fun v2 h => ?_)
    refine q_callV C (CN := RX6) (T := TX6) (N := 6) [] [va_rf v1] (fun a0 o2 hs1 hm => m_X6_unplaced hm) lk_X8_281 im_X6_unplaced se_X6_X6_unplaced rfl ⟨(Nat.le_of_ble_eq_true rfl), (Nat.le_of_ble_eq_true rfl)⟩ ⟨(Nat.le_of_ble_eq_true rfl), (Nat.le_of_ble_eq_true rfl)⟩ rfl rfl (by simp only [List.map, cat_rf, cat_i, cat_a]; decide) dX8_hardest_8 h (fun v3 hs h => WG_st (st' := [.int v3, va_rf v1]) rfl ?_)
    refine q_callV C (CN := RX6) (T := TX6) (N := 6) [.int v3] [] (fun a0 o2 hs1 hm => m_X6_findHardest hm) lk_X8_284 im_X6_findHardest se_X6_X6_findHardest rfl ⟨(Nat.le_of_ble_eq_true rfl), (Nat.le_of_ble_eq_true rfl)⟩ ⟨(Nat.le_of_ble_eq_true rfl), (Nat.le_of_ble_eq_true rfl)⟩ rfl rfl (by decide) dX8_hardest_11 h (fun v4 hs h => WG_st (st' := [va_rf v4]) rfl ?_)
    refine q_astore_n C (fun v5 => [(1, va_rf v5), (0, va_rf (some a0))]) dX8_hardest_14 (by decide) (fun _ => rfl) h (fun v5 h => ?_)
    refine q_aload_n C 0 dX8_hardest_15 rfl ?_
    refine q_ifnonnull C 30 dX8_hardest_16 (by decide) h (fun h => ?_) (fun h => ?_)
    · refine q_aload_n C 0 dX8_hardest_30 rfl ?_
      refine q_gI C fl_X8_251 dX8_hardest_31 h (fun v6 h => ?_)
      exact q_iret C C2 rfl (Nat.le_of_ble_eq_true rfl) (Nat.le_of_ble_eq_true rfl) dX8_hardest_34 h
    · exact q_throwN C C2 (k := 3) (tx := "all lessons are placed") wc_X8_x190 iw_x3 at_X8_194 (by decide +kernel) (Nat.le_of_ble_eq_true rfl) (Nat.le_of_ble_eq_true rfl) (Nat.le_of_ble_eq_true rfl) (Nat.le_of_ble_eq_true rfl) (Nat.le_of_ble_eq_true rfl) (Nat.le_of_ble_eq_true rfl) (by decide) dX8_hardest_19 dX8_hardest_22 (Or.inr ⟨rfl, dX8_hardest_23⟩) dX8_hardest_26 dX8_hardest_29 h
  rw [lg_entry_eq]
  exact key _ _ _ hR va_S.rf ⟨lv_entry _ (n := 2) (Nat.le_of_ble_eq_true rfl), (c1_r c1_n)⟩

theorem cd_X8_fill : Cond.code yX8_fill cX8_fill 1 (some .int) ∈ Tg := Tg_of (i := 256) (by decide +kernel) (by decide +kernel)
theorem fl_X8_26 : Fld RX8 26 11 2 (.object "Termgrid$Filler") := ⟨RX8, TX8, 10, RX8, rfl, by decide, wf_X8_26, (Or.inl rfl), gu_X8, tyX8_ok _ (by decide), ⟨tyX8, tyX8_ok⟩, nmX8⟩
theorem ml_X8_289 : Cond.methodLink RX8 289 yX1_fillUp ∈ Tg := Tg_of (i := 257) (by decide +kernel) (by decide +kernel)
theorem lk_X8_289 : Lk RX8 289 yX1_fillUp cX1_fillUp 7 none 1 := ⟨ml_X8_289, cd_X1_fillUp, iw_X1, by decide +kernel⟩
theorem im_X1_fillUp : Cond.instanceMethod yX1_fillUp ∈ Tg := Tg_of (i := 258) (by decide +kernel) (by decide +kernel)
theorem se_X1_X1_fillUp : Cond.selects RX1 yX1_fillUp yX1_fillUp ∈ Tg := Tg_of (i := 259) (by decide +kernel) (by decide +kernel)
section M_X8_fill
variable {p : Program} {l : Launch} {e : Env} {s : State} {m : MethodId} {args : Array Value} {below : List Frame} {meth : Method} {c : Code} {G : GG} {o : Except Nat Int32} {hs' : Hs}
end M_X8_fill
def f_X8_fill (a0 : Nat) : OO Int32 :=
    gR (some a0) 11 2 fun v1 =>
    gR (some a0) 11 1 fun v2 =>
    rcv v1 4 fun r8 => call (f_X1_fillUp r8 v2) (fun (v3 : Unit) =>
    gR (some a0) 11 1 fun v4 =>
    rcv v4 9 fun r7 => call (f_X6_unplaced r7 ) (fun (v5 : Int32) =>
    call (f_J6_bitCount_0f7a4 v5) (fun (v6 : Int32) =>
    rtn v6) nox) nox) nox
set_option maxRecDepth 100000 in
set_option maxHeartbeats 4000000 in
theorem m_X8_fill {G : GG} {l : Launch} {a0 : Nat} {hs hs' : Hs} {o : Except Nat Int32} (h : f_X8_fill a0 hs = some (o, hs')) : CT G l yX8_fill cX8_fill 1 (some .int) 13 456 0 0 [.ref a0] hs o hs' tvI := by
  refine vx_ofW (cc := cX8_fill) (maxL := 1) (ret := (some .int)) (by decide +kernel) rfl ?_
  intro p e s m args below meth c s₁ B hml hxt hv
  obtain ⟨hav, hR, hKn⟩ := hv
  subst hav
  have hts := atoms_spec (ws := .code yX8_fill cX8_fill 1 (some .int) :: Tg) B.pre
  have C : Cx G l p s m _ c RX8 cX8_fill 1 := ⟨B.exec, B.bytes, hml, findClass_of_methodNamed B.named, fun w hw => hts w (List.mem_cons_of_mem _ hw), hKn, fun q hq => Nat.le_trans hR.2.2.1 hq⟩
  have C2 : Cy meth c (some .int) := ⟨B.returns, B.notSynchronized, hxt⟩
  have key : WG G p l e { frames := 13, cells := 0, slots := 0, locals := 456 } s m ([.ref a0] : List Value).toArray below meth c 1 0 0 (vx_MQ below (QcT G o hs' tvI) (XCT G o hs') ([.ref a0] : List Value).toArray s 0 0 (gA G)) hs [(0, va_rf (some a0))] [] 0 := by
    unfold f_X8_fill at h
    refine q_aload_n C 0 dX8_fill_0 rfl ?_
    refine q_gR C fl_X8_26 dX8_fill_1 h (fun v1 h => ?_)
    refine q_aload_n C 0 dX8_fill_4 rfl ?_
    refine q_gR C fl_X8_19 dX8_fill_5 h (fun v2 h => ?_)
    refine q_callV C (CN := RX1) (T := TX1) (N := 1) [va_rf v2] [] (fun a0 o2 hs1 hm => m_X1_fillUp hm) lk_X8_289 im_X1_fillUp se_X1_X1_fillUp rfl ⟨(Nat.le_of_ble_eq_true rfl), (Nat.le_of_ble_eq_true rfl)⟩ ⟨(Nat.le_of_ble_eq_true rfl), (Nat.le_of_ble_eq_true rfl)⟩ rfl rfl (by decide) dX8_fill_8 h (fun v3 hs h => WG_st (st' := []) rfl ?_)
    refine q_aload_n C 0 dX8_fill_11 rfl ?_
    refine q_gR C fl_X8_19 dX8_fill_12 h (fun v4 h => ?_)
    refine q_callV C (CN := RX6) (T := TX6) (N := 6) [] [] (fun a0 o2 hs1 hm => m_X6_unplaced hm) lk_X8_281 im_X6_unplaced se_X6_X6_unplaced rfl ⟨(Nat.le_of_ble_eq_true rfl), (Nat.le_of_ble_eq_true rfl)⟩ ⟨(Nat.le_of_ble_eq_true rfl), (Nat.le_of_ble_eq_true rfl)⟩ rfl rfl (by decide) dX8_fill_15 h (fun v5 hs h => WG_st (st' := [.int v5]) rfl ?_)
    refine q_callS C [.int v5] [] (fun o2 hs1 hm => m_J6_bitCount_0f7a4 hm) lk_X8_202 sm_J6_bitCount_0f7a4 ⟨(Nat.le_of_ble_eq_true rfl), (Nat.le_of_ble_eq_true rfl)⟩ ⟨(Nat.le_of_ble_eq_true rfl), (Nat.le_of_ble_eq_true rfl)⟩ rfl rfl (by decide) dX8_fill_18 h (fun v6 hs h => WG_st (st' := [.int v6]) rfl ?_)
    exact q_iret C C2 rfl (Nat.le_of_ble_eq_true rfl) (Nat.le_of_ble_eq_true rfl) dX8_fill_21 h
  rw [lg_entry_eq]
  exact key _ _ _ hR va_S.rf ⟨lv_entry _ (n := 1) (Nat.le_of_ble_eq_true rfl), (c1_r c1_n)⟩

theorem cd_X8_improve : Cond.code yX8_improve cX8_improve 2 (some .int) ∈ Tg := Tg_of (i := 1252) (by decide +kernel) (by decide +kernel)
theorem fl_X8_33 : Fld RX8 33 11 3 (.object "Termgrid$Improver") := ⟨RX8, TX8, 10, RX8, rfl, by decide, wf_X8_33, (Or.inl rfl), gu_X8, tyX8_ok _ (by decide), ⟨tyX8, tyX8_ok⟩, nmX8⟩
theorem ml_X8_295 : Cond.methodLink RX8 295 yX3_improveTable ∈ Tg := Tg_of (i := 1254) (by decide +kernel) (by decide +kernel)
theorem lk_X8_295 : Lk RX8 295 yX3_improveTable cX3_improveTable 6 none 2 := ⟨ml_X8_295, cd_X3_improveTable, iw_X3, by decide +kernel⟩
theorem im_X3_improveTable : Cond.instanceMethod yX3_improveTable ∈ Tg := Tg_of (i := 1255) (by decide +kernel) (by decide +kernel)
theorem se_X3_X3_improveTable : Cond.selects RX3 yX3_improveTable yX3_improveTable ∈ Tg := Tg_of (i := 1256) (by decide +kernel) (by decide +kernel)
section M_X8_improve
variable {p : Program} {l : Launch} {e : Env} {s : State} {m : MethodId} {args : Array Value} {below : List Frame} {meth : Method} {c : Code} {G : GG} {o : Except Nat Int32} {hs' : Hs}
end M_X8_improve
def f_X8_improve (a0 : Nat) (p1 : Int32) : OO Int32 :=
    call (f_X8_isOutside p1 (1 : Int32) (20 : Int32)) (fun (v1 : Int32) =>
    (if v1 = 0 then
    gR (some a0) 11 3 fun v2 =>
    gR (some a0) 11 1 fun v3 =>
    rcv v2 6 fun r8 => call (f_X3_improveTable r8 v3 p1) (fun (v4 : Unit) =>
    gR (some a0) 11 1 fun v5 =>
    rcv v5 9 fun r7 => call (f_X6_costKept r7 ) (fun (v6 : Int32) =>
    rtn v6) nox) nox
    else
    nthrow 1)) nox
set_option maxRecDepth 100000 in
set_option maxHeartbeats 4000000 in
theorem m_X8_improve {G : GG} {l : Launch} {a0 : Nat} {p1 : Int32} {hs hs' : Hs} {o : Except Nat Int32} (h : f_X8_improve a0 p1 hs = some (o, hs')) : CT G l yX8_improve cX8_improve 2 (some .int) 13 458 1 6 [.ref a0, .int p1] hs o hs' tvI := by
  refine vx_ofW (cc := cX8_improve) (maxL := 2) (ret := (some .int)) (by decide +kernel) rfl ?_
  intro p e s m args below meth c s₁ B hml hxt hv
  obtain ⟨hav, hR, hKn⟩ := hv
  subst hav
  have hts := atoms_spec (ws := .code yX8_improve cX8_improve 2 (some .int) :: Tg) B.pre
  have C : Cx G l p s m _ c RX8 cX8_improve 2 := ⟨B.exec, B.bytes, hml, findClass_of_methodNamed B.named, fun w hw => hts w (List.mem_cons_of_mem _ hw), hKn, fun q hq => Nat.le_trans hR.2.2.1 hq⟩
  have C2 : Cy meth c (some .int) := ⟨B.returns, B.notSynchronized, hxt⟩
  have key : WG G p l e { frames := 13, cells := 1, slots := 6, locals := 458 } s m ([.ref a0, .int p1] : List Value).toArray below meth c 2 0 0 (vx_MQ below (QcT G o hs' tvI) (XCT G o hs') ([.ref a0, .int p1] : List Value).toArray s 1 6 (gA G)) hs [(0, va_rf (some a0)), (1, .int p1)] [] 0 := by
    unfold f_X8_improve at h
    refine q_iload_n C 1 dX8_improve_0 rfl ?_
    refine q_iconst C (1 : Int32) dX8_improve_1 (by decide) ?_
    refine q_bipush C (20 : Int32) dX8_improve_2 (by decide) ?_
    refine q_callS C [.int p1, .int (1 : Int32), .int (20 : Int32)] [] (fun o2 hs1 hm => m_X8_isOutside hm) lk_X8_56 sm_X8_isOutside ⟨(Nat.le_of_ble_eq_true rfl), (Nat.le_of_ble_eq_true rfl)⟩ ⟨(Nat.le_of_ble_eq_true rfl), (Nat.le_of_ble_eq_true rfl)⟩ rfl rfl (by decide) dX8_improve_4 h (fun v1 hs h => WG_st (st' := [.int v1]) rfl ?_)
    refine q_if_eq C 21 dX8_improve_7 (by decide) h (fun h => ?_) (fun h => ?_)
    · refine q_aload_n C 0 dX8_improve_21 rfl ?_
      refine q_gR C fl_X8_33 dX8_improve_22 h (fun v2 h => ?_)
      refine q_aload_n C 0 dX8_improve_25 rfl ?_
      refine q_gR C fl_X8_19 dX8_improve_26 h (fun v3 h => ?_)
      refine q_iload_n C 1 dX8_improve_29 rfl ?_
      refine q_callV C (CN := RX3) (T := TX3) (N := 2) [va_rf v3, .int p1] [] (fun a0 o2 hs1 hm => m_X3_improveTable hm) lk_X8_295 im_X3_improveTable se_X3_X3_improveTable rfl ⟨(Nat.le_of_ble_eq_true rfl), (Nat.le_of_ble_eq_true rfl)⟩ ⟨(Nat.le_of_ble_eq_true rfl), (Nat.le_of_ble_eq_true rfl)⟩ rfl rfl (by decide) dX8_improve_30 h (fun v4 hs h => WG_st (st' := []) rfl ?_)
      refine q_aload_n C 0 dX8_improve_33 rfl ?_
      refine q_gR C fl_X8_19 dX8_improve_34 h (fun v5 h => ?_)
      refine q_callV C (CN := RX6) (T := TX6) (N := 6) [] [] (fun a0 o2 hs1 hm => m_X6_costKept hm) lk_X8_221 im_X6_costKept se_X6_X6_costKept rfl ⟨(Nat.le_of_ble_eq_true rfl), (Nat.le_of_ble_eq_true rfl)⟩ ⟨(Nat.le_of_ble_eq_true rfl), (Nat.le_of_ble_eq_true rfl)⟩ rfl rfl (by decide) dX8_improve_37 h (fun v6 hs h => WG_st (st' := [.int v6]) rfl ?_)
      exact q_iret C C2 rfl (Nat.le_of_ble_eq_true rfl) (Nat.le_of_ble_eq_true rfl) dX8_improve_40 h
    · exact q_throw C C2 (k := 1) (tx := "number of steps out of range") wc_X8_x60 iw_x1 at_X8_64 (by decide +kernel) (Nat.le_of_ble_eq_true rfl) (Nat.le_of_ble_eq_true rfl) (Nat.le_of_ble_eq_true rfl) (Nat.le_of_ble_eq_true rfl) (Nat.le_of_ble_eq_true rfl) (Nat.le_of_ble_eq_true rfl) (by decide) dX8_improve_10 dX8_improve_13 (Or.inr ⟨rfl, dX8_improve_14⟩) dX8_improve_17 dX8_improve_20 h
  rw [lg_entry_eq]
  exact key _ _ _ hR va_S.rf ⟨lv_entry _ (n := 2) (Nat.le_of_ble_eq_true rfl), (c1_r (c1_i c1_n))⟩

theorem cd_X8_cost : Cond.code yX8_cost cX8_cost 1 (some .int) ∈ Tg := Tg_of (i := 463) (by decide +kernel) (by decide +kernel)
section M_X8_cost
variable {p : Program} {l : Launch} {e : Env} {s : State} {m : MethodId} {args : Array Value} {below : List Frame} {meth : Method} {c : Code} {G : GG} {o : Except Nat Int32} {hs' : Hs}
end M_X8_cost
def f_X8_cost (a0 : Nat) : OO Int32 :=
    gR (some a0) 11 1 fun v1 =>
    rcv v1 9 fun r3 => call (f_X6_costKept r3 ) (fun (v2 : Int32) =>
    rtn v2) nox
set_option maxRecDepth 100000 in
set_option maxHeartbeats 4000000 in
theorem m_X8_cost {G : GG} {l : Launch} {a0 : Nat} {hs hs' : Hs} {o : Except Nat Int32} (h : f_X8_cost a0 hs = some (o, hs')) : CT G l yX8_cost cX8_cost 1 (some .int) 2 43 0 0 [.ref a0] hs o hs' tvI := by
  refine vx_ofW (cc := cX8_cost) (maxL := 1) (ret := (some .int)) (by decide +kernel) rfl ?_
  intro p e s m args below meth c s₁ B hml hxt hv
  obtain ⟨hav, hR, hKn⟩ := hv
  subst hav
  have hts := atoms_spec (ws := .code yX8_cost cX8_cost 1 (some .int) :: Tg) B.pre
  have C : Cx G l p s m _ c RX8 cX8_cost 1 := ⟨B.exec, B.bytes, hml, findClass_of_methodNamed B.named, fun w hw => hts w (List.mem_cons_of_mem _ hw), hKn, fun q hq => Nat.le_trans hR.2.2.1 hq⟩
  have C2 : Cy meth c (some .int) := ⟨B.returns, B.notSynchronized, hxt⟩
  have key : WG G p l e { frames := 2, cells := 0, slots := 0, locals := 43 } s m ([.ref a0] : List Value).toArray below meth c 1 0 0 (vx_MQ below (QcT G o hs' tvI) (XCT G o hs') ([.ref a0] : List Value).toArray s 0 0 (gA G)) hs [(0, va_rf (some a0))] [] 0 := by
    unfold f_X8_cost at h
    refine q_aload_n C 0 dX8_cost_0 rfl ?_
    refine q_gR C fl_X8_19 dX8_cost_1 h (fun v1 h => ?_)
    refine q_callV C (CN := RX6) (T := TX6) (N := 6) [] [] (fun a0 o2 hs1 hm => m_X6_costKept hm) lk_X8_221 im_X6_costKept se_X6_X6_costKept rfl ⟨(Nat.le_of_ble_eq_true rfl), (Nat.le_of_ble_eq_true rfl)⟩ ⟨(Nat.le_of_ble_eq_true rfl), (Nat.le_of_ble_eq_true rfl)⟩ rfl rfl (by decide) dX8_cost_4 h (fun v2 hs h => WG_st (st' := [.int v2]) rfl ?_)
    exact q_iret C C2 rfl (Nat.le_of_ble_eq_true rfl) (Nat.le_of_ble_eq_true rfl) dX8_cost_7 h
  rw [lg_entry_eq]
  exact key _ _ _ hR va_S.rf ⟨lv_entry _ (n := 1) (Nat.le_of_ble_eq_true rfl), (c1_r c1_n)⟩

theorem cd_X8_costAnew : Cond.code yX8_costAnew cX8_costAnew 3 (some .int) ∈ Tg := Tg_of (i := 472) (by decide +kernel) (by decide +kernel)
theorem wf_X8_299 : Cond.fieldLink RX8 299 RX6 (TX6 3).2.1 (TX6 3).2.2.1 ∈ Tg := Tg_of (i := 167) (by decide +kernel) (by decide +kernel)
theorem fl_X8_299 : Fld RX8 299 9 3 (.array .int) := ⟨RX6, TX6, 6, RX6, rfl, by decide, wf_X8_299, (Or.inl rfl), gu_X6, tyX6_ok _ (by decide), ⟨tyX6, tyX6_ok⟩, nmX6⟩
theorem ml_X8_302 : Cond.methodLink RX8 302 yX6_amountAnew ∈ Tg := Tg_of (i := 473) (by decide +kernel) (by decide +kernel)
theorem lk_X8_302 : Lk RX8 302 yX6_amountAnew cX6_amountAnew 2 (some .int) 1 := ⟨ml_X8_302, cd_X6_amountAnew, iw_X6, by decide +kernel⟩
theorem im_X6_amountAnew : Cond.instanceMethod yX6_amountAnew ∈ Tg := Tg_of (i := 474) (by decide +kernel) (by decide +kernel)
theorem se_X6_X6_amountAnew : Cond.selects RX6 yX6_amountAnew yX6_amountAnew ∈ Tg := Tg_of (i := 475) (by decide +kernel) (by decide +kernel)
section M_X8_costAnew
variable {p : Program} {l : Launch} {e : Env} {s : State} {m : MethodId} {args : Array Value} {below : List Frame} {meth : Method} {c : Code} {G : GG} {o : Except Nat Int32} {hs' : Hs}
def L_X8_costAnew_4 (a0 : Option Nat) (k_4_43 : Int32 → OO Int32) : Nat → Int32 → Int32 → OO Int32
  | 0, _, _ => failO
  | n + 1, x1, x2 =>
    gR a0 11 1 fun v3 =>
    gR v3 9 3 fun v4 =>
    alen v4 fun v5 =>
    (if v5 ≤ x2 then
    k_4_43 x1
    else
    gR a0 11 1 fun v6 =>
    gR v6 9 3 fun v7 =>
    ldI 0 v7 x2 fun v8 =>
    gR a0 11 1 fun v9 =>
    rcv v9 9 fun r13 => call (f_X6_amountAnew r13 x2) (fun (v10 : Int32) =>
    lets (x1 + (v8 * v10)) fun (v11 : Int32) =>
    lets (x2 + (1 : Int32)) fun (v12 : Int32) =>
    (L_X8_costAnew_4 a0 k_4_43 n) v11 v12) nox)
set_option maxRecDepth 100000 in
set_option maxHeartbeats 4000000 in
theorem w_L_X8_costAnew_4 (C : Cx G l p s m args c RX8 cX8_costAnew 3) (C2 : Cy meth c (some .int)) (a0 : Option Nat) (k_4_43 : Int32 → OO Int32) (hk_4_43 : ∀ (y1 : Int32) hs, k_4_43 y1 hs = some (o, hs') → WG G p l e { frames := 6, cells := 0, slots := 0, locals := 132 } s m args below meth c 3 0 0 (vx_MQ below (QcT G o hs' tvI) (XCT G o hs') args s 0 0 (gA G)) hs [(1, .int y1)] [] 43) : ∀ (n : Nat) (x1 : Int32) (x2 : Int32) (hs : Hs), L_X8_costAnew_4 a0 k_4_43 n x1 x2 hs = some (o, hs') → WG G p l e { frames := 6, cells := 0, slots := 0, locals := 132 } s m args below meth c 3 0 0 (vx_MQ below (QcT G o hs' tvI) (XCT G o hs') args s 0 0 (gA G)) hs [(0, va_rf a0), (1, .int x1), (2, .int x2)] [] 4 := by
  intro n
  induction n with
  | zero =>
    intro x1 x2 hs h
    rw [L_X8_costAnew_4] at h
    exact absurd h failO_e
  | succ n hrec_4 =>
    intro x1 x2 hs h
    rw [L_X8_costAnew_4] at h
    refine q_iload_n C 2 dX8_costAnew_4 rfl ?_
    refine q_aload_n C 0 dX8_costAnew_5 rfl ?_
    refine q_gR C fl_X8_19 dX8_costAnew_6 h (fun v3 h => ?_)
    refine q_gR C fl_X8_299 dX8_costAnew_9 h (fun v4 h => ?_)
    refine q_alen C dX8_costAnew_12 h (fun v5 h => ?_)
    refine q_icmp_ge C 43 dX8_costAnew_13 (by decide) h (fun h => ?_) (fun h => ?_)
    · refine WG.sub [1] rfl ?_
      exact hk_4_43 _ _ h
    · refine q_iload_n C 1 dX8_costAnew_16 rfl ?_
      refine q_aload_n C 0 dX8_costAnew_17 rfl ?_
      refine q_gR C fl_X8_19 dX8_costAnew_18 h (fun v6 h => ?_)
      refine q_gR C fl_X8_299 dX8_costAnew_21 h (fun v7 h => ?_)
      refine q_iload_n C 2 dX8_costAnew_24 rfl ?_
      refine q_iald C dX8_costAnew_25 h (fun v8 h => ?_)
      refine q_aload_n C 0 dX8_costAnew_26 rfl ?_
      refine q_gR C fl_X8_19 dX8_costAnew_27 h (fun v9 h => ?_)
      refine q_iload_n C 2 dX8_costAnew_30 rfl ?_
      refine q_callV C (CN := RX6) (T := TX6) (N := 6) [.int x2] [.int v8, .int x1] (fun a0 o2 hs1 hm => m_X6_amountAnew hm) lk_X8_302 im_X6_amountAnew se_X6_X6_amountAnew rfl ⟨(Nat.le_of_ble_eq_true rfl), (Nat.le_of_ble_eq_true rfl)⟩ ⟨(Nat.le_of_ble_eq_true rfl), (Nat.le_of_ble_eq_true rfl)⟩ rfl rfl (by simp only [List.map, cat_rf, cat_i, cat_a]; decide) dX8_costAnew_31 h (fun v10 hs h => WG_st (st' := [.int v10, .int v8, .int x1]) rfl ?_)
      refine q_imul C dX8_costAnew_34 ?_
      refine q_iadd C dX8_costAnew_35 ?_
      refine q_istore_n C (fun v11 => [(1, .int v11), (0, va_rf a0), (2, .int x2)]) dX8_costAnew_36 (by decide) (fun _ => rfl) h (fun v11 h => ?_)
      refine q_iinc C 2 (1 : Int32) (fun v12 => [(2, .int v12), (1, .int v11), (0, va_rf a0)]) dX8_costAnew_37 rfl (by decide) (by decide) (fun _ => rfl) h (fun v12 h => ?_)
      refine q_goto C 4 dX8_costAnew_40 (by decide) ?_
      refine WG.sub [2, 1, 0] rfl ?_
      exact hrec_4 _ _ _ h
end M_X8_costAnew
def f_X8_costAnew (a0 : Nat) : OO Int32 :=
    lets (0 : Int32) fun (v1 : Int32) =>
    lets (0 : Int32) fun (v2 : Int32) =>
    L_X8_costAnew_4 (some a0) (fun (v14 : Int32) => rtn v14) 100000 v1 v2
set_option maxRecDepth 100000 in
set_option maxHeartbeats 4000000 in
theorem m_X8_costAnew {G : GG} {l : Launch} {a0 : Nat} {hs hs' : Hs} {o : Except Nat Int32} (h : f_X8_costAnew a0 hs = some (o, hs')) : CT G l yX8_costAnew cX8_costAnew 3 (some .int) 6 132 0 0 [.ref a0] hs o hs' tvI := by
  refine vx_ofW (cc := cX8_costAnew) (maxL := 3) (ret := (some .int)) (by decide +kernel) rfl ?_
  intro p e s m args below meth c s₁ B hml hxt hv
  obtain ⟨hav, hR, hKn⟩ := hv
  subst hav
  have hts := atoms_spec (ws := .code yX8_costAnew cX8_costAnew 3 (some .int) :: Tg) B.pre
  have C : Cx G l p s m _ c RX8 cX8_costAnew 3 := ⟨B.exec, B.bytes, hml, findClass_of_methodNamed B.named, fun w hw => hts w (List.mem_cons_of_mem _ hw), hKn, fun q hq => Nat.le_trans hR.2.2.1 hq⟩
  have C2 : Cy meth c (some .int) := ⟨B.returns, B.notSynchronized, hxt⟩
  have key : WG G p l e { frames := 6, cells := 0, slots := 0, locals := 132 } s m ([.ref a0] : List Value).toArray below meth c 3 0 0 (vx_MQ below (QcT G o hs' tvI) (XCT G o hs') ([.ref a0] : List Value).toArray s 0 0 (gA G)) hs [(0, va_rf (some a0))] [] 0 := by
    unfold f_X8_costAnew at h
    refine q_iconst C (0 : Int32) dX8_costAnew_0 (by decide) ?_
    refine q_istore_n C (fun v1 => [(1, .int v1), (0, va_rf (some a0))]) dX8_costAnew_1 (by decide) (fun _ => rfl) h (fun v1 h => ?_)
    refine q_iconst C (0 : Int32) dX8_costAnew_2 (by decide) ?_
    refine q_istore_n C (fun v2 => [(2, .int v2), (1, .int v1), (0, va_rf (some a0))]) dX8_costAnew_3 (by decide) (fun _ => rfl) h (fun v2 h => ?_)
    refine WG.sub [2, 1, 0] rfl ?_
    refine w_L_X8_costAnew_4 C C2 _ _ ?_ _ _ _ _ h
    · intro v14 hs h
      refine q_iload_n C 0 dX8_costAnew_43 rfl ?_
      exact q_iret C C2 rfl (Nat.le_of_ble_eq_true rfl) (Nat.le_of_ble_eq_true rfl) dX8_costAnew_44 h
  rw [lg_entry_eq]
  exact key _ _ _ hR va_S.rf ⟨lv_entry _ (n := 3) (Nat.le_of_ble_eq_true rfl), (c1_r c1_n)⟩

theorem cd_X8_amount : Cond.code yX8_amount cX8_amount 2 (some .int) ∈ Tg := Tg_of (i := 1310) (by decide +kernel) (by decide +kernel)
theorem wf_X8_305 : Cond.fieldLink RX8 305 RX6 (TX6 4).2.1 (TX6 4).2.2.1 ∈ Tg := Tg_of (i := 169) (by decide +kernel) (by decide +kernel)
theorem fl_X8_305 : Fld RX8 305 9 4 (.array .int) := ⟨RX6, TX6, 6, RX6, rfl, by decide, wf_X8_305, (Or.inl rfl), gu_X6, tyX6_ok _ (by decide), ⟨tyX6, tyX6_ok⟩, nmX6⟩
theorem ml_X8_308 : Cond.methodLink RX8 308 yX8_at ∈ Tg := Tg_of (i := 1311) (by decide +kernel) (by decide +kernel)
theorem lk_X8_308 : Lk RX8 308 yX8_at cX8_at 2 (some .int) 2 := ⟨ml_X8_308, cd_X8_at, iw_X8, by decide +kernel⟩
section M_X8_amount
variable {p : Program} {l : Launch} {e : Env} {s : State} {m : MethodId} {args : Array Value} {below : List Frame} {meth : Method} {c : Code} {G : GG} {o : Except Nat Int32} {hs' : Hs}
end M_X8_amount
def f_X8_amount (a0 : Nat) (p1 : Int32) : OO Int32 :=
    call (f_X8_requirePiece p1) (fun (v1 : Unit) =>
    gR (some a0) 11 1 fun v2 =>
    gR v2 9 4 fun v3 =>
    call (f_X8_at v3 p1) (fun (v4 : Int32) =>
    rtn v4) nox) thr
set_option maxRecDepth 100000 in
set_option maxHeartbeats 4000000 in
theorem m_X8_amount {G : GG} {l : Launch} {a0 : Nat} {p1 : Int32} {hs hs' : Hs} {o : Except Nat Int32} (h : f_X8_amount a0 p1 hs = some (o, hs')) : CT G l yX8_amount cX8_amount 2 (some .int) 7 220 1 6 [.ref a0, .int p1] hs o hs' tvI := by
  refine vx_ofW (cc := cX8_amount) (maxL := 2) (ret := (some .int)) (by decide +kernel) rfl ?_
  intro p e s m args below meth c s₁ B hml hxt hv
  obtain ⟨hav, hR, hKn⟩ := hv
  subst hav
  have hts := atoms_spec (ws := .code yX8_amount cX8_amount 2 (some .int) :: Tg) B.pre
  have C : Cx G l p s m _ c RX8 cX8_amount 2 := ⟨B.exec, B.bytes, hml, findClass_of_methodNamed B.named, fun w hw => hts w (List.mem_cons_of_mem _ hw), hKn, fun q hq => Nat.le_trans hR.2.2.1 hq⟩
  have C2 : Cy meth c (some .int) := ⟨B.returns, B.notSynchronized, hxt⟩
  have key : WG G p l e { frames := 7, cells := 1, slots := 6, locals := 220 } s m ([.ref a0, .int p1] : List Value).toArray below meth c 2 0 0 (vx_MQ below (QcT G o hs' tvI) (XCT G o hs') ([.ref a0, .int p1] : List Value).toArray s 1 6 (gA G)) hs [(0, va_rf (some a0)), (1, .int p1)] [] 0 := by
    unfold f_X8_amount at h
    refine q_iload_n C 1 dX8_amount_0 rfl ?_
    refine q_callSX C [.int p1] [] C2 ⟨(Nat.le_of_ble_eq_true rfl), (Nat.le_of_ble_eq_true rfl)⟩ (fun o2 hs1 hm => m_X8_requirePiece hm) lk_X8_140 sm_X8_requirePiece ⟨(Nat.le_of_ble_eq_true rfl), (Nat.le_of_ble_eq_true rfl)⟩ ⟨(Nat.le_of_ble_eq_true rfl), (Nat.le_of_ble_eq_true rfl)⟩ rfl rfl (by decide) dX8_amount_1 h (fun v1 hs h => WG_st (st' := []) rfl ?_)
    refine q_aload_n C 0 dX8_amount_4 rfl ?_
    refine q_gR C fl_X8_19 dX8_amount_5 h (fun v2 h => ?_)
    refine q_gR C fl_X8_305 dX8_amount_8 h (fun v3 h => ?_)
    refine q_iload_n C 1 dX8_amount_11 rfl ?_
    refine q_callS C [va_rf v3, .int p1] [] (fun o2 hs1 hm => m_X8_at hm) lk_X8_308 sm_X8_at ⟨(Nat.le_of_ble_eq_true rfl), (Nat.le_of_ble_eq_true rfl)⟩ ⟨(Nat.le_of_ble_eq_true rfl), (Nat.le_of_ble_eq_true rfl)⟩ rfl rfl (by decide) dX8_amount_12 h (fun v4 hs h => WG_st (st' := [.int v4]) rfl ?_)
    exact q_iret C C2 rfl (Nat.le_of_ble_eq_true rfl) (Nat.le_of_ble_eq_true rfl) dX8_amount_15 h
  rw [lg_entry_eq]
  exact key _ _ _ hR va_S.rf ⟨lv_entry _ (n := 2) (Nat.le_of_ble_eq_true rfl), (c1_r (c1_i c1_n))⟩

theorem cd_X8_breaks : Cond.code yX8_breaks cX8_breaks 1 (some .int) ∈ Tg := Tg_of (i := 519) (by decide +kernel) (by decide +kernel)
theorem ml_X8_312 : Cond.methodLink RX8 312 yX6_countBreaks ∈ Tg := Tg_of (i := 520) (by decide +kernel) (by decide +kernel)
theorem lk_X8_312 : Lk RX8 312 yX6_countBreaks cX6_countBreaks 1 (some .int) 0 := ⟨ml_X8_312, cd_X6_countBreaks, iw_X6, by decide +kernel⟩
theorem im_X6_countBreaks : Cond.instanceMethod yX6_countBreaks ∈ Tg := Tg_of (i := 521) (by decide +kernel) (by decide +kernel)
theorem se_X6_X6_countBreaks : Cond.selects RX6 yX6_countBreaks yX6_countBreaks ∈ Tg := Tg_of (i := 522) (by decide +kernel) (by decide +kernel)
section M_X8_breaks
variable {p : Program} {l : Launch} {e : Env} {s : State} {m : MethodId} {args : Array Value} {below : List Frame} {meth : Method} {c : Code} {G : GG} {o : Except Nat Int32} {hs' : Hs}
end M_X8_breaks
def f_X8_breaks (a0 : Nat) : OO Int32 :=
    gR (some a0) 11 1 fun v1 =>
    rcv v1 9 fun r3 => call (f_X6_countBreaks r3 ) (fun (v2 : Int32) =>
    rtn v2) nox
set_option maxRecDepth 100000 in
set_option maxHeartbeats 4000000 in
theorem m_X8_breaks {G : GG} {l : Launch} {a0 : Nat} {hs hs' : Hs} {o : Except Nat Int32} (h : f_X8_breaks a0 hs = some (o, hs')) : CT G l yX8_breaks cX8_breaks 1 (some .int) 11 408 0 0 [.ref a0] hs o hs' tvI := by
  refine vx_ofW (cc := cX8_breaks) (maxL := 1) (ret := (some .int)) (by decide +kernel) rfl ?_
  intro p e s m args below meth c s₁ B hml hxt hv
  obtain ⟨hav, hR, hKn⟩ := hv
  subst hav
  have hts := atoms_spec (ws := .code yX8_breaks cX8_breaks 1 (some .int) :: Tg) B.pre
  have C : Cx G l p s m _ c RX8 cX8_breaks 1 := ⟨B.exec, B.bytes, hml, findClass_of_methodNamed B.named, fun w hw => hts w (List.mem_cons_of_mem _ hw), hKn, fun q hq => Nat.le_trans hR.2.2.1 hq⟩
  have C2 : Cy meth c (some .int) := ⟨B.returns, B.notSynchronized, hxt⟩
  have key : WG G p l e { frames := 11, cells := 0, slots := 0, locals := 408 } s m ([.ref a0] : List Value).toArray below meth c 1 0 0 (vx_MQ below (QcT G o hs' tvI) (XCT G o hs') ([.ref a0] : List Value).toArray s 0 0 (gA G)) hs [(0, va_rf (some a0))] [] 0 := by
    unfold f_X8_breaks at h
    refine q_aload_n C 0 dX8_breaks_0 rfl ?_
    refine q_gR C fl_X8_19 dX8_breaks_1 h (fun v1 h => ?_)
    refine q_callV C (CN := RX6) (T := TX6) (N := 6) [] [] (fun a0 o2 hs1 hm => m_X6_countBreaks hm) lk_X8_312 im_X6_countBreaks se_X6_X6_countBreaks rfl ⟨(Nat.le_of_ble_eq_true rfl), (Nat.le_of_ble_eq_true rfl)⟩ ⟨(Nat.le_of_ble_eq_true rfl), (Nat.le_of_ble_eq_true rfl)⟩ rfl rfl (by decide) dX8_breaks_4 h (fun v2 hs h => WG_st (st' := [.int v2]) rfl ?_)
    exact q_iret C C2 rfl (Nat.le_of_ble_eq_true rfl) (Nat.le_of_ble_eq_true rfl) dX8_breaks_7 h
  rw [lg_entry_eq]
  exact key _ _ _ hR va_S.rf ⟨lv_entry _ (n := 1) (Nat.le_of_ble_eq_true rfl), (c1_r c1_n)⟩

theorem cd_X8_requireKind : Cond.code yX8_requireKind cX8_requireKind 1 none ∈ Tg := Tg_of (i := 1321) (by decide +kernel) (by decide +kernel)
section M_X8_requireKind
variable {p : Program} {l : Launch} {e : Env} {s : State} {m : MethodId} {args : Array Value} {below : List Frame} {meth : Method} {c : Code} {G : GG} {o : Except Nat Unit} {hs' : Hs}
end M_X8_requireKind
def f_X8_requireKind (p0 : Int32) : OO Unit :=
    call (f_X8_isOutside p0 (0 : Int32) (3 : Int32)) (fun (v1 : Int32) =>
    (if v1 = 0 then
    rtn ()
    else
    nthrow 1)) nox
set_option maxRecDepth 100000 in
set_option maxHeartbeats 4000000 in
theorem m_X8_requireKind {G : GG} {l : Launch} {p0 : Int32} {hs hs' : Hs} {o : Except Nat Unit} (h : f_X8_requireKind p0 hs = some (o, hs')) : CT G l yX8_requireKind cX8_requireKind 1 none 6 200 1 6 [.int p0] hs o hs' tvV := by
  refine vx_ofW (cc := cX8_requireKind) (maxL := 1) (ret := none) (by decide +kernel) rfl ?_
  intro p e s m args below meth c s₁ B hml hxt hv
  obtain ⟨hav, hR, hKn⟩ := hv
  subst hav
  have hts := atoms_spec (ws := .code yX8_requireKind cX8_requireKind 1 none :: Tg) B.pre
  have C : Cx G l p s m _ c RX8 cX8_requireKind 1 := ⟨B.exec, B.bytes, hml, findClass_of_methodNamed B.named, fun w hw => hts w (List.mem_cons_of_mem _ hw), hKn, fun q hq => Nat.le_trans hR.2.2.1 hq⟩
  have C2 : Cy meth c none := ⟨B.returns, B.notSynchronized, hxt⟩
  have key : WG G p l e { frames := 6, cells := 1, slots := 6, locals := 200 } s m ([.int p0] : List Value).toArray below meth c 1 0 0 (vx_MQ below (QcT G o hs' tvV) (XCT G o hs') ([.int p0] : List Value).toArray s 1 6 (gA G)) hs [(0, .int p0)] [] 0 := by
    unfold f_X8_requireKind at h
    refine q_iload_n C 0 dX8_requireKind_0 rfl ?_
    refine q_iconst C (0 : Int32) dX8_requireKind_1 (by decide) ?_
    refine q_iconst C (3 : Int32) dX8_requireKind_2 (by decide) ?_
    refine q_callS C [.int p0, .int (0 : Int32), .int (3 : Int32)] [] (fun o2 hs1 hm => m_X8_isOutside hm) lk_X8_56 sm_X8_isOutside ⟨(Nat.le_of_ble_eq_true rfl), (Nat.le_of_ble_eq_true rfl)⟩ ⟨(Nat.le_of_ble_eq_true rfl), (Nat.le_of_ble_eq_true rfl)⟩ rfl rfl (by decide) dX8_requireKind_3 h (fun v1 hs h => WG_st (st' := [.int v1]) rfl ?_)
    refine q_if_eq C 20 dX8_requireKind_6 (by decide) h (fun h => ?_) (fun h => ?_)
    · exact q_vret C C2 rfl (Nat.le_of_ble_eq_true rfl) (Nat.le_of_ble_eq_true rfl) dX8_requireKind_20 h
    · exact q_throw C C2 (k := 1) (tx := "no such kind") wc_X8_x60 iw_x1 at_X8_64 (by decide +kernel) (Nat.le_of_ble_eq_true rfl) (Nat.le_of_ble_eq_true rfl) (Nat.le_of_ble_eq_true rfl) (Nat.le_of_ble_eq_true rfl) (Nat.le_of_ble_eq_true rfl) (Nat.le_of_ble_eq_true rfl) (by decide) dX8_requireKind_9 dX8_requireKind_12 (Or.inr ⟨rfl, dX8_requireKind_13⟩) dX8_requireKind_16 dX8_requireKind_19 h
  rw [lg_entry_eq]
  exact key _ _ _ hR va_S.rf ⟨lv_entry _ (n := 1) (Nat.le_of_ble_eq_true rfl), (c1_i c1_n)⟩

theorem cd_X8_lacking : Cond.code yX8_lacking cX8_lacking 2 (some .int) ∈ Tg := Tg_of (i := 1318) (by decide +kernel) (by decide +kernel)
theorem ml_X8_315 : Cond.methodLink RX8 315 yX8_requireKind ∈ Tg := Tg_of (i := 1319) (by decide +kernel) (by decide +kernel)
theorem lk_X8_315 : Lk RX8 315 yX8_requireKind cX8_requireKind 1 none 1 := ⟨ml_X8_315, cd_X8_requireKind, iw_X8, by decide +kernel⟩
theorem fl_X8_40 : Fld RX8 40 11 4 (.object "Termgrid$Bounds") := ⟨RX8, TX8, 10, RX8, rfl, by decide, wf_X8_40, (Or.inl rfl), gu_X8, tyX8_ok _ (by decide), ⟨tyX8, tyX8_ok⟩, nmX8⟩
theorem ml_X8_318 : Cond.methodLink RX8 318 yX0_lackByGiving ∈ Tg := Tg_of (i := 548) (by decide +kernel) (by decide +kernel)
theorem lk_X8_318 : Lk RX8 318 yX0_lackByGiving cX0_lackByGiving 8 (some .int) 2 := ⟨ml_X8_318, cd_X0_lackByGiving, iw_X0, by decide +kernel⟩
theorem im_X0_lackByGiving : Cond.instanceMethod yX0_lackByGiving ∈ Tg := Tg_of (i := 549) (by decide +kernel) (by decide +kernel)
theorem se_X0_X0_lackByGiving : Cond.selects RX0 yX0_lackByGiving yX0_lackByGiving ∈ Tg := Tg_of (i := 550) (by decide +kernel) (by decide +kernel)
theorem sm_X8_requireKind : Cond.static yX8_requireKind ∈ Tg := Tg_of (i := 1320) (by decide +kernel) (by decide +kernel)
section M_X8_lacking
variable {p : Program} {l : Launch} {e : Env} {s : State} {m : MethodId} {args : Array Value} {below : List Frame} {meth : Method} {c : Code} {G : GG} {o : Except Nat Int32} {hs' : Hs}
end M_X8_lacking
def f_X8_lacking (a0 : Nat) (p1 : Int32) : OO Int32 :=
    call (f_X8_requireKind p1) (fun (v1 : Unit) =>
    gR (some a0) 11 4 fun v2 =>
    gR (some a0) 11 1 fun v3 =>
    rcv v2 3 fun r5 => call (f_X0_lackByGiving r5 v3 p1) (fun (v4 : Int32) =>
    rtn v4) nox) thr
set_option maxRecDepth 100000 in
set_option maxHeartbeats 4000000 in
theorem m_X8_lacking {G : GG} {l : Launch} {a0 : Nat} {p1 : Int32} {hs hs' : Hs} {o : Except Nat Int32} (h : f_X8_lacking a0 p1 hs = some (o, hs')) : CT G l yX8_lacking cX8_lacking 2 (some .int) 7 220 1 6 [.ref a0, .int p1] hs o hs' tvI := by
  refine vx_ofW (cc := cX8_lacking) (maxL := 2) (ret := (some .int)) (by decide +kernel) rfl ?_
  intro p e s m args below meth c s₁ B hml hxt hv
  obtain ⟨hav, hR, hKn⟩ := hv
  subst hav
  have hts := atoms_spec (ws := .code yX8_lacking cX8_lacking 2 (some .int) :: Tg) B.pre
  have C : Cx G l p s m _ c RX8 cX8_lacking 2 := ⟨B.exec, B.bytes, hml, findClass_of_methodNamed B.named, fun w hw => hts w (List.mem_cons_of_mem _ hw), hKn, fun q hq => Nat.le_trans hR.2.2.1 hq⟩
  have C2 : Cy meth c (some .int) := ⟨B.returns, B.notSynchronized, hxt⟩
  have key : WG G p l e { frames := 7, cells := 1, slots := 6, locals := 220 } s m ([.ref a0, .int p1] : List Value).toArray below meth c 2 0 0 (vx_MQ below (QcT G o hs' tvI) (XCT G o hs') ([.ref a0, .int p1] : List Value).toArray s 1 6 (gA G)) hs [(0, va_rf (some a0)), (1, .int p1)] [] 0 := by
    unfold f_X8_lacking at h
    refine q_iload_n C 1 dX8_lacking_0 rfl ?_
    refine q_callSX C [.int p1] [] C2 ⟨(Nat.le_of_ble_eq_true rfl), (Nat.le_of_ble_eq_true rfl)⟩ (fun o2 hs1 hm => m_X8_requireKind hm) lk_X8_315 sm_X8_requireKind ⟨(Nat.le_of_ble_eq_true rfl), (Nat.le_of_ble_eq_true rfl)⟩ ⟨(Nat.le_of_ble_eq_true rfl), (Nat.le_of_ble_eq_true rfl)⟩ rfl rfl (by decide) dX8_lacking_1 h (fun v1 hs h => WG_st (st' := []) rfl ?_)
    refine q_aload_n C 0 dX8_lacking_4 rfl ?_
    refine q_gR C fl_X8_40 dX8_lacking_5 h (fun v2 h => ?_)
    refine q_aload_n C 0 dX8_lacking_8 rfl ?_
    refine q_gR C fl_X8_19 dX8_lacking_9 h (fun v3 h => ?_)
    refine q_iload_n C 1 dX8_lacking_12 rfl ?_
    refine q_callV C (CN := RX0) (T := TX0) (N := 1) [va_rf v3, .int p1] [] (fun a0 o2 hs1 hm => m_X0_lackByGiving hm) lk_X8_318 im_X0_lackByGiving se_X0_X0_lackByGiving rfl ⟨(Nat.le_of_ble_eq_true rfl), (Nat.le_of_ble_eq_true rfl)⟩ ⟨(Nat.le_of_ble_eq_true rfl), (Nat.le_of_ble_eq_true rfl)⟩ rfl rfl (by decide) dX8_lacking_13 h (fun v4 hs h => WG_st (st' := [.int v4]) rfl ?_)
    exact q_iret C C2 rfl (Nat.le_of_ble_eq_true rfl) (Nat.le_of_ble_eq_true rfl) dX8_lacking_16 h
  rw [lg_entry_eq]
  exact key _ _ _ hR va_S.rf ⟨lv_entry _ (n := 2) (Nat.le_of_ble_eq_true rfl), (c1_r (c1_i c1_n))⟩

theorem cd_X8_lackingBySeats : Cond.code yX8_lackingBySeats cX8_lackingBySeats 2 (some .int) ∈ Tg := Tg_of (i := 1329) (by decide +kernel) (by decide +kernel)
theorem ml_X8_322 : Cond.methodLink RX8 322 yX0_lackByNumbers ∈ Tg := Tg_of (i := 565) (by decide +kernel) (by decide +kernel)
theorem lk_X8_322 : Lk RX8 322 yX0_lackByNumbers cX0_lackByNumbers 5 (some .int) 2 := ⟨ml_X8_322, cd_X0_lackByNumbers, iw_X0, by decide +kernel⟩
theorem im_X0_lackByNumbers : Cond.instanceMethod yX0_lackByNumbers ∈ Tg := Tg_of (i := 566) (by decide +kernel) (by decide +kernel)
theorem se_X0_X0_lackByNumbers : Cond.selects RX0 yX0_lackByNumbers yX0_lackByNumbers ∈ Tg := Tg_of (i := 567) (by decide +kernel) (by decide +kernel)
section M_X8_lackingBySeats
variable {p : Program} {l : Launch} {e : Env} {s : State} {m : MethodId} {args : Array Value} {below : List Frame} {meth : Method} {c : Code} {G : GG} {o : Except Nat Int32} {hs' : Hs}
end M_X8_lackingBySeats
def f_X8_lackingBySeats (a0 : Nat) (p1 : Int32) : OO Int32 :=
    call (f_X8_requireKind p1) (fun (v1 : Unit) =>
    gR (some a0) 11 4 fun v2 =>
    gR (some a0) 11 1 fun v3 =>
    rcv v2 3 fun r5 => call (f_X0_lackByNumbers r5 v3 p1) (fun (v4 : Int32) =>
    rtn v4) nox) thr
set_option maxRecDepth 100000 in
set_option maxHeartbeats 4000000 in
theorem m_X8_lackingBySeats {G : GG} {l : Launch} {a0 : Nat} {p1 : Int32} {hs hs' : Hs} {o : Except Nat Int32} (h : f_X8_lackingBySeats a0 p1 hs = some (o, hs')) : CT G l yX8_lackingBySeats cX8_lackingBySeats 2 (some .int) 7 220 1 6 [.ref a0, .int p1] hs o hs' tvI := by
  refine vx_ofW (cc := cX8_lackingBySeats) (maxL := 2) (ret := (some .int)) (by decide +kernel) rfl ?_
  intro p e s m args below meth c s₁ B hml hxt hv
  obtain ⟨hav, hR, hKn⟩ := hv
  subst hav
  have hts := atoms_spec (ws := .code yX8_lackingBySeats cX8_lackingBySeats 2 (some .int) :: Tg) B.pre
  have C : Cx G l p s m _ c RX8 cX8_lackingBySeats 2 := ⟨B.exec, B.bytes, hml, findClass_of_methodNamed B.named, fun w hw => hts w (List.mem_cons_of_mem _ hw), hKn, fun q hq => Nat.le_trans hR.2.2.1 hq⟩
  have C2 : Cy meth c (some .int) := ⟨B.returns, B.notSynchronized, hxt⟩
  have key : WG G p l e { frames := 7, cells := 1, slots := 6, locals := 220 } s m ([.ref a0, .int p1] : List Value).toArray below meth c 2 0 0 (vx_MQ below (QcT G o hs' tvI) (XCT G o hs') ([.ref a0, .int p1] : List Value).toArray s 1 6 (gA G)) hs [(0, va_rf (some a0)), (1, .int p1)] [] 0 := by
    unfold f_X8_lackingBySeats at h
    refine q_iload_n C 1 dX8_lackingBySeats_0 rfl ?_
    refine q_callSX C [.int p1] [] C2 ⟨(Nat.le_of_ble_eq_true rfl), (Nat.le_of_ble_eq_true rfl)⟩ (fun o2 hs1 hm => m_X8_requireKind hm) lk_X8_315 sm_X8_requireKind ⟨(Nat.le_of_ble_eq_true rfl), (Nat.le_of_ble_eq_true rfl)⟩ ⟨(Nat.le_of_ble_eq_true rfl), (Nat.le_of_ble_eq_true rfl)⟩ rfl rfl (by decide) dX8_lackingBySeats_1 h (fun v1 hs h => WG_st (st' := []) rfl ?_)
    refine q_aload_n C 0 dX8_lackingBySeats_4 rfl ?_
    refine q_gR C fl_X8_40 dX8_lackingBySeats_5 h (fun v2 h => ?_)
    refine q_aload_n C 0 dX8_lackingBySeats_8 rfl ?_
    refine q_gR C fl_X8_19 dX8_lackingBySeats_9 h (fun v3 h => ?_)
    refine q_iload_n C 1 dX8_lackingBySeats_12 rfl ?_
    refine q_callV C (CN := RX0) (T := TX0) (N := 1) [va_rf v3, .int p1] [] (fun a0 o2 hs1 hm => m_X0_lackByNumbers hm) lk_X8_322 im_X0_lackByNumbers se_X0_X0_lackByNumbers rfl ⟨(Nat.le_of_ble_eq_true rfl), (Nat.le_of_ble_eq_true rfl)⟩ ⟨(Nat.le_of_ble_eq_true rfl), (Nat.le_of_ble_eq_true rfl)⟩ rfl rfl (by decide) dX8_lackingBySeats_13 h (fun v4 hs h => WG_st (st' := [.int v4]) rfl ?_)
    exact q_iret C C2 rfl (Nat.le_of_ble_eq_true rfl) (Nat.le_of_ble_eq_true rfl) dX8_lackingBySeats_16 h
  rw [lg_entry_eq]
  exact key _ _ _ hR va_S.rf ⟨lv_entry _ (n := 2) (Nat.le_of_ble_eq_true rfl), (c1_r (c1_i c1_n))⟩

theorem cd_X8_ill : Cond.code yX8_ill cX8_ill 7 (some .int) ∈ Tg := Tg_of (i := 1336) (by decide +kernel) (by decide +kernel)
theorem wf_X8_325 : Cond.fieldLink RX8 325 RX6 (TX6 5).2.1 (TX6 5).2.2.1 ∈ Tg := Tg_of (i := 172) (by decide +kernel) (by decide +kernel)
theorem fl_X8_325 : Fld RX8 325 9 5 .int := ⟨RX6, TX6, 6, RX6, rfl, by decide, wf_X8_325, (Or.inl rfl), gu_X6, tyX6_ok _ (by decide), ⟨tyX6, tyX6_ok⟩, nmX6⟩
theorem wf_X8_330 : Cond.fieldLink RX8 330 RX7 (TX7 1).2.1 (TX7 1).2.2.1 ∈ Tg := Tg_of (i := 794) (by decide +kernel) (by decide +kernel)
theorem fl_X8_330 : Fld RX8 330 10 1 .int := ⟨RX7, TX7, 3, RX7, rfl, by decide, wf_X8_330, (Or.inl rfl), gu_X7, tyX7_ok _ (by decide), ⟨tyX7, tyX7_ok⟩, nmX7⟩
theorem ml_X8_338 : Cond.methodLink RX8 338 yX4_isOn ∈ Tg := Tg_of (i := 1339) (by decide +kernel) (by decide +kernel)
theorem lk_X8_338 : Lk RX8 338 yX4_isOn cX4_isOn 2 (some .boolean) 1 := ⟨ml_X8_338, cd_X4_isOn, iw_X4, by decide +kernel⟩
theorem fw_X8_330 : FldW RX8 330 10 1 .int false := ⟨RX7, TX7, 3, RX7, rfl, by decide, wf_X8_330, (Or.inl rfl), gu_X7, tyX7_ok _ (by decide), ⟨tyX7, tyX7_ok⟩, nmX7, rfl, fun z => nomatch z⟩
theorem ml_X8_346 : Cond.methodLink RX8 346 yX6_repair ∈ Tg := Tg_of (i := 1341) (by decide +kernel) (by decide +kernel)
theorem lk_X8_346 : Lk RX8 346 yX6_repair cX6_repair 5 (some .int) 1 := ⟨ml_X8_346, cd_X6_repair, iw_X6, by decide +kernel⟩
theorem im_X6_repair : Cond.instanceMethod yX6_repair ∈ Tg := Tg_of (i := 1342) (by decide +kernel) (by decide +kernel)
theorem se_X6_X6_repair : Cond.selects RX6 yX6_repair yX6_repair ∈ Tg := Tg_of (i := 1343) (by decide +kernel) (by decide +kernel)
section M_X8_ill
variable {p : Program} {l : Launch} {e : Env} {s : State} {m : MethodId} {args : Array Value} {below : List Frame} {meth : Method} {c : Code} {G : GG} {o : Except Nat Int32} {hs' : Hs}
def j_X8_ill_139 (a0 : Option Nat) (a2 : Int32) (a3 : Option Nat) (a4 : Int32) (a5 : Int32)  (rec_61 : Int32 → Int32 → OO Int32) : OO Int32 :=
  lets (a5 + (1 : Int32)) fun (v18 : Int32) =>
    rec_61 a4 v18
set_option maxRecDepth 100000 in
set_option maxHeartbeats 4000000 in
theorem w_j_X8_ill_139 (C : Cx G l p s m args c RX8 cX8_ill 7) (C2 : Cy meth c (some .int)) {hs : Hs} (a0 : Option Nat) (a2 : Int32) (a3 : Option Nat) (a4 : Int32) (a5 : Int32)  (rec_61 : Int32 → Int32 → OO Int32) (hrec_61 : ∀ (y4 : Int32) (y5 : Int32) hs, rec_61 y4 y5 hs = some (o, hs') → WG G p l e { frames := 13, cells := 2, slots := 12, locals := 454 } s m args below meth c 7 1 6 (vx_MQ below (QcT G o hs' tvI) (XCT G o hs') args s 2 12 (gA G)) hs [(0, va_rf a0), (2, .int a2), (3, va_rf a3), (4, .int y4), (5, .int y5)] [] 61) (h : j_X8_ill_139 a0 a2 a3 a4 a5 rec_61 hs = some (o, hs')) : WG G p l e { frames := 13, cells := 2, slots := 12, locals := 454 } s m args below meth c 7 1 6 (vx_MQ below (QcT G o hs' tvI) (XCT G o hs') args s 2 12 (gA G)) hs [(0, va_rf a0), (2, .int a2), (3, va_rf a3), (4, .int a4), (5, .int a5)] [] 139 := by
  unfold j_X8_ill_139 at h
  refine q_iinc C 4 (1 : Int32) (fun v18 => [(5, .int v18), (0, va_rf a0), (2, .int a2), (3, va_rf a3), (4, .int a4)]) dX8_ill_139 rfl (by decide) (by decide) (fun _ => rfl) h (fun v18 h => ?_)
  refine q_goto C 61 dX8_ill_142 (by decide) ?_
  refine WG.sub [1, 2, 3, 4, 0] rfl ?_
  exact hrec_61 _ _ _ h
def L_X8_ill_61 (a0 : Option Nat) (a2 : Int32) (a3 : Option Nat) (k_61_119 : OO Int32) (k_61_145 : Int32 → OO Int32) : Nat → Int32 → Int32 → OO Int32
  | 0, _, _ => failO
  | n + 1, x4, x5 =>
    gR a0 11 1 fun v10 =>
    gR v10 9 2 fun v11 =>
    rcv v11 2 fun r24 => call (f_Jx4a65c_size_8abf5 r24 ) (fun (v12 : Int32) =>
    (if v12 ≤ x5 then
    k_61_145 x4
    else
    gR a0 11 1 fun v13 =>
    gR v13 9 2 fun v14 =>
    rcv v14 2 fun r23 => call (f_Jx4a65c_get_915e3 r23 x5) (fun (v15 : Option Nat) =>
    cst v15 7 (
    lets v15 fun (v16 : Option Nat) =>
    gR v16 7 2 fun v17 =>
    (if ¬ v17 = a3 then
    j_X8_ill_139 a0 a2 a3 x4 x5 (L_X8_ill_61 a0 a2 a3 k_61_119 k_61_145 n)
    else
    rcv v16 7 fun r22 => call (f_X4_isOn r22 a2) (fun (v19 : Int32) =>
    (if v19 = 0 then
    j_X8_ill_139 a0 a2 a3 x4 x5 (L_X8_ill_61 a0 a2 a3 k_61_119 k_61_145 n)
    else
    gI v16 7 8 fun v20 =>
    (if v20 = 0 then
    lets ((x4 ||| (((1 : Int32) <<< (x5 &&& 31))))) fun (v21 : Int32) =>
    j_X8_ill_139 a0 a2 a3 v21 x5 (L_X8_ill_61 a0 a2 a3 k_61_119 k_61_145 n)
    else
    k_61_119))) nox))) nox)) nox
set_option maxRecDepth 100000 in
set_option maxHeartbeats 4000000 in
theorem w_L_X8_ill_61 (C : Cx G l p s m args c RX8 cX8_ill 7) (C2 : Cy meth c (some .int)) (a0 : Option Nat) (a2 : Int32) (a3 : Option Nat) (k_61_119 : OO Int32) (k_61_145 : Int32 → OO Int32) (hk_61_119 : ∀ hs, k_61_119  hs = some (o, hs') → WG G p l e { frames := 13, cells := 2, slots := 12, locals := 454 } s m args below meth c 7 1 6 (vx_MQ below (QcT G o hs' tvI) (XCT G o hs') args s 2 12 (gA G)) hs [] [] 119) (hk_61_145 : ∀ (y4 : Int32) hs, k_61_145 y4 hs = some (o, hs') → WG G p l e { frames := 13, cells := 2, slots := 12, locals := 454 } s m args below meth c 7 1 6 (vx_MQ below (QcT G o hs' tvI) (XCT G o hs') args s 2 12 (gA G)) hs [(0, va_rf a0), (2, .int a2), (3, va_rf a3), (4, .int y4)] [] 145) : ∀ (n : Nat) (x4 : Int32) (x5 : Int32) (hs : Hs), L_X8_ill_61 a0 a2 a3 k_61_119 k_61_145 n x4 x5 hs = some (o, hs') → WG G p l e { frames := 13, cells := 2, slots := 12, locals := 454 } s m args below meth c 7 1 6 (vx_MQ below (QcT G o hs' tvI) (XCT G o hs') args s 2 12 (gA G)) hs [(0, va_rf a0), (2, .int a2), (3, va_rf a3), (4, .int x4), (5, .int x5)] [] 61 := by
  intro n
  induction n with
  | zero =>
    intro x4 x5 hs h
    rw [L_X8_ill_61] at h
    exact absurd h failO_e
  | succ n hrec_61 =>
    intro x4 x5 hs h
    rw [L_X8_ill_61] at h
    refine q_iload C 4 dX8_ill_61 rfl ?_
    refine q_aload_n C 0 dX8_ill_63 rfl ?_
    refine q_gR C fl_X8_19 dX8_ill_64 h (fun v10 h => ?_)
    refine q_gR C fl_X8_121 dX8_ill_67 h (fun v11 h => ?_)
    refine q_callV C (CN := RJx4a65c) (T := TJx4a65c) (N := 3) [] [.int x5] (fun a0 o2 hs1 hm => m_Jx4a65c_size_8abf5 hm) lk_X8_70 im_Jx4a65c_size_8abf5 se_Jx4a65c_Jx4a65c_size_8abf5 rfl ⟨(Nat.le_of_ble_eq_true rfl), (Nat.le_of_ble_eq_true rfl)⟩ ⟨(Nat.le_of_ble_eq_true rfl), (Nat.le_of_ble_eq_true rfl)⟩ rfl rfl (by simp only [List.map, cat_rf, cat_i, cat_a]; decide) dX8_ill_70 h (fun v12 hs h => WG_st (st' := [.int v12, .int x5]) rfl ?_)
    refine q_icmp_ge C 145 dX8_ill_73 (by decide) h (fun h => ?_) (fun h => ?_)
    · refine WG.sub [0, 1, 2, 3] rfl ?_
      exact hk_61_145 _ _ h
    · refine q_aload_n C 0 dX8_ill_76 rfl ?_
      refine q_gR C fl_X8_19 dX8_ill_77 h (fun v13 h => ?_)
      refine q_gR C fl_X8_121 dX8_ill_80 h (fun v14 h => ?_)
      refine q_iload C 4 dX8_ill_83 rfl ?_
      refine q_callV C (CN := RJx4a65c) (T := TJx4a65c) (N := 3) [.int x5] [] (fun a0 o2 hs1 hm => m_Jx4a65c_get_915e3 hm) lk_X8_186 im_Jx4a65c_get_915e3 se_Jx4a65c_Jx4a65c_get_915e3 rfl ⟨(Nat.le_of_ble_eq_true rfl), (Nat.le_of_ble_eq_true rfl)⟩ ⟨(Nat.le_of_ble_eq_true rfl), (Nat.le_of_ble_eq_true rfl)⟩ rfl rfl (by decide) dX8_ill_85 h (fun v15 hs h => WG_st (st' := [va_rf v15]) rfl ?_)
      refine q_castS C (nm := RX4) (T := TX4) (N := 18) rfl wc_X8_126 dX8_ill_88 h (fun h => ?_)
      refine q_astore C (fun v16 => [(6, va_rf v16), (0, va_rf a0), (2, .int a2), (3, va_rf a3), (4, .int x4), (5, .int x5)]) dX8_ill_91 (by decide) (fun _ => rfl) h (fun v16 h => ?_)
      refine q_aload C 0 dX8_ill_93 rfl ?_
      refine q_gR C fl_X8_257 dX8_ill_95 h (fun v17 h => ?_)
      refine q_aload_n C 3 dX8_ill_98 rfl ?_
      refine q_acmp_ne C 139 dX8_ill_99 (by decide) h (fun h => ?_) (fun h => ?_)
      · refine WG.sub [1, 2, 3, 4, 5] rfl ?_
        exact w_j_X8_ill_139 C C2 _ _ _ _ _ _ hrec_61 h
      · refine q_aload C 0 dX8_ill_102 rfl ?_
        refine q_iload_n C 2 dX8_ill_104 rfl ?_
        refine q_callV C (CN := RX4) (T := TX4) (N := 18) [.int a2] [] (fun a0 o2 hs1 hm => m_X4_isOn hm) lk_X8_338 im_X4_isOn se_X4_X4_isOn rfl ⟨(Nat.le_of_ble_eq_true rfl), (Nat.le_of_ble_eq_true rfl)⟩ ⟨(Nat.le_of_ble_eq_true rfl), (Nat.le_of_ble_eq_true rfl)⟩ rfl rfl (by decide) dX8_ill_105 h (fun v19 hs h => WG_st (st' := [.int v19]) rfl ?_)
        refine q_if_eq C 139 dX8_ill_108 (by decide) h (fun h => ?_) (fun h => ?_)
        · refine WG.sub [1, 2, 3, 4, 5] rfl ?_
          exact w_j_X8_ill_139 C C2 _ _ _ _ _ _ hrec_61 h
        · refine q_aload C 0 dX8_ill_111 rfl ?_
          refine q_gI C fl_X8_230 dX8_ill_113 h (fun v20 h => ?_)
          refine q_if_eq C 130 dX8_ill_116 (by decide) h (fun h => ?_) (fun h => ?_)
          · refine q_iload C 4 dX8_ill_130 rfl ?_
            refine q_iconst C (1 : Int32) dX8_ill_132 (by decide) ?_
            refine q_iload C 5 dX8_ill_133 rfl ?_
            refine q_ishl C dX8_ill_135 ?_
            refine q_ior C dX8_ill_136 ?_
            refine q_istore C (fun v21 => [(4, .int v21), (6, va_rf v16), (0, va_rf a0), (2, .int a2), (3, va_rf a3), (5, .int x5)]) dX8_ill_137 (by decide) (fun _ => rfl) h (fun v21 h => ?_)
            refine WG.sub [2, 3, 4, 0, 5] rfl ?_
            exact w_j_X8_ill_139 C C2 _ _ _ _ _ _ hrec_61 h
          · refine WG.sub [] rfl ?_
            exact hk_61_119 _ h
end M_X8_ill
def f_X8_ill (a0 : Nat) (p1 : Int32) (p2 : Int32) : OO Int32 :=
    rcv (some a0) 11 fun r31 => call (f_X8_teacherNumbered r31 p1) (fun (v1 : Option Nat) =>
    lets v1 fun (v2 : Option Nat) =>
    gR (some a0) 11 1 fun v3 =>
    gI v3 9 5 fun v4 =>
    call (f_X8_isOutside p2 v4 (4 : Int32)) (fun (v5 : Int32) =>
    (if v5 = 0 then
    gI v2 10 1 fun v6 =>
    call (f_X8_slotsOfDay p2) (fun (v7 : Int32) =>
    (if (v6 &&& v7) = 0 then
    lets (0 : Int32) fun (v8 : Int32) =>
    lets (0 : Int32) fun (v9 : Int32) =>
    L_X8_ill_61 (some a0) p2 v2 (nthrow 4) (fun (v25 : Int32) => gI v2 10 1 fun v26 =>
    call (f_X8_slotsOfDay p2) (fun (v27 : Int32) =>
    pI v2 10 1 (v26 ||| v27) (
    gR (some a0) 11 1 fun v28 =>
    rcv v28 9 fun r30 => call (f_X6_repair r30 v25) (fun (v29 : Int32) =>
    rtn v29) nox)) nox) 100000 v8 v9
    else
    nthrow 2)) nox
    else
    nthrow 1)) nox) thr
set_option maxRecDepth 100000 in
set_option maxHeartbeats 4000000 in
theorem m_X8_ill {G : GG} {l : Launch} {a0 : Nat} {p1 : Int32} {p2 : Int32} {hs hs' : Hs} {o : Except Nat Int32} (h : f_X8_ill a0 p1 p2 hs = some (o, hs')) : CT G l yX8_ill cX8_ill 7 (some .int) 13 454 2 12 [.ref a0, .int p1, .int p2] hs o hs' tvI := by
  refine vx_ofW (cc := cX8_ill) (maxL := 7) (ret := (some .int)) (by decide +kernel) rfl ?_
  intro p e s m args below meth c s₁ B hml hxt hv
  obtain ⟨hav, hR, hKn⟩ := hv
  subst hav
  have hts := atoms_spec (ws := .code yX8_ill cX8_ill 7 (some .int) :: Tg) B.pre
  have C : Cx G l p s m _ c RX8 cX8_ill 7 := ⟨B.exec, B.bytes, hml, findClass_of_methodNamed B.named, fun w hw => hts w (List.mem_cons_of_mem _ hw), hKn, fun q hq => Nat.le_trans hR.2.2.1 hq⟩
  have C2 : Cy meth c (some .int) := ⟨B.returns, B.notSynchronized, hxt⟩
  have key : WG G p l e { frames := 13, cells := 2, slots := 12, locals := 454 } s m ([.ref a0, .int p1, .int p2] : List Value).toArray below meth c 7 0 0 (vx_MQ below (QcT G o hs' tvI) (XCT G o hs') ([.ref a0, .int p1, .int p2] : List Value).toArray s 2 12 (gA G)) hs [(0, va_rf (some a0)), (1, .int p1), (2, .int p2)] [] 0 := by
    unfold f_X8_ill at h
    refine q_aload_n C 0 dX8_ill_0 rfl ?_
    refine q_iload_n C 1 dX8_ill_1 rfl ?_
    refine q_callVX C (CN := RX8) (T := TX8) (N := 10) [.int p1] [] C2 ⟨(Nat.le_of_ble_eq_true rfl), (Nat.le_of_ble_eq_true rfl)⟩ (fun a0 o2 hs1 hm => m_X8_teacherNumbered hm) lk_X8_115 im_X8_teacherNumbered se_X8_X8_teacherNumbered rfl ⟨(Nat.le_of_ble_eq_true rfl), (Nat.le_of_ble_eq_true rfl)⟩ ⟨(Nat.le_of_ble_eq_true rfl), (Nat.le_of_ble_eq_true rfl)⟩ rfl rfl (by decide) dX8_ill_2 h (fun v1 hs h => WG_st (st' := [va_rf v1]) rfl ?_)
    refine q_astore_n C (fun v2 => [(3, va_rf v2), (0, va_rf (some a0)), (1, .int p1), (2, .int p2)]) dX8_ill_5 (by decide) (fun _ => rfl) h (fun v2 h => ?_)
    refine q_iload_n C 3 dX8_ill_6 rfl ?_
    refine q_aload_n C 1 dX8_ill_7 rfl ?_
    refine q_gR C fl_X8_19 dX8_ill_8 h (fun v3 h => ?_)
    refine q_gI C fl_X8_325 dX8_ill_11 h (fun v4 h => ?_)
    refine q_iconst C (4 : Int32) dX8_ill_14 (by decide) ?_
    refine q_callS C [.int p2, .int v4, .int (4 : Int32)] [] (fun o2 hs1 hm => m_X8_isOutside hm) lk_X8_56 sm_X8_isOutside ⟨(Nat.le_of_ble_eq_true rfl), (Nat.le_of_ble_eq_true rfl)⟩ ⟨(Nat.le_of_ble_eq_true rfl), (Nat.le_of_ble_eq_true rfl)⟩ rfl rfl (by decide) dX8_ill_15 h (fun v5 hs h => WG_st (st' := [.int v5]) rfl ?_)
    refine q_if_eq C 32 dX8_ill_18 (by decide) h (fun h => ?_) (fun h => ?_)
    · refine q_aload_n C 0 dX8_ill_32 rfl ?_
      refine q_gI C fl_X8_330 dX8_ill_33 h (fun v6 h => ?_)
      refine q_iload_n C 3 dX8_ill_36 rfl ?_
      refine q_callS C [.int p2] [.int v6] (fun o2 hs1 hm => m_X8_slotsOfDay hm) lk_X8_333 sm_X8_slotsOfDay ⟨(Nat.le_of_ble_eq_true rfl), (Nat.le_of_ble_eq_true rfl)⟩ ⟨(Nat.le_of_ble_eq_true rfl), (Nat.le_of_ble_eq_true rfl)⟩ rfl rfl (by simp only [List.map, cat_rf, cat_i, cat_a]; decide) dX8_ill_37 h (fun v7 hs h => WG_st (st' := [.int v7, .int v6]) rfl ?_)
      refine q_iand C dX8_ill_40 ?_
      refine q_if_eq C 55 dX8_ill_41 (by decide) h (fun h => ?_) (fun h => ?_)
      · refine q_iconst C (0 : Int32) dX8_ill_55 (by decide) ?_
        refine q_istore C (fun v8 => [(4, .int v8), (3, va_rf v2), (0, va_rf (some a0)), (1, .int p1), (2, .int p2)]) dX8_ill_56 (by decide) (fun _ => rfl) h (fun v8 h => ?_)
        refine q_iconst C (0 : Int32) dX8_ill_58 (by decide) ?_
        refine q_istore C (fun v9 => [(5, .int v9), (4, .int v8), (3, va_rf v2), (0, va_rf (some a0)), (1, .int p1), (2, .int p2)]) dX8_ill_59 (by decide) (fun _ => rfl) h (fun v9 h => ?_)
        refine WG.sub [3, 5, 2, 1, 0] rfl ?_
        refine w_L_X8_ill_61 C C2 _ _ _ _ _ ?_ ?_ _ _ _ _ h
        · intro  hs h
          exact q_throw C C2 (k := 4) (tx := "a locked lesson is placed on this day") wc_X8_x341 iw_x4 at_X8_345 (by decide +kernel) (Nat.le_of_ble_eq_true rfl) (Nat.le_of_ble_eq_true rfl) (Nat.le_of_ble_eq_true rfl) (Nat.le_of_ble_eq_true rfl) (Nat.le_of_ble_eq_true rfl) (Nat.le_of_ble_eq_true rfl) (by decide) dX8_ill_119 dX8_ill_122 (Or.inr ⟨rfl, dX8_ill_123⟩) dX8_ill_126 dX8_ill_129 h
        · intro v25 hs h
          refine q_aload_n C 2 dX8_ill_145 rfl ?_
          refine q_dup C (cat_rf _) dX8_ill_146 ?_
          refine q_gI C fl_X8_330 dX8_ill_147 h (fun v26 h => ?_)
          refine q_iload_n C 1 dX8_ill_150 rfl ?_
          refine q_callS C [.int p2] [.int v26, va_rf v2] (fun o2 hs1 hm => m_X8_slotsOfDay hm) lk_X8_333 sm_X8_slotsOfDay ⟨(Nat.le_of_ble_eq_true rfl), (Nat.le_of_ble_eq_true rfl)⟩ ⟨(Nat.le_of_ble_eq_true rfl), (Nat.le_of_ble_eq_true rfl)⟩ rfl rfl (by simp only [List.map, cat_rf, cat_i, cat_a]; decide) dX8_ill_151 h (fun v27 hs h => WG_st (st' := [.int v27, .int v26, va_rf v2]) rfl ?_)
          refine q_ior C dX8_ill_154 ?_
          refine q_pI C fw_X8_330 (fun z => nomatch z) dX8_ill_155 h (fun hs h => ?_)
          refine q_aload_n C 0 dX8_ill_158 rfl ?_
          refine q_gR C fl_X8_19 dX8_ill_159 h (fun v28 h => ?_)
          refine q_iload C 3 dX8_ill_162 rfl ?_
          refine q_callV C (CN := RX6) (T := TX6) (N := 6) [.int v25] [] (fun a0 o2 hs1 hm => m_X6_repair hm) lk_X8_346 im_X6_repair se_X6_X6_repair rfl ⟨(Nat.le_of_ble_eq_true rfl), (Nat.le_of_ble_eq_true rfl)⟩ ⟨(Nat.le_of_ble_eq_true rfl), (Nat.le_of_ble_eq_true rfl)⟩ rfl rfl (by decide) dX8_ill_164 h (fun v29 hs h => WG_st (st' := [.int v29]) rfl ?_)
          exact q_iret C C2 rfl (Nat.le_of_ble_eq_true rfl) (Nat.le_of_ble_eq_true rfl) dX8_ill_167 h
      · exact q_throw C C2 (k := 2) (tx := "it is a day off already") wc_X8_x74 iw_x2 at_X8_78 (by decide +kernel) (Nat.le_of_ble_eq_true rfl) (Nat.le_of_ble_eq_true rfl) (Nat.le_of_ble_eq_true rfl) (Nat.le_of_ble_eq_true rfl) (Nat.le_of_ble_eq_true rfl) (Nat.le_of_ble_eq_true rfl) (by decide) dX8_ill_44 dX8_ill_47 (Or.inr ⟨rfl, dX8_ill_48⟩) dX8_ill_51 dX8_ill_54 h
    · exact q_throw C C2 (k := 1) (tx := "no such day, or it is past") wc_X8_x60 iw_x1 at_X8_64 (by decide +kernel) (Nat.le_of_ble_eq_true rfl) (Nat.le_of_ble_eq_true rfl) (Nat.le_of_ble_eq_true rfl) (Nat.le_of_ble_eq_true rfl) (Nat.le_of_ble_eq_true rfl) (Nat.le_of_ble_eq_true rfl) (by decide) dX8_ill_21 dX8_ill_24 (Or.inr ⟨rfl, dX8_ill_25⟩) dX8_ill_28 dX8_ill_31 h
  rw [lg_entry_eq]
  exact key _ _ _ hR va_S.rf ⟨lv_entry _ (n := 7) (Nat.le_of_ble_eq_true rfl), (c1_r (c1_i (c1_i c1_n)))⟩

theorem cd_X8_roomNumbered : Cond.code yX8_roomNumbered cX8_roomNumbered 2 (some (.object "Termgrid$Room")) ∈ Tg := Tg_of (i := 1360) (by decide +kernel) (by decide +kernel)
section M_X8_roomNumbered
variable {p : Program} {l : Launch} {e : Env} {s : State} {m : MethodId} {args : Array Value} {below : List Frame} {meth : Method} {c : Code} {G : GG} {o : Except Nat (Option Nat)} {hs' : Hs}
def j_X8_roomNumbered_18    : OO (Option Nat) :=
  nthrow 0
set_option maxRecDepth 100000 in
set_option maxHeartbeats 4000000 in
theorem w_j_X8_roomNumbered_18 (C : Cx G l p s m args c RX8 cX8_roomNumbered 2) (C2 : Cy meth c (some (.object "Termgrid$Room"))) {hs : Hs}     (h : j_X8_roomNumbered_18 hs = some (o, hs')) : WG G p l e { frames := 6, cells := 1, slots := 6, locals := 200 } s m args below meth c 2 0 0 (vx_MQ below (QcT G o hs' tvR) (XCT G o hs') args s 1 6 (gA G)) hs [] [] 18 := by
  unfold j_X8_roomNumbered_18 at h
  exact q_throw C C2 (k := 0) (tx := "no such room") wc_X8_x418 iw_x0 at_X8_422 (by decide +kernel) (Nat.le_of_ble_eq_true rfl) (Nat.le_of_ble_eq_true rfl) (Nat.le_of_ble_eq_true rfl) (Nat.le_of_ble_eq_true rfl) (Nat.le_of_ble_eq_true rfl) (Nat.le_of_ble_eq_true rfl) (by decide) dX8_roomNumbered_18 dX8_roomNumbered_21 (Or.inr ⟨rfl, dX8_roomNumbered_22⟩) dX8_roomNumbered_25 dX8_roomNumbered_28 h
end M_X8_roomNumbered
def f_X8_roomNumbered (a0 : Nat) (p1 : Int32) : OO (Option Nat) :=
    (if p1 < 0 then
    j_X8_roomNumbered_18
    else
    gR (some a0) 11 1 fun v1 =>
    gR v1 9 0 fun v2 =>
    rcv v2 2 fun r8 => call (f_Jx4a65c_size_8abf5 r8 ) (fun (v3 : Int32) =>
    (if p1 < v3 then
    gR (some a0) 11 1 fun v4 =>
    gR v4 9 0 fun v5 =>
    rcv v5 2 fun r7 => call (f_Jx4a65c_get_915e3 r7 p1) (fun (v6 : Option Nat) =>
    cst v6 8 (
    rtn v6)) nox
    else
    j_X8_roomNumbered_18)) nox)
set_option maxRecDepth 100000 in
set_option maxHeartbeats 4000000 in
theorem m_X8_roomNumbered {G : GG} {l : Launch} {a0 : Nat} {p1 : Int32} {hs hs' : Hs} {o : Except Nat (Option Nat)} (h : f_X8_roomNumbered a0 p1 hs = some (o, hs')) : CT G l yX8_roomNumbered cX8_roomNumbered 2 (some (.object "Termgrid$Room")) 6 200 1 6 [.ref a0, .int p1] hs o hs' tvR := by
  refine vx_ofW (cc := cX8_roomNumbered) (maxL := 2) (ret := (some (.object "Termgrid$Room"))) (by decide +kernel) rfl ?_
  intro p e s m args below meth c s₁ B hml hxt hv
  obtain ⟨hav, hR, hKn⟩ := hv
  subst hav
  have hts := atoms_spec (ws := .code yX8_roomNumbered cX8_roomNumbered 2 (some (.object "Termgrid$Room")) :: Tg) B.pre
  have C : Cx G l p s m _ c RX8 cX8_roomNumbered 2 := ⟨B.exec, B.bytes, hml, findClass_of_methodNamed B.named, fun w hw => hts w (List.mem_cons_of_mem _ hw), hKn, fun q hq => Nat.le_trans hR.2.2.1 hq⟩
  have C2 : Cy meth c (some (.object "Termgrid$Room")) := ⟨B.returns, B.notSynchronized, hxt⟩
  have key : WG G p l e { frames := 6, cells := 1, slots := 6, locals := 200 } s m ([.ref a0, .int p1] : List Value).toArray below meth c 2 0 0 (vx_MQ below (QcT G o hs' tvR) (XCT G o hs') ([.ref a0, .int p1] : List Value).toArray s 1 6 (gA G)) hs [(0, va_rf (some a0)), (1, .int p1)] [] 0 := by
    unfold f_X8_roomNumbered at h
    refine q_iload_n C 1 dX8_roomNumbered_0 rfl ?_
    refine q_if_lt C 18 dX8_roomNumbered_1 (by decide) h (fun h => ?_) (fun h => ?_)
    · refine WG.sub [] rfl ?_
      exact w_j_X8_roomNumbered_18 C C2    h
    · refine q_iload_n C 1 dX8_roomNumbered_4 rfl ?_
      refine q_aload_n C 0 dX8_roomNumbered_5 rfl ?_
      refine q_gR C fl_X8_19 dX8_roomNumbered_6 h (fun v1 h => ?_)
      refine q_gR C fl_X8_67 dX8_roomNumbered_9 h (fun v2 h => ?_)
      refine q_callV C (CN := RJx4a65c) (T := TJx4a65c) (N := 3) [] [.int p1] (fun a0 o2 hs1 hm => m_Jx4a65c_size_8abf5 hm) lk_X8_70 im_Jx4a65c_size_8abf5 se_Jx4a65c_Jx4a65c_size_8abf5 rfl ⟨(Nat.le_of_ble_eq_true rfl), (Nat.le_of_ble_eq_true rfl)⟩ ⟨(Nat.le_of_ble_eq_true rfl), (Nat.le_of_ble_eq_true rfl)⟩ rfl rfl (by simp only [List.map, cat_rf, cat_i, cat_a]; decide) dX8_roomNumbered_12 h (fun v3 hs h => WG_st (st' := [.int v3, .int p1]) rfl ?_)
      refine q_icmp_lt C 29 dX8_roomNumbered_15 (by decide) h (fun h => ?_) (fun h => ?_)
      · refine q_aload_n C 0 dX8_roomNumbered_29 rfl ?_
        refine q_gR C fl_X8_19 dX8_roomNumbered_30 h (fun v4 h => ?_)
        refine q_gR C fl_X8_67 dX8_roomNumbered_33 h (fun v5 h => ?_)
        refine q_iload_n C 1 dX8_roomNumbered_36 rfl ?_
        refine q_callV C (CN := RJx4a65c) (T := TJx4a65c) (N := 3) [.int p1] [] (fun a0 o2 hs1 hm => m_Jx4a65c_get_915e3 hm) lk_X8_186 im_Jx4a65c_get_915e3 se_Jx4a65c_Jx4a65c_get_915e3 rfl ⟨(Nat.le_of_ble_eq_true rfl), (Nat.le_of_ble_eq_true rfl)⟩ ⟨(Nat.le_of_ble_eq_true rfl), (Nat.le_of_ble_eq_true rfl)⟩ rfl rfl (by decide) dX8_roomNumbered_37 h (fun v6 hs h => WG_st (st' := [va_rf v6]) rfl ?_)
        refine q_castS C (nm := RX5) (T := TX5) (N := 5) rfl wc_X8_79 dX8_roomNumbered_40 h (fun h => ?_)
        exact q_aret C C2 rfl (Or.inl ⟨_, rfl⟩) (Nat.le_of_ble_eq_true rfl) (Nat.le_of_ble_eq_true rfl) dX8_roomNumbered_43 h
      · refine WG.sub [] rfl ?_
        exact w_j_X8_roomNumbered_18 C C2    h
  rw [lg_entry_eq]
  exact key _ _ _ hR va_S.rf ⟨lv_entry _ (n := 2) (Nat.le_of_ble_eq_true rfl), (c1_r (c1_i c1_n))⟩

