theorem cd_X6_broken : Cond.code yX6_broken cX6_broken 5 (some .int) ∈ Tg := Tg_of (i := 527) (by decide +kernel) (by decide +kernel)
theorem ml_X6_187 : Cond.methodLink RX6 187 yX4_lettersAt ∈ Tg := Tg_of (i := 532) (by decide +kernel) (by decide +kernel)
theorem lk_X6_187 : Lk RX6 187 yX4_lettersAt cX4_lettersAt 5 (some .int) 2 := ⟨ml_X6_187, cd_X4_lettersAt, iw_X4, by decide +kernel⟩
theorem im_X4_lettersAt : Cond.instanceMethod yX4_lettersAt ∈ Tg := Tg_of (i := 533) (by decide +kernel) (by decide +kernel)
theorem se_X4_X4_lettersAt : Cond.selects RX4 yX4_lettersAt yX4_lettersAt ∈ Tg := Tg_of (i := 534) (by decide +kernel) (by decide +kernel)
section M_X6_broken
variable {p : Program} {l : Launch} {e : Env} {s : State} {m : MethodId} {args : Array Value} {below : List Frame} {meth : Method} {c : Code} {G : GG} {o : Except Nat Int32} {hs' : Hs}
def j_X6_broken_74 (a0 : Option Nat) (a1 : Int32) (a2 : Int32)  (rec_4 : Int32 → Int32 → OO Int32) : OO Int32 :=
  lets (a2 + (1 : Int32)) fun (v10 : Int32) =>
    rec_4 a1 v10
set_option maxRecDepth 100000 in
set_option maxHeartbeats 4000000 in
theorem w_j_X6_broken_74 (C : Cx G l p s m args c RX6 cX6_broken 5) (C2 : Cy meth c (some .int)) {hs : Hs} (a0 : Option Nat) (a1 : Int32) (a2 : Int32)  (rec_4 : Int32 → Int32 → OO Int32) (hrec_4 : ∀ (y1 : Int32) (y2 : Int32) hs, rec_4 y1 y2 hs = some (o, hs') → WG G p l e { frames := 9, cells := 0, slots := 0, locals := 364 } s m args below meth c 5 0 0 (vx_MQ below (QcT G o hs' tvI) (XCT G o hs') args s 0 0 (gA G)) hs [(0, va_rf a0), (1, .int y1), (2, .int y2)] [] 4) (h : j_X6_broken_74 a0 a1 a2 rec_4 hs = some (o, hs')) : WG G p l e { frames := 9, cells := 0, slots := 0, locals := 364 } s m args below meth c 5 0 0 (vx_MQ below (QcT G o hs' tvI) (XCT G o hs') args s 0 0 (gA G)) hs [(0, va_rf a0), (1, .int a1), (2, .int a2)] [] 74 := by
  unfold j_X6_broken_74 at h
  refine q_iinc C 2 (1 : Int32) (fun v10 => [(2, .int v10), (0, va_rf a0), (1, .int a1)]) dX6_broken_74 rfl (by decide) (by decide) (fun _ => rfl) h (fun v10 h => ?_)
  refine q_goto C 4 dX6_broken_77 (by decide) ?_
  refine WG.sub [1, 2, 0] rfl ?_
  exact hrec_4 _ _ _ h
def j_X6_broken_72 (a0 : Option Nat) (a2 : Int32) (s0 : Int32) (s1 : Int32) (rec_4 : Int32 → Int32 → OO Int32) : OO Int32 :=
  lets (s1 ||| s0) fun (v15 : Int32) =>
    j_X6_broken_74 a0 v15 a2 rec_4
set_option maxRecDepth 100000 in
set_option maxHeartbeats 4000000 in
theorem w_j_X6_broken_72 (C : Cx G l p s m args c RX6 cX6_broken 5) (C2 : Cy meth c (some .int)) {hs : Hs} (a0 : Option Nat) (a2 : Int32) (s0 : Int32) (s1 : Int32) (rec_4 : Int32 → Int32 → OO Int32) (hrec_4 : ∀ (y1 : Int32) (y2 : Int32) hs, rec_4 y1 y2 hs = some (o, hs') → WG G p l e { frames := 9, cells := 0, slots := 0, locals := 364 } s m args below meth c 5 0 0 (vx_MQ below (QcT G o hs' tvI) (XCT G o hs') args s 0 0 (gA G)) hs [(0, va_rf a0), (1, .int y1), (2, .int y2)] [] 4) (h : j_X6_broken_72 a0 a2 s0 s1 rec_4 hs = some (o, hs')) : WG G p l e { frames := 9, cells := 0, slots := 0, locals := 364 } s m args below meth c 5 0 0 (vx_MQ below (QcT G o hs' tvI) (XCT G o hs') args s 0 0 (gA G)) hs [(0, va_rf a0), (2, .int a2)] [.int s0, .int s1] 72 := by
  unfold j_X6_broken_72 at h
  refine q_ior C dX6_broken_72 ?_
  refine q_istore_n C (fun v15 => [(1, .int v15), (0, va_rf a0), (2, .int a2)]) dX6_broken_73 (by decide) (fun _ => rfl) h (fun v15 h => ?_)
  refine WG.sub [1, 0, 2] rfl ?_
  exact w_j_X6_broken_74 C C2 _ _ _ _ hrec_4 h
def L_X6_broken_4 (a0 : Option Nat) (k_4_80 : Int32 → OO Int32) : Nat → Int32 → Int32 → OO Int32
  | 0, _, _ => failO
  | n + 1, x1, x2 =>
    gR a0 9 2 fun v3 =>
    rcv v3 2 fun r20 => call (f_Jx4a65c_size_8abf5 r20 ) (fun (v4 : Int32) =>
    (if v4 ≤ x2 then
    k_4_80 x1
    else
    gR a0 9 2 fun v5 =>
    rcv v5 2 fun r19 => call (f_Jx4a65c_get_915e3 r19 x2) (fun (v6 : Option Nat) =>
    cst v6 7 (
    lets v6 fun (v7 : Option Nat) =>
    gR v7 7 6 fun v8 =>
    lets v8 fun (v9 : Option Nat) =>
    (if v9 = none then
    j_X6_broken_74 a0 x1 x2 (L_X6_broken_4 a0 k_4_80 n)
    else
    rcv a0 9 fun r18 => call (f_X6_isPast r18 v7) (fun (v11 : Int32) =>
    (if ¬ v11 = 0 then
    j_X6_broken_74 a0 x1 x2 (L_X6_broken_4 a0 k_4_80 n)
    else
    rcv a0 9 fun r17 => call (f_X6_lookAround r17 v7) (fun (v12 : Unit) =>
    gI v7 7 7 fun v13 =>
    rcv v7 7 fun r16 => call (f_X4_lettersAt r16 v13 v9) (fun (v14 : Int32) =>
    (if v14 = 0 then
    j_X6_broken_72 a0 x2 (0 : Int32) x1 (L_X6_broken_4 a0 k_4_80 n)
    else
    j_X6_broken_72 a0 x2 (((1 : Int32) <<< (x2 &&& 31))) x1 (L_X6_broken_4 a0 k_4_80 n))) nox) nox)) nox))) nox)) nox
set_option maxRecDepth 100000 in
set_option maxHeartbeats 4000000 in
theorem w_L_X6_broken_4 (C : Cx G l p s m args c RX6 cX6_broken 5) (C2 : Cy meth c (some .int)) (a0 : Option Nat) (k_4_80 : Int32 → OO Int32) (hk_4_80 : ∀ (y1 : Int32) hs, k_4_80 y1 hs = some (o, hs') → WG G p l e { frames := 9, cells := 0, slots := 0, locals := 364 } s m args below meth c 5 0 0 (vx_MQ below (QcT G o hs' tvI) (XCT G o hs') args s 0 0 (gA G)) hs [(1, .int y1)] [] 80) : ∀ (n : Nat) (x1 : Int32) (x2 : Int32) (hs : Hs), L_X6_broken_4 a0 k_4_80 n x1 x2 hs = some (o, hs') → WG G p l e { frames := 9, cells := 0, slots := 0, locals := 364 } s m args below meth c 5 0 0 (vx_MQ below (QcT G o hs' tvI) (XCT G o hs') args s 0 0 (gA G)) hs [(0, va_rf a0), (1, .int x1), (2, .int x2)] [] 4 := by
  intro n
  induction n with
  | zero =>
    intro x1 x2 hs h
    rw [L_X6_broken_4] at h
    exact absurd h failO_e
  | succ n hrec_4 =>
    intro x1 x2 hs h
    rw [L_X6_broken_4] at h
    refine q_iload_n C 2 dX6_broken_4 rfl ?_
    refine q_aload_n C 0 dX6_broken_5 rfl ?_
    refine q_gR C fl_X6_21 dX6_broken_6 h (fun v3 h => ?_)
    refine q_callV C (CN := RJx4a65c) (T := TJx4a65c) (N := 3) [] [.int x2] (fun a0 o2 hs1 hm => m_Jx4a65c_size_8abf5 hm) lk_X6_52 im_Jx4a65c_size_8abf5 se_Jx4a65c_Jx4a65c_size_8abf5 rfl ⟨(Nat.le_of_ble_eq_true rfl), (Nat.le_of_ble_eq_true rfl)⟩ ⟨(Nat.le_of_ble_eq_true rfl), (Nat.le_of_ble_eq_true rfl)⟩ rfl rfl (by simp only [List.map, cat_rf, cat_i, cat_a]; decide) dX6_broken_9 h (fun v4 hs h => WG_st (st' := [.int v4, .int x2]) rfl ?_)
    refine q_icmp_ge C 80 dX6_broken_12 (by decide) h (fun h => ?_) (fun h => ?_)
    · refine WG.sub [1] rfl ?_
      exact hk_4_80 _ _ h
    · refine q_aload_n C 0 dX6_broken_15 rfl ?_
      refine q_gR C fl_X6_21 dX6_broken_16 h (fun v5 h => ?_)
      refine q_iload_n C 2 dX6_broken_19 rfl ?_
      refine q_callV C (CN := RJx4a65c) (T := TJx4a65c) (N := 3) [.int x2] [] (fun a0 o2 hs1 hm => m_Jx4a65c_get_915e3 hm) lk_X6_56 im_Jx4a65c_get_915e3 se_Jx4a65c_Jx4a65c_get_915e3 rfl ⟨(Nat.le_of_ble_eq_true rfl), (Nat.le_of_ble_eq_true rfl)⟩ ⟨(Nat.le_of_ble_eq_true rfl), (Nat.le_of_ble_eq_true rfl)⟩ rfl rfl (by decide) dX6_broken_20 h (fun v6 hs h => WG_st (st' := [va_rf v6]) rfl ?_)
      refine q_castS C (nm := RX4) (T := TX4) (N := 18) rfl wc_X6_32 dX6_broken_23 h (fun h => ?_)
      refine q_astore_n C (fun v7 => [(3, va_rf v7), (0, va_rf a0), (1, .int x1), (2, .int x2)]) dX6_broken_26 (by decide) (fun _ => rfl) h (fun v7 h => ?_)
      refine q_aload_n C 0 dX6_broken_27 rfl ?_
      refine q_gR C fl_X6_31 dX6_broken_28 h (fun v8 h => ?_)
      refine q_astore C (fun v9 => [(4, va_rf v9), (3, va_rf v7), (0, va_rf a0), (1, .int x1), (2, .int x2)]) dX6_broken_31 (by decide) (fun _ => rfl) h (fun v9 h => ?_)
      refine q_aload C 0 dX6_broken_33 rfl ?_
      refine q_ifnull C 74 dX6_broken_35 (by decide) h (fun h => ?_) (fun h => ?_)
      · refine WG.sub [2, 3, 4] rfl ?_
        exact w_j_X6_broken_74 C C2 _ _ _ _ hrec_4 h
      · refine q_aload_n C 2 dX6_broken_38 rfl ?_
        refine q_aload_n C 1 dX6_broken_39 rfl ?_
        refine q_callV C (CN := RX6) (T := TX6) (N := 6) [va_rf v7] [] (fun a0 o2 hs1 hm => m_X6_isPast hm) lk_X6_48 im_X6_isPast se_X6_X6_isPast rfl ⟨(Nat.le_of_ble_eq_true rfl), (Nat.le_of_ble_eq_true rfl)⟩ ⟨(Nat.le_of_ble_eq_true rfl), (Nat.le_of_ble_eq_true rfl)⟩ rfl rfl (by decide) dX6_broken_40 h (fun v11 hs h => WG_st (st' := [.int v11]) rfl ?_)
        refine q_if_ne C 74 dX6_broken_43 (by decide) h (fun h => ?_) (fun h => ?_)
        · refine WG.sub [2, 3, 4] rfl ?_
          exact w_j_X6_broken_74 C C2 _ _ _ _ hrec_4 h
        · refine q_aload_n C 2 dX6_broken_46 rfl ?_
          refine q_aload_n C 1 dX6_broken_47 rfl ?_
          refine q_callV C (CN := RX6) (T := TX6) (N := 6) [va_rf v7] [] (fun a0 o2 hs1 hm => m_X6_lookAround hm) lk_X6_68 im_X6_lookAround se_X6_X6_lookAround rfl ⟨(Nat.le_of_ble_eq_true rfl), (Nat.le_of_ble_eq_true rfl)⟩ ⟨(Nat.le_of_ble_eq_true rfl), (Nat.le_of_ble_eq_true rfl)⟩ rfl rfl (by decide) dX6_broken_48 h (fun v12 hs h => WG_st (st' := []) rfl ?_)
          refine q_iload_n C 3 dX6_broken_51 rfl ?_
          refine q_aload_n C 1 dX6_broken_52 rfl ?_
          refine q_aload_n C 1 dX6_broken_53 rfl ?_
          refine q_gI C fl_X6_37 dX6_broken_54 h (fun v13 h => ?_)
          refine q_aload C 0 dX6_broken_57 rfl ?_
          refine q_callV C (CN := RX4) (T := TX4) (N := 18) [.int v13, va_rf v9] [.int x1] (fun a0 o2 hs1 hm => m_X4_lettersAt hm) lk_X6_187 im_X4_lettersAt se_X4_X4_lettersAt rfl ⟨(Nat.le_of_ble_eq_true rfl), (Nat.le_of_ble_eq_true rfl)⟩ ⟨(Nat.le_of_ble_eq_true rfl), (Nat.le_of_ble_eq_true rfl)⟩ rfl rfl (by simp only [List.map, cat_rf, cat_i, cat_a]; decide) dX6_broken_59 h (fun v14 hs h => WG_st (st' := [.int v14, .int x1]) rfl ?_)
          refine q_if_eq C 71 dX6_broken_62 (by decide) h (fun h => ?_) (fun h => ?_)
          · refine q_iconst C (0 : Int32) dX6_broken_71 (by decide) ?_
            refine WG.sub [2, 4] rfl ?_
            exact w_j_X6_broken_72 C C2 _ _ _ _ _ hrec_4 h
          · refine q_iconst C (1 : Int32) dX6_broken_65 (by decide) ?_
            refine q_iload_n C 4 dX6_broken_66 rfl ?_
            refine q_ishl C dX6_broken_67 ?_
            refine q_goto C 72 dX6_broken_68 (by decide) ?_
            refine WG.sub [2, 4] rfl ?_
            exact w_j_X6_broken_72 C C2 _ _ _ _ _ hrec_4 h
end M_X6_broken
def f_X6_broken (a0 : Nat) : OO Int32 :=
    lets (0 : Int32) fun (v1 : Int32) =>
    lets (0 : Int32) fun (v2 : Int32) =>
    L_X6_broken_4 (some a0) (fun (v21 : Int32) => rtn v21) 100000 v1 v2
set_option maxRecDepth 100000 in
set_option maxHeartbeats 4000000 in
theorem m_X6_broken {G : GG} {l : Launch} {a0 : Nat} {hs hs' : Hs} {o : Except Nat Int32} (h : f_X6_broken a0 hs = some (o, hs')) : CT G l yX6_broken cX6_broken 5 (some .int) 9 364 0 0 [.ref a0] hs o hs' tvI := by
  refine vx_ofW (cc := cX6_broken) (maxL := 5) (ret := (some .int)) (by decide +kernel) rfl ?_
  intro p e s m args below meth c s₁ B hml hxt hv
  obtain ⟨hav, hR, hKn⟩ := hv
  subst hav
  have hts := atoms_spec (ws := .code yX6_broken cX6_broken 5 (some .int) :: Tg) B.pre
  have C : Cx G l p s m _ c RX6 cX6_broken 5 := ⟨B.exec, B.bytes, hml, findClass_of_methodNamed B.named, fun w hw => hts w (List.mem_cons_of_mem _ hw), hKn, fun q hq => Nat.le_trans hR.2.2.1 hq⟩
  have C2 : Cy meth c (some .int) := ⟨B.returns, B.notSynchronized, hxt⟩
  have key : WG G p l e { frames := 9, cells := 0, slots := 0, locals := 364 } s m ([.ref a0] : List Value).toArray below meth c 5 0 0 (vx_MQ below (QcT G o hs' tvI) (XCT G o hs') ([.ref a0] : List Value).toArray s 0 0 (gA G)) hs [(0, va_rf (some a0))] [] 0 := by
    unfold f_X6_broken at h
    refine q_iconst C (0 : Int32) dX6_broken_0 (by decide) ?_
    refine q_istore_n C (fun v1 => [(1, .int v1), (0, va_rf (some a0))]) dX6_broken_1 (by decide) (fun _ => rfl) h (fun v1 h => ?_)
    refine q_iconst C (0 : Int32) dX6_broken_2 (by decide) ?_
    refine q_istore_n C (fun v2 => [(2, .int v2), (1, .int v1), (0, va_rf (some a0))]) dX6_broken_3 (by decide) (fun _ => rfl) h (fun v2 h => ?_)
    refine WG.sub [2, 1, 0] rfl ?_
    refine w_L_X6_broken_4 C C2 _ _ ?_ _ _ _ _ h
    · intro v21 hs h
      refine q_iload_n C 0 dX6_broken_80 rfl ?_
      exact q_iret C C2 rfl (Nat.le_of_ble_eq_true rfl) (Nat.le_of_ble_eq_true rfl) dX6_broken_81 h
  rw [lg_entry_eq]
  exact key _ _ _ hR va_S.rf ⟨lv_entry _ (n := 5) (Nat.le_of_ble_eq_true rfl), (c1_r c1_n)⟩

theorem cd_X6_countBreaks : Cond.code yX6_countBreaks cX6_countBreaks 1 (some .int) ∈ Tg := Tg_of (i := 523) (by decide +kernel) (by decide +kernel)
theorem ml_X6_191 : Cond.methodLink RX6 191 yX6_broken ∈ Tg := Tg_of (i := 524) (by decide +kernel) (by decide +kernel)
theorem lk_X6_191 : Lk RX6 191 yX6_broken cX6_broken 5 (some .int) 0 := ⟨ml_X6_191, cd_X6_broken, iw_X6, by decide +kernel⟩
theorem im_X6_broken : Cond.instanceMethod yX6_broken ∈ Tg := Tg_of (i := 525) (by decide +kernel) (by decide +kernel)
theorem se_X6_X6_broken : Cond.selects RX6 yX6_broken yX6_broken ∈ Tg := Tg_of (i := 526) (by decide +kernel) (by decide +kernel)
section M_X6_countBreaks
variable {p : Program} {l : Launch} {e : Env} {s : State} {m : MethodId} {args : Array Value} {below : List Frame} {meth : Method} {c : Code} {G : GG} {o : Except Nat Int32} {hs' : Hs}
end M_X6_countBreaks
def f_X6_countBreaks (a0 : Nat) : OO Int32 :=
    rcv (some a0) 9 fun r3 => call (f_X6_broken r3 ) (fun (v1 : Int32) =>
    call (f_J6_bitCount_0f7a4 v1) (fun (v2 : Int32) =>
    rtn v2) nox) nox
set_option maxRecDepth 100000 in
set_option maxHeartbeats 4000000 in
theorem m_X6_countBreaks {G : GG} {l : Launch} {a0 : Nat} {hs hs' : Hs} {o : Except Nat Int32} (h : f_X6_countBreaks a0 hs = some (o, hs')) : CT G l yX6_countBreaks cX6_countBreaks 1 (some .int) 10 388 0 0 [.ref a0] hs o hs' tvI := by
  refine vx_ofW (cc := cX6_countBreaks) (maxL := 1) (ret := (some .int)) (by decide +kernel) rfl ?_
  intro p e s m args below meth c s₁ B hml hxt hv
  obtain ⟨hav, hR, hKn⟩ := hv
  subst hav
  have hts := atoms_spec (ws := .code yX6_countBreaks cX6_countBreaks 1 (some .int) :: Tg) B.pre
  have C : Cx G l p s m _ c RX6 cX6_countBreaks 1 := ⟨B.exec, B.bytes, hml, findClass_of_methodNamed B.named, fun w hw => hts w (List.mem_cons_of_mem _ hw), hKn, fun q hq => Nat.le_trans hR.2.2.1 hq⟩
  have C2 : Cy meth c (some .int) := ⟨B.returns, B.notSynchronized, hxt⟩
  have key : WG G p l e { frames := 10, cells := 0, slots := 0, locals := 388 } s m ([.ref a0] : List Value).toArray below meth c 1 0 0 (vx_MQ below (QcT G o hs' tvI) (XCT G o hs') ([.ref a0] : List Value).toArray s 0 0 (gA G)) hs [(0, va_rf (some a0))] [] 0 := by
    unfold f_X6_countBreaks at h
    refine q_aload_n C 0 dX6_countBreaks_0 rfl ?_
    refine q_callV C (CN := RX6) (T := TX6) (N := 6) [] [] (fun a0 o2 hs1 hm => m_X6_broken hm) lk_X6_191 im_X6_broken se_X6_X6_broken rfl ⟨(Nat.le_of_ble_eq_true rfl), (Nat.le_of_ble_eq_true rfl)⟩ ⟨(Nat.le_of_ble_eq_true rfl), (Nat.le_of_ble_eq_true rfl)⟩ rfl rfl (by decide) dX6_countBreaks_1 h (fun v1 hs h => WG_st (st' := [.int v1]) rfl ?_)
    refine q_callS C [.int v1] [] (fun o2 hs1 hm => m_J6_bitCount_0f7a4 hm) lk_X6_116 sm_J6_bitCount_0f7a4 ⟨(Nat.le_of_ble_eq_true rfl), (Nat.le_of_ble_eq_true rfl)⟩ ⟨(Nat.le_of_ble_eq_true rfl), (Nat.le_of_ble_eq_true rfl)⟩ rfl rfl (by decide) dX6_countBreaks_4 h (fun v2 hs h => WG_st (st' := [.int v2]) rfl ?_)
    exact q_iret C C2 rfl (Nat.le_of_ble_eq_true rfl) (Nat.le_of_ble_eq_true rfl) dX6_countBreaks_7 h
  rw [lg_entry_eq]
  exact key _ _ _ hR va_S.rf ⟨lv_entry _ (n := 1) (Nat.le_of_ble_eq_true rfl), (c1_r c1_n)⟩

theorem cd_X6_hoursOf : Cond.code yX6_hoursOf cX6_hoursOf 4 (some .int) ∈ Tg := Tg_of (i := 485) (by decide +kernel) (by decide +kernel)
theorem wf_X6_218 : Cond.fieldLink RX6 218 RX4 (TX4 1).2.1 (TX4 1).2.2.1 ∈ Tg := Tg_of (i := 896) (by decide +kernel) (by decide +kernel)
theorem fl_X6_218 : Fld RX6 218 7 1 (.object "Termgrid$Group") := ⟨RX4, TX4, 18, RX4, rfl, by decide, wf_X6_218, (Or.inl rfl), gu_X4, tyX4_ok _ (by decide), ⟨tyX4, tyX4_ok⟩, nmX4⟩
section M_X6_hoursOf
variable {p : Program} {l : Launch} {e : Env} {s : State} {m : MethodId} {args : Array Value} {below : List Frame} {meth : Method} {c : Code} {G : GG} {o : Except Nat Int32} {hs' : Hs}
def j_X6_hoursOf_52 (a0 : Option Nat) (a1 : Option Nat) (a3 : Int32) (s0 : Int32) (s1 : Int32) (rec_4 : Int32 → Int32 → OO Int32) : OO Int32 :=
  lets (s1 ||| s0) fun (v8 : Int32) =>
    lets (a3 + (1 : Int32)) fun (v9 : Int32) =>
    rec_4 v8 v9
set_option maxRecDepth 100000 in
set_option maxHeartbeats 4000000 in
theorem w_j_X6_hoursOf_52 (C : Cx G l p s m args c RX6 cX6_hoursOf 4) (C2 : Cy meth c (some .int)) {hs : Hs} (a0 : Option Nat) (a1 : Option Nat) (a3 : Int32) (s0 : Int32) (s1 : Int32) (rec_4 : Int32 → Int32 → OO Int32) (hrec_4 : ∀ (y2 : Int32) (y3 : Int32) hs, rec_4 y2 y3 hs = some (o, hs') → WG G p l e { frames := 3, cells := 0, slots := 0, locals := 64 } s m args below meth c 4 0 0 (vx_MQ below (QcT G o hs' tvI) (XCT G o hs') args s 0 0 (gA G)) hs [(0, va_rf a0), (1, va_rf a1), (2, .int y2), (3, .int y3)] [] 4) (h : j_X6_hoursOf_52 a0 a1 a3 s0 s1 rec_4 hs = some (o, hs')) : WG G p l e { frames := 3, cells := 0, slots := 0, locals := 64 } s m args below meth c 4 0 0 (vx_MQ below (QcT G o hs' tvI) (XCT G o hs') args s 0 0 (gA G)) hs [(0, va_rf a0), (1, va_rf a1), (3, .int a3)] [.int s0, .int s1] 52 := by
  unfold j_X6_hoursOf_52 at h
  refine q_ior C dX6_hoursOf_52 ?_
  refine q_istore_n C (fun v8 => [(2, .int v8), (0, va_rf a0), (1, va_rf a1), (3, .int a3)]) dX6_hoursOf_53 (by decide) (fun _ => rfl) h (fun v8 h => ?_)
  refine q_iinc C 3 (1 : Int32) (fun v9 => [(3, .int v9), (2, .int v8), (0, va_rf a0), (1, va_rf a1)]) dX6_hoursOf_54 rfl (by decide) (by decide) (fun _ => rfl) h (fun v9 h => ?_)
  refine q_goto C 4 dX6_hoursOf_57 (by decide) ?_
  refine WG.sub [2, 3, 1, 0] rfl ?_
  exact hrec_4 _ _ _ h
def L_X6_hoursOf_4 (a0 : Option Nat) (a1 : Option Nat) (k_4_60 : Int32 → OO Int32) : Nat → Int32 → Int32 → OO Int32
  | 0, _, _ => failO
  | n + 1, x2, x3 =>
    gR a0 9 2 fun v3 =>
    rcv v3 2 fun r16 => call (f_Jx4a65c_size_8abf5 r16 ) (fun (v4 : Int32) =>
    (if v4 ≤ x3 then
    k_4_60 x2
    else
    gR a0 9 2 fun v5 =>
    rcv v5 2 fun r15 => call (f_Jx4a65c_get_915e3 r15 x3) (fun (v6 : Option Nat) =>
    cst v6 7 (
    gR v6 7 1 fun v7 =>
    (if ¬ v7 = a1 then
    j_X6_hoursOf_52 a0 a1 x3 (0 : Int32) x2 (L_X6_hoursOf_4 a0 a1 k_4_60 n)
    else
    gR a0 9 2 fun v10 =>
    rcv v10 2 fun r14 => call (f_Jx4a65c_get_915e3 r14 x3) (fun (v11 : Option Nat) =>
    cst v11 7 (
    rcv v11 7 fun r13 => call (f_X4_hoursNow r13 ) (fun (v12 : Int32) =>
    j_X6_hoursOf_52 a0 a1 x3 v12 x2 (L_X6_hoursOf_4 a0 a1 k_4_60 n)) nox)) nox))) nox)) nox
set_option maxRecDepth 100000 in
set_option maxHeartbeats 4000000 in
theorem w_L_X6_hoursOf_4 (C : Cx G l p s m args c RX6 cX6_hoursOf 4) (C2 : Cy meth c (some .int)) (a0 : Option Nat) (a1 : Option Nat) (k_4_60 : Int32 → OO Int32) (hk_4_60 : ∀ (y2 : Int32) hs, k_4_60 y2 hs = some (o, hs') → WG G p l e { frames := 3, cells := 0, slots := 0, locals := 64 } s m args below meth c 4 0 0 (vx_MQ below (QcT G o hs' tvI) (XCT G o hs') args s 0 0 (gA G)) hs [(2, .int y2)] [] 60) : ∀ (n : Nat) (x2 : Int32) (x3 : Int32) (hs : Hs), L_X6_hoursOf_4 a0 a1 k_4_60 n x2 x3 hs = some (o, hs') → WG G p l e { frames := 3, cells := 0, slots := 0, locals := 64 } s m args below meth c 4 0 0 (vx_MQ below (QcT G o hs' tvI) (XCT G o hs') args s 0 0 (gA G)) hs [(0, va_rf a0), (1, va_rf a1), (2, .int x2), (3, .int x3)] [] 4 := by
  intro n
  induction n with
  | zero =>
    intro x2 x3 hs h
    rw [L_X6_hoursOf_4] at h
    exact absurd h failO_e
  | succ n hrec_4 =>
    intro x2 x3 hs h
    rw [L_X6_hoursOf_4] at h
    refine q_iload_n C 3 dX6_hoursOf_4 rfl ?_
    refine q_aload_n C 0 dX6_hoursOf_5 rfl ?_
    refine q_gR C fl_X6_21 dX6_hoursOf_6 h (fun v3 h => ?_)
    refine q_callV C (CN := RJx4a65c) (T := TJx4a65c) (N := 3) [] [.int x3] (fun a0 o2 hs1 hm => m_Jx4a65c_size_8abf5 hm) lk_X6_52 im_Jx4a65c_size_8abf5 se_Jx4a65c_Jx4a65c_size_8abf5 rfl ⟨(Nat.le_of_ble_eq_true rfl), (Nat.le_of_ble_eq_true rfl)⟩ ⟨(Nat.le_of_ble_eq_true rfl), (Nat.le_of_ble_eq_true rfl)⟩ rfl rfl (by simp only [List.map, cat_rf, cat_i, cat_a]; decide) dX6_hoursOf_9 h (fun v4 hs h => WG_st (st' := [.int v4, .int x3]) rfl ?_)
    refine q_icmp_ge C 60 dX6_hoursOf_12 (by decide) h (fun h => ?_) (fun h => ?_)
    · refine WG.sub [2] rfl ?_
      exact hk_4_60 _ _ h
    · refine q_iload_n C 2 dX6_hoursOf_15 rfl ?_
      refine q_aload_n C 0 dX6_hoursOf_16 rfl ?_
      refine q_gR C fl_X6_21 dX6_hoursOf_17 h (fun v5 h => ?_)
      refine q_iload_n C 3 dX6_hoursOf_20 rfl ?_
      refine q_callV C (CN := RJx4a65c) (T := TJx4a65c) (N := 3) [.int x3] [.int x2] (fun a0 o2 hs1 hm => m_Jx4a65c_get_915e3 hm) lk_X6_56 im_Jx4a65c_get_915e3 se_Jx4a65c_Jx4a65c_get_915e3 rfl ⟨(Nat.le_of_ble_eq_true rfl), (Nat.le_of_ble_eq_true rfl)⟩ ⟨(Nat.le_of_ble_eq_true rfl), (Nat.le_of_ble_eq_true rfl)⟩ rfl rfl (by simp only [List.map, cat_rf, cat_i, cat_a]; decide) dX6_hoursOf_21 h (fun v6 hs h => WG_st (st' := [va_rf v6, .int x2]) rfl ?_)
      refine q_castS C (nm := RX4) (T := TX4) (N := 18) rfl wc_X6_32 dX6_hoursOf_24 h (fun h => ?_)
      refine q_gR C fl_X6_218 dX6_hoursOf_27 h (fun v7 h => ?_)
      refine q_aload_n C 1 dX6_hoursOf_30 rfl ?_
      refine q_acmp_ne C 51 dX6_hoursOf_31 (by decide) h (fun h => ?_) (fun h => ?_)
      · refine q_iconst C (0 : Int32) dX6_hoursOf_51 (by decide) ?_
        refine WG.sub [0, 1, 3] rfl ?_
        exact w_j_X6_hoursOf_52 C C2 _ _ _ _ _ _ hrec_4 h
      · refine q_aload_n C 0 dX6_hoursOf_34 rfl ?_
        refine q_gR C fl_X6_21 dX6_hoursOf_35 h (fun v10 h => ?_)
        refine q_iload_n C 3 dX6_hoursOf_38 rfl ?_
        refine q_callV C (CN := RJx4a65c) (T := TJx4a65c) (N := 3) [.int x3] [.int x2] (fun a0 o2 hs1 hm => m_Jx4a65c_get_915e3 hm) lk_X6_56 im_Jx4a65c_get_915e3 se_Jx4a65c_Jx4a65c_get_915e3 rfl ⟨(Nat.le_of_ble_eq_true rfl), (Nat.le_of_ble_eq_true rfl)⟩ ⟨(Nat.le_of_ble_eq_true rfl), (Nat.le_of_ble_eq_true rfl)⟩ rfl rfl (by simp only [List.map, cat_rf, cat_i, cat_a]; decide) dX6_hoursOf_39 h (fun v11 hs h => WG_st (st' := [va_rf v11, .int x2]) rfl ?_)
        refine q_castS C (nm := RX4) (T := TX4) (N := 18) rfl wc_X6_32 dX6_hoursOf_42 h (fun h => ?_)
        refine q_callV C (CN := RX4) (T := TX4) (N := 18) [] [.int x2] (fun a0 o2 hs1 hm => m_X4_hoursNow hm) lk_X6_154 im_X4_hoursNow se_X4_X4_hoursNow rfl ⟨(Nat.le_of_ble_eq_true rfl), (Nat.le_of_ble_eq_true rfl)⟩ ⟨(Nat.le_of_ble_eq_true rfl), (Nat.le_of_ble_eq_true rfl)⟩ rfl rfl (by simp only [List.map, cat_rf, cat_i, cat_a]; decide) dX6_hoursOf_45 h (fun v12 hs h => WG_st (st' := [.int v12, .int x2]) rfl ?_)
        refine q_goto C 52 dX6_hoursOf_48 (by decide) ?_
        refine WG.sub [0, 1, 3] rfl ?_
        exact w_j_X6_hoursOf_52 C C2 _ _ _ _ _ _ hrec_4 h
end M_X6_hoursOf
def f_X6_hoursOf (a0 : Nat) (p1 : Option Nat) : OO Int32 :=
    lets (0 : Int32) fun (v1 : Int32) =>
    lets (0 : Int32) fun (v2 : Int32) =>
    L_X6_hoursOf_4 (some a0) p1 (fun (v17 : Int32) => rtn v17) 100000 v1 v2
set_option maxRecDepth 100000 in
set_option maxHeartbeats 4000000 in
theorem m_X6_hoursOf {G : GG} {l : Launch} {a0 : Nat} {p1 : Option Nat} {hs hs' : Hs} {o : Except Nat Int32} (h : f_X6_hoursOf a0 p1 hs = some (o, hs')) : CT G l yX6_hoursOf cX6_hoursOf 4 (some .int) 3 64 0 0 [.ref a0, va_rf p1] hs o hs' tvI := by
  refine vx_ofW (cc := cX6_hoursOf) (maxL := 4) (ret := (some .int)) (by decide +kernel) rfl ?_
  intro p e s m args below meth c s₁ B hml hxt hv
  obtain ⟨hav, hR, hKn⟩ := hv
  subst hav
  have hts := atoms_spec (ws := .code yX6_hoursOf cX6_hoursOf 4 (some .int) :: Tg) B.pre
  have C : Cx G l p s m _ c RX6 cX6_hoursOf 4 := ⟨B.exec, B.bytes, hml, findClass_of_methodNamed B.named, fun w hw => hts w (List.mem_cons_of_mem _ hw), hKn, fun q hq => Nat.le_trans hR.2.2.1 hq⟩
  have C2 : Cy meth c (some .int) := ⟨B.returns, B.notSynchronized, hxt⟩
  have key : WG G p l e { frames := 3, cells := 0, slots := 0, locals := 64 } s m ([.ref a0, va_rf p1] : List Value).toArray below meth c 4 0 0 (vx_MQ below (QcT G o hs' tvI) (XCT G o hs') ([.ref a0, va_rf p1] : List Value).toArray s 0 0 (gA G)) hs [(0, va_rf (some a0)), (1, va_rf p1)] [] 0 := by
    unfold f_X6_hoursOf at h
    refine q_iconst C (0 : Int32) dX6_hoursOf_0 (by decide) ?_
    refine q_istore_n C (fun v1 => [(2, .int v1), (0, va_rf (some a0)), (1, va_rf p1)]) dX6_hoursOf_1 (by decide) (fun _ => rfl) h (fun v1 h => ?_)
    refine q_iconst C (0 : Int32) dX6_hoursOf_2 (by decide) ?_
    refine q_istore_n C (fun v2 => [(3, .int v2), (2, .int v1), (0, va_rf (some a0)), (1, va_rf p1)]) dX6_hoursOf_3 (by decide) (fun _ => rfl) h (fun v2 h => ?_)
    refine WG.sub [2, 3, 1, 0] rfl ?_
    refine w_L_X6_hoursOf_4 C C2 _ _ _ ?_ _ _ _ _ h
    · intro v17 hs h
      refine q_iload_n C 0 dX6_hoursOf_60 rfl ?_
      exact q_iret C C2 rfl (Nat.le_of_ble_eq_true rfl) (Nat.le_of_ble_eq_true rfl) dX6_hoursOf_61 h
  rw [lg_entry_eq]
  cases p1 <;> exact key _ _ _ hR va_S.rf ⟨lv_entry _ (n := 4) (Nat.le_of_ble_eq_true rfl), (c1_r (c1_r c1_n))⟩

theorem cd_X6_gapsOnDay : Cond.code yX6_gapsOnDay cX6_gapsOnDay 6 (some .int) ∈ Tg := Tg_of (i := 492) (by decide +kernel) (by decide +kernel)
section M_X6_gapsOnDay
variable {p : Program} {l : Launch} {e : Env} {s : State} {m : MethodId} {args : Array Value} {below : List Frame} {meth : Method} {c : Code} {G : GG} {o : Except Nat Int32} {hs' : Hs}
def j_X6_gapsOnDay_55 (a0 : Int32) (a1 : Int32) (a2 : Int32) (a3 : Int32) (a4 : Int32) (a5 : Int32)  (rec_10 : Int32 → Int32 → Int32 → Int32 → OO Int32) : OO Int32 :=
  lets (a5 + (1 : Int32)) fun (v7 : Int32) =>
    rec_10 a2 a3 a4 v7
set_option maxRecDepth 100000 in
set_option maxHeartbeats 4000000 in
theorem w_j_X6_gapsOnDay_55 (C : Cx G l p s m args c RX6 cX6_gapsOnDay 6) (C2 : Cy meth c (some .int)) {hs : Hs} (a0 : Int32) (a1 : Int32) (a2 : Int32) (a3 : Int32) (a4 : Int32) (a5 : Int32)  (rec_10 : Int32 → Int32 → Int32 → Int32 → OO Int32) (hrec_10 : ∀ (y2 : Int32) (y3 : Int32) (y4 : Int32) (y5 : Int32) hs, rec_10 y2 y3 y4 y5 hs = some (o, hs') → WG G p l e { frames := 1, cells := 0, slots := 0, locals := 21 } s m args below meth c 6 0 0 (vx_MQ below (QcT G o hs' tvI) (XCT G o hs') args s 0 0 (gA G)) hs [(0, .int a0), (1, .int a1), (2, .int y2), (3, .int y3), (4, .int y4), (5, .int y5)] [] 10) (h : j_X6_gapsOnDay_55 a0 a1 a2 a3 a4 a5 rec_10 hs = some (o, hs')) : WG G p l e { frames := 1, cells := 0, slots := 0, locals := 21 } s m args below meth c 6 0 0 (vx_MQ below (QcT G o hs' tvI) (XCT G o hs') args s 0 0 (gA G)) hs [(0, .int a0), (1, .int a1), (2, .int a2), (3, .int a3), (4, .int a4), (5, .int a5)] [] 55 := by
  unfold j_X6_gapsOnDay_55 at h
  refine q_iinc C 5 (1 : Int32) (fun v7 => [(5, .int v7), (0, .int a0), (1, .int a1), (2, .int a2), (3, .int a3), (4, .int a4)]) dX6_gapsOnDay_55 rfl (by decide) (by decide) (fun _ => rfl) h (fun v7 h => ?_)
  refine q_goto C 10 dX6_gapsOnDay_58 (by decide) ?_
  refine WG.sub [1, 2, 3, 4, 5, 0] rfl ?_
  exact hrec_10 _ _ _ _ _ h
def j_X6_gapsOnDay_42 (a0 : Int32) (a1 : Int32) (a5 : Int32) (s0 : Int32) (s1 : Int32) (rec_10 : Int32 → Int32 → Int32 → Int32 → OO Int32) : OO Int32 :=
  lets (s1 + s0) fun (v8 : Int32) =>
    lets (0 : Int32) fun (v9 : Int32) =>
    lets (1 : Int32) fun (v10 : Int32) =>
    j_X6_gapsOnDay_55 a0 a1 v8 v9 v10 a5 rec_10
set_option maxRecDepth 100000 in
set_option maxHeartbeats 4000000 in
theorem w_j_X6_gapsOnDay_42 (C : Cx G l p s m args c RX6 cX6_gapsOnDay 6) (C2 : Cy meth c (some .int)) {hs : Hs} (a0 : Int32) (a1 : Int32) (a5 : Int32) (s0 : Int32) (s1 : Int32) (rec_10 : Int32 → Int32 → Int32 → Int32 → OO Int32) (hrec_10 : ∀ (y2 : Int32) (y3 : Int32) (y4 : Int32) (y5 : Int32) hs, rec_10 y2 y3 y4 y5 hs = some (o, hs') → WG G p l e { frames := 1, cells := 0, slots := 0, locals := 21 } s m args below meth c 6 0 0 (vx_MQ below (QcT G o hs' tvI) (XCT G o hs') args s 0 0 (gA G)) hs [(0, .int a0), (1, .int a1), (2, .int y2), (3, .int y3), (4, .int y4), (5, .int y5)] [] 10) (h : j_X6_gapsOnDay_42 a0 a1 a5 s0 s1 rec_10 hs = some (o, hs')) : WG G p l e { frames := 1, cells := 0, slots := 0, locals := 21 } s m args below meth c 6 0 0 (vx_MQ below (QcT G o hs' tvI) (XCT G o hs') args s 0 0 (gA G)) hs [(0, .int a0), (1, .int a1), (5, .int a5)] [.int s0, .int s1] 42 := by
  unfold j_X6_gapsOnDay_42 at h
  refine q_iadd C dX6_gapsOnDay_42 ?_
  refine q_istore_n C (fun v8 => [(2, .int v8), (0, .int a0), (1, .int a1), (5, .int a5)]) dX6_gapsOnDay_43 (by decide) (fun _ => rfl) h (fun v8 h => ?_)
  refine q_iconst C (0 : Int32) dX6_gapsOnDay_44 (by decide) ?_
  refine q_istore_n C (fun v9 => [(3, .int v9), (2, .int v8), (0, .int a0), (1, .int a1), (5, .int a5)]) dX6_gapsOnDay_45 (by decide) (fun _ => rfl) h (fun v9 h => ?_)
  refine q_iconst C (1 : Int32) dX6_gapsOnDay_46 (by decide) ?_
  refine q_istore C (fun v10 => [(4, .int v10), (3, .int v9), (2, .int v8), (0, .int a0), (1, .int a1), (5, .int a5)]) dX6_gapsOnDay_47 (by decide) (fun _ => rfl) h (fun v10 h => ?_)
  refine q_goto C 55 dX6_gapsOnDay_49 (by decide) ?_
  refine WG.sub [3, 4, 2, 1, 0, 5] rfl ?_
  exact w_j_X6_gapsOnDay_55 C C2 _ _ _ _ _ _ _ hrec_10 h
def L_X6_gapsOnDay_10 (a0 : Int32) (a1 : Int32) (k_10_61 : Int32 → OO Int32) : Nat → Int32 → Int32 → Int32 → Int32 → OO Int32
  | 0, _, _, _, _ => failO
  | n + 1, x2, x3, x4, x5 =>
    (if (6 : Int32) ≤ x5 then
    k_10_61 x2
    else
    call (f_X8_has a0 (((6 : Int32) * a1) + x5)) (fun (v5 : Int32) =>
    (if v5 = 0 then
    lets (x3 + (1 : Int32)) fun (v6 : Int32) =>
    j_X6_gapsOnDay_55 a0 a1 x2 v6 x4 x5 (L_X6_gapsOnDay_10 a0 a1 k_10_61 n)
    else
    (if x4 = 0 then
    j_X6_gapsOnDay_42 a0 a1 x5 (0 : Int32) x2 (L_X6_gapsOnDay_10 a0 a1 k_10_61 n)
    else
    j_X6_gapsOnDay_42 a0 a1 x5 x3 x2 (L_X6_gapsOnDay_10 a0 a1 k_10_61 n)))) nox)
set_option maxRecDepth 100000 in
set_option maxHeartbeats 4000000 in
theorem w_L_X6_gapsOnDay_10 (C : Cx G l p s m args c RX6 cX6_gapsOnDay 6) (C2 : Cy meth c (some .int)) (a0 : Int32) (a1 : Int32) (k_10_61 : Int32 → OO Int32) (hk_10_61 : ∀ (y2 : Int32) hs, k_10_61 y2 hs = some (o, hs') → WG G p l e { frames := 1, cells := 0, slots := 0, locals := 21 } s m args below meth c 6 0 0 (vx_MQ below (QcT G o hs' tvI) (XCT G o hs') args s 0 0 (gA G)) hs [(2, .int y2)] [] 61) : ∀ (n : Nat) (x2 : Int32) (x3 : Int32) (x4 : Int32) (x5 : Int32) (hs : Hs), L_X6_gapsOnDay_10 a0 a1 k_10_61 n x2 x3 x4 x5 hs = some (o, hs') → WG G p l e { frames := 1, cells := 0, slots := 0, locals := 21 } s m args below meth c 6 0 0 (vx_MQ below (QcT G o hs' tvI) (XCT G o hs') args s 0 0 (gA G)) hs [(0, .int a0), (1, .int a1), (2, .int x2), (3, .int x3), (4, .int x4), (5, .int x5)] [] 10 := by
  intro n
  induction n with
  | zero =>
    intro x2 x3 x4 x5 hs h
    rw [L_X6_gapsOnDay_10] at h
    exact absurd h failO_e
  | succ n hrec_10 =>
    intro x2 x3 x4 x5 hs h
    rw [L_X6_gapsOnDay_10] at h
    refine q_iload C 5 dX6_gapsOnDay_10 rfl ?_
    refine q_bipush C (6 : Int32) dX6_gapsOnDay_12 (by decide) ?_
    refine q_icmp_ge C 61 dX6_gapsOnDay_14 (by decide) h (fun h => ?_) (fun h => ?_)
    · refine WG.sub [2] rfl ?_
      exact hk_10_61 _ _ h
    · refine q_iload_n C 0 dX6_gapsOnDay_17 rfl ?_
      refine q_bipush C (6 : Int32) dX6_gapsOnDay_18 (by decide) ?_
      refine q_iload_n C 1 dX6_gapsOnDay_20 rfl ?_
      refine q_imul C dX6_gapsOnDay_21 ?_
      refine q_iload C 5 dX6_gapsOnDay_22 rfl ?_
      refine q_iadd C dX6_gapsOnDay_24 ?_
      refine q_callSN C [.int a0, .int (((6 : Int32) * a1) + x5)] [] (fun o2 hs1 hm => m_X8_has hm) lk_X6_89 sm_X8_has ⟨(Nat.le_of_ble_eq_true rfl), (Nat.le_of_ble_eq_true rfl)⟩ ⟨(Nat.le_of_ble_eq_true rfl), (Nat.le_of_ble_eq_true rfl)⟩ rfl rfl (by decide) dX6_gapsOnDay_25 h (fun v5 hs h => WG_st (st' := [.int v5]) rfl ?_)
      refine q_if_eq C 52 dX6_gapsOnDay_28 (by decide) h (fun h => ?_) (fun h => ?_)
      · refine q_iinc C 3 (1 : Int32) (fun v6 => [(3, .int v6), (0, .int a0), (1, .int a1), (2, .int x2), (4, .int x4), (5, .int x5)]) dX6_gapsOnDay_52 rfl (by decide) (by decide) (fun _ => rfl) h (fun v6 h => ?_)
        refine WG.sub [1, 2, 3, 0, 4, 5] rfl ?_
        exact w_j_X6_gapsOnDay_55 C C2 _ _ _ _ _ _ _ hrec_10 h
      · refine q_iload_n C 2 dX6_gapsOnDay_31 rfl ?_
        refine q_iload C 4 dX6_gapsOnDay_32 rfl ?_
        refine q_if_eq C 41 dX6_gapsOnDay_34 (by decide) h (fun h => ?_) (fun h => ?_)
        · refine q_iconst C (0 : Int32) dX6_gapsOnDay_41 (by decide) ?_
          refine WG.sub [0, 1, 5] rfl ?_
          exact w_j_X6_gapsOnDay_42 C C2 _ _ _ _ _ _ hrec_10 h
        · refine q_iload_n C 3 dX6_gapsOnDay_37 rfl ?_
          refine q_goto C 42 dX6_gapsOnDay_38 (by decide) ?_
          refine WG.sub [0, 1, 5] rfl ?_
          exact w_j_X6_gapsOnDay_42 C C2 _ _ _ _ _ _ hrec_10 h
end M_X6_gapsOnDay
def f_X6_gapsOnDay (p0 : Int32) (p1 : Int32) : OO Int32 :=
    lets (0 : Int32) fun (v1 : Int32) =>
    lets (0 : Int32) fun (v2 : Int32) =>
    lets (0 : Int32) fun (v3 : Int32) =>
    lets (0 : Int32) fun (v4 : Int32) =>
    L_X6_gapsOnDay_10 p0 p1 (fun (v11 : Int32) => rtn v11) 100000 v1 v2 v3 v4
set_option maxRecDepth 100000 in
set_option maxHeartbeats 4000000 in
theorem m_X6_gapsOnDay {G : GG} {l : Launch} {p0 : Int32} {p1 : Int32} {hs hs' : Hs} {o : Except Nat Int32} (h : f_X6_gapsOnDay p0 p1 hs = some (o, hs')) : CT G l yX6_gapsOnDay cX6_gapsOnDay 6 (some .int) 1 21 0 0 [.int p0, .int p1] hs o hs' tvI := by
  refine vx_ofW (cc := cX6_gapsOnDay) (maxL := 6) (ret := (some .int)) (by decide +kernel) rfl ?_
  intro p e s m args below meth c s₁ B hml hxt hv
  obtain ⟨hav, hR, hKn⟩ := hv
  subst hav
  have hts := atoms_spec (ws := .code yX6_gapsOnDay cX6_gapsOnDay 6 (some .int) :: Tg) B.pre
  have C : Cx G l p s m _ c RX6 cX6_gapsOnDay 6 := ⟨B.exec, B.bytes, hml, findClass_of_methodNamed B.named, fun w hw => hts w (List.mem_cons_of_mem _ hw), hKn, fun q hq => Nat.le_trans hR.2.2.1 hq⟩
  have C2 : Cy meth c (some .int) := ⟨B.returns, B.notSynchronized, hxt⟩
  have key : WG G p l e { frames := 1, cells := 0, slots := 0, locals := 21 } s m ([.int p0, .int p1] : List Value).toArray below meth c 6 0 0 (vx_MQ below (QcT G o hs' tvI) (XCT G o hs') ([.int p0, .int p1] : List Value).toArray s 0 0 (gA G)) hs [(0, .int p0), (1, .int p1)] [] 0 := by
    unfold f_X6_gapsOnDay at h
    refine q_iconst C (0 : Int32) dX6_gapsOnDay_0 (by decide) ?_
    refine q_istore_n C (fun v1 => [(2, .int v1), (0, .int p0), (1, .int p1)]) dX6_gapsOnDay_1 (by decide) (fun _ => rfl) h (fun v1 h => ?_)
    refine q_iconst C (0 : Int32) dX6_gapsOnDay_2 (by decide) ?_
    refine q_istore_n C (fun v2 => [(3, .int v2), (2, .int v1), (0, .int p0), (1, .int p1)]) dX6_gapsOnDay_3 (by decide) (fun _ => rfl) h (fun v2 h => ?_)
    refine q_iconst C (0 : Int32) dX6_gapsOnDay_4 (by decide) ?_
    refine q_istore C (fun v3 => [(4, .int v3), (3, .int v2), (2, .int v1), (0, .int p0), (1, .int p1)]) dX6_gapsOnDay_5 (by decide) (fun _ => rfl) h (fun v3 h => ?_)
    refine q_iconst C (0 : Int32) dX6_gapsOnDay_7 (by decide) ?_
    refine q_istore C (fun v4 => [(5, .int v4), (4, .int v3), (3, .int v2), (2, .int v1), (0, .int p0), (1, .int p1)]) dX6_gapsOnDay_8 (by decide) (fun _ => rfl) h (fun v4 h => ?_)
    refine WG.sub [4, 5, 3, 2, 1, 0] rfl ?_
    refine w_L_X6_gapsOnDay_10 C C2 _ _ _ ?_ _ _ _ _ _ _ h
    · intro v11 hs h
      refine q_iload_n C 0 dX6_gapsOnDay_61 rfl ?_
      exact q_iret C C2 rfl (Nat.le_of_ble_eq_true rfl) (Nat.le_of_ble_eq_true rfl) dX6_gapsOnDay_62 h
  rw [lg_entry_eq]
  exact key _ _ _ hR va_S.rf ⟨lv_entry _ (n := 6) (Nat.le_of_ble_eq_true rfl), (c1_i (c1_i c1_n))⟩

theorem cd_X6_gapsAnew : Cond.code yX6_gapsAnew cX6_gapsAnew 5 (some .int) ∈ Tg := Tg_of (i := 480) (by decide +kernel) (by decide +kernel)
theorem fl_X6_18 : Fld RX6 18 9 1 (.object "java/util/ArrayList") := ⟨RX6, TX6, 6, RX6, rfl, by decide, wf_X6_18, (Or.inl rfl), gu_X6, tyX6_ok _ (by decide), ⟨tyX6, tyX6_ok⟩, nmX6⟩
theorem wc_X6_209 : Cond.classLink RX6 209 RX2 ∈ Tg := Tg_of (i := 481) (by decide +kernel) (by decide +kernel)
theorem ml_X6_211 : Cond.methodLink RX6 211 yX6_hoursOf ∈ Tg := Tg_of (i := 482) (by decide +kernel) (by decide +kernel)
theorem lk_X6_211 : Lk RX6 211 yX6_hoursOf cX6_hoursOf 4 (some .int) 1 := ⟨ml_X6_211, cd_X6_hoursOf, iw_X6, by decide +kernel⟩
theorem ml_X6_215 : Cond.methodLink RX6 215 yX6_gapsOnDay ∈ Tg := Tg_of (i := 490) (by decide +kernel) (by decide +kernel)
theorem lk_X6_215 : Lk RX6 215 yX6_gapsOnDay cX6_gapsOnDay 6 (some .int) 2 := ⟨ml_X6_215, cd_X6_gapsOnDay, iw_X6, by decide +kernel⟩
theorem sm_X6_gapsOnDay : Cond.static yX6_gapsOnDay ∈ Tg := Tg_of (i := 491) (by decide +kernel) (by decide +kernel)
theorem im_X6_hoursOf : Cond.instanceMethod yX6_hoursOf ∈ Tg := Tg_of (i := 484) (by decide +kernel) (by decide +kernel)
theorem se_X6_X6_hoursOf : Cond.selects RX6 yX6_hoursOf yX6_hoursOf ∈ Tg := Tg_of (i := 11) (by decide +kernel) (by decide +kernel)
section M_X6_gapsAnew
variable {p : Program} {l : Launch} {e : Env} {s : State} {m : MethodId} {args : Array Value} {below : List Frame} {meth : Method} {c : Code} {G : GG} {o : Except Nat Int32} {hs' : Hs}
def L_X6_gapsAnew_34 (a0 : Option Nat) (a2 : Int32) (a3 : Int32) (k_34_55 : Int32 → OO Int32) : Nat → Int32 → Int32 → OO Int32
  | 0, _, _ => failO
  | n + 1, x1, x4 =>
    (if (5 : Int32) ≤ x4 then
    k_34_55 x1
    else
    call (f_X6_gapsOnDay a3 x4) (fun (v10 : Int32) =>
    lets (x1 + v10) fun (v11 : Int32) =>
    lets (x4 + (1 : Int32)) fun (v12 : Int32) =>
    (L_X6_gapsAnew_34 a0 a2 a3 k_34_55 n) v11 v12) nox)
set_option maxRecDepth 100000 in
set_option maxHeartbeats 4000000 in
theorem w_L_X6_gapsAnew_34 (C : Cx G l p s m args c RX6 cX6_gapsAnew 5) (C2 : Cy meth c (some .int)) (a0 : Option Nat) (a2 : Int32) (a3 : Int32) (k_34_55 : Int32 → OO Int32) (hk_34_55 : ∀ (y1 : Int32) hs, k_34_55 y1 hs = some (o, hs') → WG G p l e { frames := 4, cells := 0, slots := 0, locals := 87 } s m args below meth c 5 0 0 (vx_MQ below (QcT G o hs' tvI) (XCT G o hs') args s 0 0 (gA G)) hs [(0, va_rf a0), (1, .int y1), (2, .int a2)] [] 55) : ∀ (n : Nat) (x1 : Int32) (x4 : Int32) (hs : Hs), L_X6_gapsAnew_34 a0 a2 a3 k_34_55 n x1 x4 hs = some (o, hs') → WG G p l e { frames := 4, cells := 0, slots := 0, locals := 87 } s m args below meth c 5 0 0 (vx_MQ below (QcT G o hs' tvI) (XCT G o hs') args s 0 0 (gA G)) hs [(0, va_rf a0), (1, .int x1), (2, .int a2), (3, .int a3), (4, .int x4)] [] 34 := by
  intro n
  induction n with
  | zero =>
    intro x1 x4 hs h
    rw [L_X6_gapsAnew_34] at h
    exact absurd h failO_e
  | succ n hrec_34 =>
    intro x1 x4 hs h
    rw [L_X6_gapsAnew_34] at h
    refine q_iload C 4 dX6_gapsAnew_34 rfl ?_
    refine q_iconst C (5 : Int32) dX6_gapsAnew_36 (by decide) ?_
    refine q_icmp_ge C 55 dX6_gapsAnew_37 (by decide) h (fun h => ?_) (fun h => ?_)
    · refine WG.sub [0, 1, 2] rfl ?_
      exact hk_34_55 _ _ h
    · refine q_iload_n C 1 dX6_gapsAnew_40 rfl ?_
      refine q_iload_n C 3 dX6_gapsAnew_41 rfl ?_
      refine q_iload C 4 dX6_gapsAnew_42 rfl ?_
      refine q_callS C [.int a3, .int x4] [.int x1] (fun o2 hs1 hm => m_X6_gapsOnDay hm) lk_X6_215 sm_X6_gapsOnDay ⟨(Nat.le_of_ble_eq_true rfl), (Nat.le_of_ble_eq_true rfl)⟩ ⟨(Nat.le_of_ble_eq_true rfl), (Nat.le_of_ble_eq_true rfl)⟩ rfl rfl (by simp only [List.map, cat_rf, cat_i, cat_a]; decide) dX6_gapsAnew_44 h (fun v10 hs h => WG_st (st' := [.int v10, .int x1]) rfl ?_)
      refine q_iadd C dX6_gapsAnew_47 ?_
      refine q_istore_n C (fun v11 => [(1, .int v11), (0, va_rf a0), (2, .int a2), (3, .int a3), (4, .int x4)]) dX6_gapsAnew_48 (by decide) (fun _ => rfl) h (fun v11 h => ?_)
      refine q_iinc C 4 (1 : Int32) (fun v12 => [(4, .int v12), (1, .int v11), (0, va_rf a0), (2, .int a2), (3, .int a3)]) dX6_gapsAnew_49 rfl (by decide) (by decide) (fun _ => rfl) h (fun v12 h => ?_)
      refine q_goto C 34 dX6_gapsAnew_52 (by decide) ?_
      refine WG.sub [2, 1, 3, 4, 0] rfl ?_
      exact hrec_34 _ _ _ h
def L_X6_gapsAnew_4 (a0 : Option Nat) (k_4_61 : Int32 → OO Int32) : Nat → Int32 → Int32 → OO Int32
  | 0, _, _ => failO
  | n + 1, x1, x2 =>
    gR a0 9 1 fun v3 =>
    rcv v3 2 fun r17 => call (f_Jx4a65c_size_8abf5 r17 ) (fun (v4 : Int32) =>
    (if v4 ≤ x2 then
    k_4_61 x1
    else
    gR a0 9 1 fun v5 =>
    rcv v5 2 fun r16 => call (f_Jx4a65c_get_915e3 r16 x2) (fun (v6 : Option Nat) =>
    cst v6 5 (
    rcv a0 9 fun r15 => call (f_X6_hoursOf r15 v6) (fun (v7 : Int32) =>
    lets v7 fun (v8 : Int32) =>
    lets (0 : Int32) fun (v9 : Int32) =>
    L_X6_gapsAnew_34 a0 x2 v8 (fun (v13 : Int32) => lets (x2 + (1 : Int32)) fun (v14 : Int32) =>
    (L_X6_gapsAnew_4 a0 k_4_61 n) v13 v14) 100000 x1 v9) nox)) nox)) nox
set_option maxRecDepth 100000 in
set_option maxHeartbeats 4000000 in
theorem w_L_X6_gapsAnew_4 (C : Cx G l p s m args c RX6 cX6_gapsAnew 5) (C2 : Cy meth c (some .int)) (a0 : Option Nat) (k_4_61 : Int32 → OO Int32) (hk_4_61 : ∀ (y1 : Int32) hs, k_4_61 y1 hs = some (o, hs') → WG G p l e { frames := 4, cells := 0, slots := 0, locals := 87 } s m args below meth c 5 0 0 (vx_MQ below (QcT G o hs' tvI) (XCT G o hs') args s 0 0 (gA G)) hs [(1, .int y1)] [] 61) : ∀ (n : Nat) (x1 : Int32) (x2 : Int32) (hs : Hs), L_X6_gapsAnew_4 a0 k_4_61 n x1 x2 hs = some (o, hs') → WG G p l e { frames := 4, cells := 0, slots := 0, locals := 87 } s m args below meth c 5 0 0 (vx_MQ below (QcT G o hs' tvI) (XCT G o hs') args s 0 0 (gA G)) hs [(0, va_rf a0), (1, .int x1), (2, .int x2)] [] 4 := by
  intro n
  induction n with
  | zero =>
    intro x1 x2 hs h
    rw [L_X6_gapsAnew_4] at h
    exact absurd h failO_e
  | succ n hrec_4 =>
    intro x1 x2 hs h
    rw [L_X6_gapsAnew_4] at h
    refine q_iload_n C 2 dX6_gapsAnew_4 rfl ?_
    refine q_aload_n C 0 dX6_gapsAnew_5 rfl ?_
    refine q_gR C fl_X6_18 dX6_gapsAnew_6 h (fun v3 h => ?_)
    refine q_callV C (CN := RJx4a65c) (T := TJx4a65c) (N := 3) [] [.int x2] (fun a0 o2 hs1 hm => m_Jx4a65c_size_8abf5 hm) lk_X6_52 im_Jx4a65c_size_8abf5 se_Jx4a65c_Jx4a65c_size_8abf5 rfl ⟨(Nat.le_of_ble_eq_true rfl), (Nat.le_of_ble_eq_true rfl)⟩ ⟨(Nat.le_of_ble_eq_true rfl), (Nat.le_of_ble_eq_true rfl)⟩ rfl rfl (by simp only [List.map, cat_rf, cat_i, cat_a]; decide) dX6_gapsAnew_9 h (fun v4 hs h => WG_st (st' := [.int v4, .int x2]) rfl ?_)
    refine q_icmp_ge C 61 dX6_gapsAnew_12 (by decide) h (fun h => ?_) (fun h => ?_)
    · refine WG.sub [1] rfl ?_
      exact hk_4_61 _ _ h
    · refine q_aload_n C 0 dX6_gapsAnew_15 rfl ?_
      refine q_aload_n C 0 dX6_gapsAnew_16 rfl ?_
      refine q_gR C fl_X6_18 dX6_gapsAnew_17 h (fun v5 h => ?_)
      refine q_iload_n C 2 dX6_gapsAnew_20 rfl ?_
      refine q_callV C (CN := RJx4a65c) (T := TJx4a65c) (N := 3) [.int x2] [va_rf a0] (fun a0 o2 hs1 hm => m_Jx4a65c_get_915e3 hm) lk_X6_56 im_Jx4a65c_get_915e3 se_Jx4a65c_Jx4a65c_get_915e3 rfl ⟨(Nat.le_of_ble_eq_true rfl), (Nat.le_of_ble_eq_true rfl)⟩ ⟨(Nat.le_of_ble_eq_true rfl), (Nat.le_of_ble_eq_true rfl)⟩ rfl rfl (by simp only [List.map, cat_rf, cat_i, cat_a]; decide) dX6_gapsAnew_21 h (fun v6 hs h => WG_st (st' := [va_rf v6, va_rf a0]) rfl ?_)
      refine q_castS C (nm := RX2) (T := TX2) (N := 1) rfl wc_X6_209 dX6_gapsAnew_24 h (fun h => ?_)
      refine q_callV C (CN := RX6) (T := TX6) (N := 6) [va_rf v6] [] (fun a0 o2 hs1 hm => m_X6_hoursOf hm) lk_X6_211 im_X6_hoursOf se_X6_X6_hoursOf rfl ⟨(Nat.le_of_ble_eq_true rfl), (Nat.le_of_ble_eq_true rfl)⟩ ⟨(Nat.le_of_ble_eq_true rfl), (Nat.le_of_ble_eq_true rfl)⟩ rfl rfl (by decide) dX6_gapsAnew_27 h (fun v7 hs h => WG_st (st' := [.int v7]) rfl ?_)
      refine q_istore_n C (fun v8 => [(3, .int v8), (0, va_rf a0), (1, .int x1), (2, .int x2)]) dX6_gapsAnew_30 (by decide) (fun _ => rfl) h (fun v8 h => ?_)
      refine q_iconst C (0 : Int32) dX6_gapsAnew_31 (by decide) ?_
      refine q_istore C (fun v9 => [(4, .int v9), (3, .int v8), (0, va_rf a0), (1, .int x1), (2, .int x2)]) dX6_gapsAnew_32 (by decide) (fun _ => rfl) h (fun v9 h => ?_)
      refine WG.sub [2, 3, 4, 1, 0] rfl ?_
      refine w_L_X6_gapsAnew_34 C C2 _ _ _ _ ?_ _ _ _ _ h
      · intro v13 hs h
        refine q_iinc C 2 (1 : Int32) (fun v14 => [(2, .int v14), (0, va_rf a0), (1, .int v13)]) dX6_gapsAnew_55 rfl (by decide) (by decide) (fun _ => rfl) h (fun v14 h => ?_)
        refine q_goto C 4 dX6_gapsAnew_58 (by decide) ?_
        refine WG.sub [1, 2, 0] rfl ?_
        exact hrec_4 _ _ _ h
end M_X6_gapsAnew
def f_X6_gapsAnew (a0 : Nat) : OO Int32 :=
    lets (0 : Int32) fun (v1 : Int32) =>
    lets (0 : Int32) fun (v2 : Int32) =>
    L_X6_gapsAnew_4 (some a0) (fun (v18 : Int32) => rtn v18) 100000 v1 v2
set_option maxRecDepth 100000 in
set_option maxHeartbeats 4000000 in
theorem m_X6_gapsAnew {G : GG} {l : Launch} {a0 : Nat} {hs hs' : Hs} {o : Except Nat Int32} (h : f_X6_gapsAnew a0 hs = some (o, hs')) : CT G l yX6_gapsAnew cX6_gapsAnew 5 (some .int) 4 87 0 0 [.ref a0] hs o hs' tvI := by
  refine vx_ofW (cc := cX6_gapsAnew) (maxL := 5) (ret := (some .int)) (by decide +kernel) rfl ?_
  intro p e s m args below meth c s₁ B hml hxt hv
  obtain ⟨hav, hR, hKn⟩ := hv
  subst hav
  have hts := atoms_spec (ws := .code yX6_gapsAnew cX6_gapsAnew 5 (some .int) :: Tg) B.pre
  have C : Cx G l p s m _ c RX6 cX6_gapsAnew 5 := ⟨B.exec, B.bytes, hml, findClass_of_methodNamed B.named, fun w hw => hts w (List.mem_cons_of_mem _ hw), hKn, fun q hq => Nat.le_trans hR.2.2.1 hq⟩
  have C2 : Cy meth c (some .int) := ⟨B.returns, B.notSynchronized, hxt⟩
  have key : WG G p l e { frames := 4, cells := 0, slots := 0, locals := 87 } s m ([.ref a0] : List Value).toArray below meth c 5 0 0 (vx_MQ below (QcT G o hs' tvI) (XCT G o hs') ([.ref a0] : List Value).toArray s 0 0 (gA G)) hs [(0, va_rf (some a0))] [] 0 := by
    unfold f_X6_gapsAnew at h
    refine q_iconst C (0 : Int32) dX6_gapsAnew_0 (by decide) ?_
    refine q_istore_n C (fun v1 => [(1, .int v1), (0, va_rf (some a0))]) dX6_gapsAnew_1 (by decide) (fun _ => rfl) h (fun v1 h => ?_)
    refine q_iconst C (0 : Int32) dX6_gapsAnew_2 (by decide) ?_
    refine q_istore_n C (fun v2 => [(2, .int v2), (1, .int v1), (0, va_rf (some a0))]) dX6_gapsAnew_3 (by decide) (fun _ => rfl) h (fun v2 h => ?_)
    refine WG.sub [2, 1, 0] rfl ?_
    refine w_L_X6_gapsAnew_4 C C2 _ _ ?_ _ _ _ _ h
    · intro v18 hs h
      refine q_iload_n C 0 dX6_gapsAnew_61 rfl ?_
      exact q_iret C C2 rfl (Nat.le_of_ble_eq_true rfl) (Nat.le_of_ble_eq_true rfl) dX6_gapsAnew_62 h
  rw [lg_entry_eq]
  exact key _ _ _ hR va_S.rf ⟨lv_entry _ (n := 5) (Nat.le_of_ble_eq_true rfl), (c1_r c1_n)⟩

theorem cd_X6_lateHoursAnew : Cond.code yX6_lateHoursAnew cX6_lateHoursAnew 3 (some .int) ∈ Tg := Tg_of (i := 496) (by decide +kernel) (by decide +kernel)
section M_X6_lateHoursAnew
variable {p : Program} {l : Launch} {e : Env} {s : State} {m : MethodId} {args : Array Value} {below : List Frame} {meth : Method} {c : Code} {G : GG} {o : Except Nat Int32} {hs' : Hs}
def j_X6_lateHoursAnew_56 (a0 : Option Nat) (a2 : Int32) (s0 : Int32) (s1 : Int32) (rec_4 : Int32 → Int32 → OO Int32) : OO Int32 :=
  lets (s1 + s0) fun (v8 : Int32) =>
    lets (a2 + (1 : Int32)) fun (v9 : Int32) =>
    rec_4 v8 v9
set_option maxRecDepth 100000 in
set_option maxHeartbeats 4000000 in
theorem w_j_X6_lateHoursAnew_56 (C : Cx G l p s m args c RX6 cX6_lateHoursAnew 3) (C2 : Cy meth c (some .int)) {hs : Hs} (a0 : Option Nat) (a2 : Int32) (s0 : Int32) (s1 : Int32) (rec_4 : Int32 → Int32 → OO Int32) (hrec_4 : ∀ (y1 : Int32) (y2 : Int32) hs, rec_4 y1 y2 hs = some (o, hs') → WG G p l e { frames := 3, cells := 0, slots := 0, locals := 64 } s m args below meth c 3 0 0 (vx_MQ below (QcT G o hs' tvI) (XCT G o hs') args s 0 0 (gA G)) hs [(0, va_rf a0), (1, .int y1), (2, .int y2)] [] 4) (h : j_X6_lateHoursAnew_56 a0 a2 s0 s1 rec_4 hs = some (o, hs')) : WG G p l e { frames := 3, cells := 0, slots := 0, locals := 64 } s m args below meth c 3 0 0 (vx_MQ below (QcT G o hs' tvI) (XCT G o hs') args s 0 0 (gA G)) hs [(0, va_rf a0), (2, .int a2)] [.int s0, .int s1] 56 := by
  unfold j_X6_lateHoursAnew_56 at h
  refine q_iadd C dX6_lateHoursAnew_56 ?_
  refine q_istore_n C (fun v8 => [(1, .int v8), (0, va_rf a0), (2, .int a2)]) dX6_lateHoursAnew_57 (by decide) (fun _ => rfl) h (fun v8 h => ?_)
  refine q_iinc C 2 (1 : Int32) (fun v9 => [(2, .int v9), (1, .int v8), (0, va_rf a0)]) dX6_lateHoursAnew_58 rfl (by decide) (by decide) (fun _ => rfl) h (fun v9 h => ?_)
  refine q_goto C 4 dX6_lateHoursAnew_61 (by decide) ?_
  refine WG.sub [2, 1, 0] rfl ?_
  exact hrec_4 _ _ _ h
def L_X6_lateHoursAnew_4 (a0 : Option Nat) (k_4_64 : Int32 → OO Int32) : Nat → Int32 → Int32 → OO Int32
  | 0, _, _ => failO
  | n + 1, x1, x2 =>
    gR a0 9 2 fun v3 =>
    rcv v3 2 fun r16 => call (f_Jx4a65c_size_8abf5 r16 ) (fun (v4 : Int32) =>
    (if v4 ≤ x2 then
    k_4_64 x1
    else
    gR a0 9 2 fun v5 =>
    rcv v5 2 fun r15 => call (f_Jx4a65c_get_915e3 r15 x2) (fun (v6 : Option Nat) =>
    cst v6 7 (
    call (f_X6_isLate v6) (fun (v7 : Int32) =>
    (if v7 = 0 then
    j_X6_lateHoursAnew_56 a0 x2 (0 : Int32) x1 (L_X6_lateHoursAnew_4 a0 k_4_64 n)
    else
    gR a0 9 2 fun v10 =>
    rcv v10 2 fun r14 => call (f_Jx4a65c_get_915e3 r14 x2) (fun (v11 : Option Nat) =>
    cst v11 7 (
    gR v11 7 2 fun v12 =>
    gI v12 10 2 fun v13 =>
    j_X6_lateHoursAnew_56 a0 x2 ((1 : Int32) + v13) x1 (L_X6_lateHoursAnew_4 a0 k_4_64 n))) nox)) nox)) nox)) nox
set_option maxRecDepth 100000 in
set_option maxHeartbeats 4000000 in
theorem w_L_X6_lateHoursAnew_4 (C : Cx G l p s m args c RX6 cX6_lateHoursAnew 3) (C2 : Cy meth c (some .int)) (a0 : Option Nat) (k_4_64 : Int32 → OO Int32) (hk_4_64 : ∀ (y1 : Int32) hs, k_4_64 y1 hs = some (o, hs') → WG G p l e { frames := 3, cells := 0, slots := 0, locals := 64 } s m args below meth c 3 0 0 (vx_MQ below (QcT G o hs' tvI) (XCT G o hs') args s 0 0 (gA G)) hs [(1, .int y1)] [] 64) : ∀ (n : Nat) (x1 : Int32) (x2 : Int32) (hs : Hs), L_X6_lateHoursAnew_4 a0 k_4_64 n x1 x2 hs = some (o, hs') → WG G p l e { frames := 3, cells := 0, slots := 0, locals := 64 } s m args below meth c 3 0 0 (vx_MQ below (QcT G o hs' tvI) (XCT G o hs') args s 0 0 (gA G)) hs [(0, va_rf a0), (1, .int x1), (2, .int x2)] [] 4 := by
  intro n
  induction n with
  | zero =>
    intro x1 x2 hs h
    rw [L_X6_lateHoursAnew_4] at h
    exact absurd h failO_e
  | succ n hrec_4 =>
    intro x1 x2 hs h
    rw [L_X6_lateHoursAnew_4] at h
    refine q_iload_n C 2 dX6_lateHoursAnew_4 rfl ?_
    refine q_aload_n C 0 dX6_lateHoursAnew_5 rfl ?_
    refine q_gR C fl_X6_21 dX6_lateHoursAnew_6 h (fun v3 h => ?_)
    refine q_callV C (CN := RJx4a65c) (T := TJx4a65c) (N := 3) [] [.int x2] (fun a0 o2 hs1 hm => m_Jx4a65c_size_8abf5 hm) lk_X6_52 im_Jx4a65c_size_8abf5 se_Jx4a65c_Jx4a65c_size_8abf5 rfl ⟨(Nat.le_of_ble_eq_true rfl), (Nat.le_of_ble_eq_true rfl)⟩ ⟨(Nat.le_of_ble_eq_true rfl), (Nat.le_of_ble_eq_true rfl)⟩ rfl rfl (by simp only [List.map, cat_rf, cat_i, cat_a]; decide) dX6_lateHoursAnew_9 h (fun v4 hs h => WG_st (st' := [.int v4, .int x2]) rfl ?_)
    refine q_icmp_ge C 64 dX6_lateHoursAnew_12 (by decide) h (fun h => ?_) (fun h => ?_)
    · refine WG.sub [1] rfl ?_
      exact hk_4_64 _ _ h
    · refine q_iload_n C 1 dX6_lateHoursAnew_15 rfl ?_
      refine q_aload_n C 0 dX6_lateHoursAnew_16 rfl ?_
      refine q_gR C fl_X6_21 dX6_lateHoursAnew_17 h (fun v5 h => ?_)
      refine q_iload_n C 2 dX6_lateHoursAnew_20 rfl ?_
      refine q_callV C (CN := RJx4a65c) (T := TJx4a65c) (N := 3) [.int x2] [.int x1] (fun a0 o2 hs1 hm => m_Jx4a65c_get_915e3 hm) lk_X6_56 im_Jx4a65c_get_915e3 se_Jx4a65c_Jx4a65c_get_915e3 rfl ⟨(Nat.le_of_ble_eq_true rfl), (Nat.le_of_ble_eq_true rfl)⟩ ⟨(Nat.le_of_ble_eq_true rfl), (Nat.le_of_ble_eq_true rfl)⟩ rfl rfl (by simp only [List.map, cat_rf, cat_i, cat_a]; decide) dX6_lateHoursAnew_21 h (fun v6 hs h => WG_st (st' := [va_rf v6, .int x1]) rfl ?_)
      refine q_castS C (nm := RX4) (T := TX4) (N := 18) rfl wc_X6_32 dX6_lateHoursAnew_24 h (fun h => ?_)
      refine q_callS C [va_rf v6] [.int x1] (fun o2 hs1 hm => m_X6_isLate hm) lk_X6_157 sm_X6_isLate ⟨(Nat.le_of_ble_eq_true rfl), (Nat.le_of_ble_eq_true rfl)⟩ ⟨(Nat.le_of_ble_eq_true rfl), (Nat.le_of_ble_eq_true rfl)⟩ rfl rfl (by simp only [List.map, cat_rf, cat_i, cat_a]; decide) dX6_lateHoursAnew_27 h (fun v7 hs h => WG_st (st' := [.int v7, .int x1]) rfl ?_)
      refine q_if_eq C 55 dX6_lateHoursAnew_30 (by decide) h (fun h => ?_) (fun h => ?_)
      · refine q_iconst C (0 : Int32) dX6_lateHoursAnew_55 (by decide) ?_
        refine WG.sub [0, 2] rfl ?_
        exact w_j_X6_lateHoursAnew_56 C C2 _ _ _ _ _ hrec_4 h
      · refine q_iconst C (1 : Int32) dX6_lateHoursAnew_33 (by decide) ?_
        refine q_aload_n C 0 dX6_lateHoursAnew_34 rfl ?_
        refine q_gR C fl_X6_21 dX6_lateHoursAnew_35 h (fun v10 h => ?_)
        refine q_iload_n C 2 dX6_lateHoursAnew_38 rfl ?_
        refine q_callV C (CN := RJx4a65c) (T := TJx4a65c) (N := 3) [.int x2] [.int (1 : Int32), .int x1] (fun a0 o2 hs1 hm => m_Jx4a65c_get_915e3 hm) lk_X6_56 im_Jx4a65c_get_915e3 se_Jx4a65c_Jx4a65c_get_915e3 rfl ⟨(Nat.le_of_ble_eq_true rfl), (Nat.le_of_ble_eq_true rfl)⟩ ⟨(Nat.le_of_ble_eq_true rfl), (Nat.le_of_ble_eq_true rfl)⟩ rfl rfl (by simp only [List.map, cat_rf, cat_i, cat_a]; decide) dX6_lateHoursAnew_39 h (fun v11 hs h => WG_st (st' := [va_rf v11, .int (1 : Int32), .int x1]) rfl ?_)
        refine q_castS C (nm := RX4) (T := TX4) (N := 18) rfl wc_X6_32 dX6_lateHoursAnew_42 h (fun h => ?_)
        refine q_gR C fl_X6_150 dX6_lateHoursAnew_45 h (fun v12 h => ?_)
        refine q_gI C fl_X6_160 dX6_lateHoursAnew_48 h (fun v13 h => ?_)
        refine q_iadd C dX6_lateHoursAnew_51 ?_
        refine q_goto C 56 dX6_lateHoursAnew_52 (by decide) ?_
        refine WG.sub [0, 2] rfl ?_
        exact w_j_X6_lateHoursAnew_56 C C2 _ _ _ _ _ hrec_4 h
end M_X6_lateHoursAnew
def f_X6_lateHoursAnew (a0 : Nat) : OO Int32 :=
    lets (0 : Int32) fun (v1 : Int32) =>
    lets (0 : Int32) fun (v2 : Int32) =>
    L_X6_lateHoursAnew_4 (some a0) (fun (v17 : Int32) => rtn v17) 100000 v1 v2
set_option maxRecDepth 100000 in
set_option maxHeartbeats 4000000 in
theorem m_X6_lateHoursAnew {G : GG} {l : Launch} {a0 : Nat} {hs hs' : Hs} {o : Except Nat Int32} (h : f_X6_lateHoursAnew a0 hs = some (o, hs')) : CT G l yX6_lateHoursAnew cX6_lateHoursAnew 3 (some .int) 3 64 0 0 [.ref a0] hs o hs' tvI := by
  refine vx_ofW (cc := cX6_lateHoursAnew) (maxL := 3) (ret := (some .int)) (by decide +kernel) rfl ?_
  intro p e s m args below meth c s₁ B hml hxt hv
  obtain ⟨hav, hR, hKn⟩ := hv
  subst hav
  have hts := atoms_spec (ws := .code yX6_lateHoursAnew cX6_lateHoursAnew 3 (some .int) :: Tg) B.pre
  have C : Cx G l p s m _ c RX6 cX6_lateHoursAnew 3 := ⟨B.exec, B.bytes, hml, findClass_of_methodNamed B.named, fun w hw => hts w (List.mem_cons_of_mem _ hw), hKn, fun q hq => Nat.le_trans hR.2.2.1 hq⟩
  have C2 : Cy meth c (some .int) := ⟨B.returns, B.notSynchronized, hxt⟩
  have key : WG G p l e { frames := 3, cells := 0, slots := 0, locals := 64 } s m ([.ref a0] : List Value).toArray below meth c 3 0 0 (vx_MQ below (QcT G o hs' tvI) (XCT G o hs') ([.ref a0] : List Value).toArray s 0 0 (gA G)) hs [(0, va_rf (some a0))] [] 0 := by
    unfold f_X6_lateHoursAnew at h
    refine q_iconst C (0 : Int32) dX6_lateHoursAnew_0 (by decide) ?_
    refine q_istore_n C (fun v1 => [(1, .int v1), (0, va_rf (some a0))]) dX6_lateHoursAnew_1 (by decide) (fun _ => rfl) h (fun v1 h => ?_)
    refine q_iconst C (0 : Int32) dX6_lateHoursAnew_2 (by decide) ?_
    refine q_istore_n C (fun v2 => [(2, .int v2), (1, .int v1), (0, va_rf (some a0))]) dX6_lateHoursAnew_3 (by decide) (fun _ => rfl) h (fun v2 h => ?_)
    refine WG.sub [2, 1, 0] rfl ?_
    refine w_L_X6_lateHoursAnew_4 C C2 _ _ ?_ _ _ _ _ h
    · intro v17 hs h
      refine q_iload_n C 0 dX6_lateHoursAnew_64 rfl ?_
      exact q_iret C C2 rfl (Nat.le_of_ble_eq_true rfl) (Nat.le_of_ble_eq_true rfl) dX6_lateHoursAnew_65 h
  rw [lg_entry_eq]
  exact key _ _ _ hR va_S.rf ⟨lv_entry _ (n := 3) (Nat.le_of_ble_eq_true rfl), (c1_r c1_n)⟩

theorem cd_X6_wishesAnew : Cond.code yX6_wishesAnew cX6_wishesAnew 5 (some .int) ∈ Tg := Tg_of (i := 504) (by decide +kernel) (by decide +kernel)
theorem wf_X6_222 : Cond.fieldLink RX6 222 RX4 (TX4 4).2.1 (TX4 4).2.2.1 ∈ Tg := Tg_of (i := 904) (by decide +kernel) (by decide +kernel)
theorem fl_X6_222 : Fld RX6 222 7 4 .int := ⟨RX4, TX4, 18, RX4, rfl, by decide, wf_X6_222, (Or.inl rfl), gu_X4, tyX4_ok _ (by decide), ⟨tyX4, tyX4_ok⟩, nmX4⟩
section M_X6_wishesAnew
variable {p : Program} {l : Launch} {e : Env} {s : State} {m : MethodId} {args : Array Value} {below : List Frame} {meth : Method} {c : Code} {G : GG} {o : Except Nat Int32} {hs' : Hs}
def j_X6_wishesAnew_68 (a0 : Option Nat) (a2 : Int32) (a3 : Option Nat) (a4 : Int32) (s0 : Int32) (s1 : Int32) (rec_30 : Int32 → Int32 → OO Int32) : OO Int32 :=
  lets (s1 + s0) fun (v15 : Int32) =>
    lets (a4 + (1 : Int32)) fun (v16 : Int32) =>
    rec_30 v15 v16
set_option maxRecDepth 100000 in
set_option maxHeartbeats 4000000 in
theorem w_j_X6_wishesAnew_68 (C : Cx G l p s m args c RX6 cX6_wishesAnew 5) (C2 : Cy meth c (some .int)) {hs : Hs} (a0 : Option Nat) (a2 : Int32) (a3 : Option Nat) (a4 : Int32) (s0 : Int32) (s1 : Int32) (rec_30 : Int32 → Int32 → OO Int32) (hrec_30 : ∀ (y1 : Int32) (y4 : Int32) hs, rec_30 y1 y4 hs = some (o, hs') → WG G p l e { frames := 3, cells := 0, slots := 0, locals := 64 } s m args below meth c 5 0 0 (vx_MQ below (QcT G o hs' tvI) (XCT G o hs') args s 0 0 (gA G)) hs [(0, va_rf a0), (1, .int y1), (2, .int a2), (3, va_rf a3), (4, .int y4)] [] 30) (h : j_X6_wishesAnew_68 a0 a2 a3 a4 s0 s1 rec_30 hs = some (o, hs')) : WG G p l e { frames := 3, cells := 0, slots := 0, locals := 64 } s m args below meth c 5 0 0 (vx_MQ below (QcT G o hs' tvI) (XCT G o hs') args s 0 0 (gA G)) hs [(0, va_rf a0), (2, .int a2), (3, va_rf a3), (4, .int a4)] [.int s0, .int s1] 68 := by
  unfold j_X6_wishesAnew_68 at h
  refine q_iadd C dX6_wishesAnew_68 ?_
  refine q_istore_n C (fun v15 => [(1, .int v15), (0, va_rf a0), (2, .int a2), (3, va_rf a3), (4, .int a4)]) dX6_wishesAnew_69 (by decide) (fun _ => rfl) h (fun v15 h => ?_)
  refine q_iinc C 4 (1 : Int32) (fun v16 => [(4, .int v16), (1, .int v15), (0, va_rf a0), (2, .int a2), (3, va_rf a3)]) dX6_wishesAnew_70 rfl (by decide) (by decide) (fun _ => rfl) h (fun v16 h => ?_)
  refine q_goto C 30 dX6_wishesAnew_73 (by decide) ?_
  refine WG.sub [2, 1, 3, 4, 0] rfl ?_
  exact hrec_30 _ _ _ h
def L_X6_wishesAnew_30 (a0 : Option Nat) (a2 : Int32) (a3 : Option Nat) (k_30_76 : Int32 → OO Int32) : Nat → Int32 → Int32 → OO Int32
  | 0, _, _ => failO
  | n + 1, x1, x4 =>
    gI a3 7 4 fun v9 =>
    (if v9 ≤ x4 then
    k_30_76 x1
    else
    gR a3 7 6 fun v10 =>
    (if ¬ v10 = none then
    gR a3 7 2 fun v11 =>
    gR v11 10 0 fun v12 =>
    gI a3 7 7 fun v13 =>
    call (f_X8_at v12 (v13 + x4)) (fun (v14 : Int32) =>
    j_X6_wishesAnew_68 a0 a2 a3 x4 v14 x1 (L_X6_wishesAnew_30 a0 a2 a3 k_30_76 n)) nox
    else
    j_X6_wishesAnew_68 a0 a2 a3 x4 (0 : Int32) x1 (L_X6_wishesAnew_30 a0 a2 a3 k_30_76 n)))
set_option maxRecDepth 100000 in
set_option maxHeartbeats 4000000 in
theorem w_L_X6_wishesAnew_30 (C : Cx G l p s m args c RX6 cX6_wishesAnew 5) (C2 : Cy meth c (some .int)) (a0 : Option Nat) (a2 : Int32) (a3 : Option Nat) (k_30_76 : Int32 → OO Int32) (hk_30_76 : ∀ (y1 : Int32) hs, k_30_76 y1 hs = some (o, hs') → WG G p l e { frames := 3, cells := 0, slots := 0, locals := 64 } s m args below meth c 5 0 0 (vx_MQ below (QcT G o hs' tvI) (XCT G o hs') args s 0 0 (gA G)) hs [(0, va_rf a0), (1, .int y1), (2, .int a2)] [] 76) : ∀ (n : Nat) (x1 : Int32) (x4 : Int32) (hs : Hs), L_X6_wishesAnew_30 a0 a2 a3 k_30_76 n x1 x4 hs = some (o, hs') → WG G p l e { frames := 3, cells := 0, slots := 0, locals := 64 } s m args below meth c 5 0 0 (vx_MQ below (QcT G o hs' tvI) (XCT G o hs') args s 0 0 (gA G)) hs [(0, va_rf a0), (1, .int x1), (2, .int a2), (3, va_rf a3), (4, .int x4)] [] 30 := by
  intro n
  induction n with
  | zero =>
    intro x1 x4 hs h
    rw [L_X6_wishesAnew_30] at h
    exact absurd h failO_e
  | succ n hrec_30 =>
    intro x1 x4 hs h
    rw [L_X6_wishesAnew_30] at h
    refine q_iload C 4 dX6_wishesAnew_30 rfl ?_
    refine q_aload_n C 3 dX6_wishesAnew_32 rfl ?_
    refine q_gI C fl_X6_222 dX6_wishesAnew_33 h (fun v9 h => ?_)
    refine q_icmp_ge C 76 dX6_wishesAnew_36 (by decide) h (fun h => ?_) (fun h => ?_)
    · refine WG.sub [0, 1, 2] rfl ?_
      exact hk_30_76 _ _ h
    · refine q_iload_n C 1 dX6_wishesAnew_39 rfl ?_
      refine q_aload_n C 3 dX6_wishesAnew_40 rfl ?_
      refine q_gR C fl_X6_31 dX6_wishesAnew_41 h (fun v10 h => ?_)
      refine q_ifnonnull C 51 dX6_wishesAnew_44 (by decide) h (fun h => ?_) (fun h => ?_)
      · refine q_aload_n C 3 dX6_wishesAnew_51 rfl ?_
        refine q_gR C fl_X6_150 dX6_wishesAnew_52 h (fun v11 h => ?_)
        refine q_gR C fl_X6_145 dX6_wishesAnew_55 h (fun v12 h => ?_)
        refine q_aload_n C 3 dX6_wishesAnew_58 rfl ?_
        refine q_gI C fl_X6_37 dX6_wishesAnew_59 h (fun v13 h => ?_)
        refine q_iload C 4 dX6_wishesAnew_62 rfl ?_
        refine q_iadd C dX6_wishesAnew_64 ?_
        refine q_callSN C [va_rf v12, .int (v13 + x4)] [.int x1] (fun o2 hs1 hm => m_X8_at hm) lk_X6_134 sm_X8_at ⟨(Nat.le_of_ble_eq_true rfl), (Nat.le_of_ble_eq_true rfl)⟩ ⟨(Nat.le_of_ble_eq_true rfl), (Nat.le_of_ble_eq_true rfl)⟩ rfl rfl (by simp only [List.map, cat_rf, cat_i, cat_a]; decide) dX6_wishesAnew_65 h (fun v14 hs h => WG_st (st' := [.int v14, .int x1]) rfl ?_)
        refine WG.sub [0, 2, 3, 4] rfl ?_
        exact w_j_X6_wishesAnew_68 C C2 _ _ _ _ _ _ _ hrec_30 h
      · refine q_iconst C (0 : Int32) dX6_wishesAnew_47 (by decide) ?_
        refine q_goto C 68 dX6_wishesAnew_48 (by decide) ?_
        refine WG.sub [0, 2, 3, 4] rfl ?_
        exact w_j_X6_wishesAnew_68 C C2 _ _ _ _ _ _ _ hrec_30 h
def L_X6_wishesAnew_4 (a0 : Option Nat) (k_4_82 : Int32 → OO Int32) : Nat → Int32 → Int32 → OO Int32
  | 0, _, _ => failO
  | n + 1, x1, x2 =>
    gR a0 9 2 fun v3 =>
    rcv v3 2 fun r20 => call (f_Jx4a65c_size_8abf5 r20 ) (fun (v4 : Int32) =>
    (if v4 ≤ x2 then
    k_4_82 x1
    else
    gR a0 9 2 fun v5 =>
    rcv v5 2 fun r19 => call (f_Jx4a65c_get_915e3 r19 x2) (fun (v6 : Option Nat) =>
    cst v6 7 (
    lets v6 fun (v7 : Option Nat) =>
    lets (0 : Int32) fun (v8 : Int32) =>
    L_X6_wishesAnew_30 a0 x2 v7 (fun (v17 : Int32) => lets (x2 + (1 : Int32)) fun (v18 : Int32) =>
    (L_X6_wishesAnew_4 a0 k_4_82 n) v17 v18) 100000 x1 v8)) nox)) nox
set_option maxRecDepth 100000 in
set_option maxHeartbeats 4000000 in
theorem w_L_X6_wishesAnew_4 (C : Cx G l p s m args c RX6 cX6_wishesAnew 5) (C2 : Cy meth c (some .int)) (a0 : Option Nat) (k_4_82 : Int32 → OO Int32) (hk_4_82 : ∀ (y1 : Int32) hs, k_4_82 y1 hs = some (o, hs') → WG G p l e { frames := 3, cells := 0, slots := 0, locals := 64 } s m args below meth c 5 0 0 (vx_MQ below (QcT G o hs' tvI) (XCT G o hs') args s 0 0 (gA G)) hs [(1, .int y1)] [] 82) : ∀ (n : Nat) (x1 : Int32) (x2 : Int32) (hs : Hs), L_X6_wishesAnew_4 a0 k_4_82 n x1 x2 hs = some (o, hs') → WG G p l e { frames := 3, cells := 0, slots := 0, locals := 64 } s m args below meth c 5 0 0 (vx_MQ below (QcT G o hs' tvI) (XCT G o hs') args s 0 0 (gA G)) hs [(0, va_rf a0), (1, .int x1), (2, .int x2)] [] 4 := by
  intro n
  induction n with
  | zero =>
    intro x1 x2 hs h
    rw [L_X6_wishesAnew_4] at h
    exact absurd h failO_e
  | succ n hrec_4 =>
    intro x1 x2 hs h
    rw [L_X6_wishesAnew_4] at h
    refine q_iload_n C 2 dX6_wishesAnew_4 rfl ?_
    refine q_aload_n C 0 dX6_wishesAnew_5 rfl ?_
    refine q_gR C fl_X6_21 dX6_wishesAnew_6 h (fun v3 h => ?_)
    refine q_callV C (CN := RJx4a65c) (T := TJx4a65c) (N := 3) [] [.int x2] (fun a0 o2 hs1 hm => m_Jx4a65c_size_8abf5 hm) lk_X6_52 im_Jx4a65c_size_8abf5 se_Jx4a65c_Jx4a65c_size_8abf5 rfl ⟨(Nat.le_of_ble_eq_true rfl), (Nat.le_of_ble_eq_true rfl)⟩ ⟨(Nat.le_of_ble_eq_true rfl), (Nat.le_of_ble_eq_true rfl)⟩ rfl rfl (by simp only [List.map, cat_rf, cat_i, cat_a]; decide) dX6_wishesAnew_9 h (fun v4 hs h => WG_st (st' := [.int v4, .int x2]) rfl ?_)
    refine q_icmp_ge C 82 dX6_wishesAnew_12 (by decide) h (fun h => ?_) (fun h => ?_)
    · refine WG.sub [1] rfl ?_
      exact hk_4_82 _ _ h
    · refine q_aload_n C 0 dX6_wishesAnew_15 rfl ?_
      refine q_gR C fl_X6_21 dX6_wishesAnew_16 h (fun v5 h => ?_)
      refine q_iload_n C 2 dX6_wishesAnew_19 rfl ?_
      refine q_callV C (CN := RJx4a65c) (T := TJx4a65c) (N := 3) [.int x2] [] (fun a0 o2 hs1 hm => m_Jx4a65c_get_915e3 hm) lk_X6_56 im_Jx4a65c_get_915e3 se_Jx4a65c_Jx4a65c_get_915e3 rfl ⟨(Nat.le_of_ble_eq_true rfl), (Nat.le_of_ble_eq_true rfl)⟩ ⟨(Nat.le_of_ble_eq_true rfl), (Nat.le_of_ble_eq_true rfl)⟩ rfl rfl (by decide) dX6_wishesAnew_20 h (fun v6 hs h => WG_st (st' := [va_rf v6]) rfl ?_)
      refine q_castS C (nm := RX4) (T := TX4) (N := 18) rfl wc_X6_32 dX6_wishesAnew_23 h (fun h => ?_)
      refine q_astore_n C (fun v7 => [(3, va_rf v7), (0, va_rf a0), (1, .int x1), (2, .int x2)]) dX6_wishesAnew_26 (by decide) (fun _ => rfl) h (fun v7 h => ?_)
      refine q_iconst C (0 : Int32) dX6_wishesAnew_27 (by decide) ?_
      refine q_istore C (fun v8 => [(4, .int v8), (3, va_rf v7), (0, va_rf a0), (1, .int x1), (2, .int x2)]) dX6_wishesAnew_28 (by decide) (fun _ => rfl) h (fun v8 h => ?_)
      refine WG.sub [2, 3, 4, 1, 0] rfl ?_
      refine w_L_X6_wishesAnew_30 C C2 _ _ _ _ ?_ _ _ _ _ h
      · intro v17 hs h
        refine q_iinc C 2 (1 : Int32) (fun v18 => [(2, .int v18), (0, va_rf a0), (1, .int v17)]) dX6_wishesAnew_76 rfl (by decide) (by decide) (fun _ => rfl) h (fun v18 h => ?_)
        refine q_goto C 4 dX6_wishesAnew_79 (by decide) ?_
        refine WG.sub [1, 2, 0] rfl ?_
        exact hrec_4 _ _ _ h
end M_X6_wishesAnew
def f_X6_wishesAnew (a0 : Nat) : OO Int32 :=
    lets (0 : Int32) fun (v1 : Int32) =>
    lets (0 : Int32) fun (v2 : Int32) =>
    L_X6_wishesAnew_4 (some a0) (fun (v21 : Int32) => rtn v21) 100000 v1 v2
set_option maxRecDepth 100000 in
set_option maxHeartbeats 4000000 in
theorem m_X6_wishesAnew {G : GG} {l : Launch} {a0 : Nat} {hs hs' : Hs} {o : Except Nat Int32} (h : f_X6_wishesAnew a0 hs = some (o, hs')) : CT G l yX6_wishesAnew cX6_wishesAnew 5 (some .int) 3 64 0 0 [.ref a0] hs o hs' tvI := by
  refine vx_ofW (cc := cX6_wishesAnew) (maxL := 5) (ret := (some .int)) (by decide +kernel) rfl ?_
  intro p e s m args below meth c s₁ B hml hxt hv
  obtain ⟨hav, hR, hKn⟩ := hv
  subst hav
  have hts := atoms_spec (ws := .code yX6_wishesAnew cX6_wishesAnew 5 (some .int) :: Tg) B.pre
  have C : Cx G l p s m _ c RX6 cX6_wishesAnew 5 := ⟨B.exec, B.bytes, hml, findClass_of_methodNamed B.named, fun w hw => hts w (List.mem_cons_of_mem _ hw), hKn, fun q hq => Nat.le_trans hR.2.2.1 hq⟩
  have C2 : Cy meth c (some .int) := ⟨B.returns, B.notSynchronized, hxt⟩
  have key : WG G p l e { frames := 3, cells := 0, slots := 0, locals := 64 } s m ([.ref a0] : List Value).toArray below meth c 5 0 0 (vx_MQ below (QcT G o hs' tvI) (XCT G o hs') ([.ref a0] : List Value).toArray s 0 0 (gA G)) hs [(0, va_rf (some a0))] [] 0 := by
    unfold f_X6_wishesAnew at h
    refine q_iconst C (0 : Int32) dX6_wishesAnew_0 (by decide) ?_
    refine q_istore_n C (fun v1 => [(1, .int v1), (0, va_rf (some a0))]) dX6_wishesAnew_1 (by decide) (fun _ => rfl) h (fun v1 h => ?_)
    refine q_iconst C (0 : Int32) dX6_wishesAnew_2 (by decide) ?_
    refine q_istore_n C (fun v2 => [(2, .int v2), (1, .int v1), (0, va_rf (some a0))]) dX6_wishesAnew_3 (by decide) (fun _ => rfl) h (fun v2 h => ?_)
    refine WG.sub [2, 1, 0] rfl ?_
    refine w_L_X6_wishesAnew_4 C C2 _ _ ?_ _ _ _ _ h
    · intro v21 hs h
      refine q_iload_n C 0 dX6_wishesAnew_82 rfl ?_
      exact q_iret C C2 rfl (Nat.le_of_ble_eq_true rfl) (Nat.le_of_ble_eq_true rfl) dX6_wishesAnew_83 h
  rw [lg_entry_eq]
  exact key _ _ _ hR va_S.rf ⟨lv_entry _ (n := 5) (Nat.le_of_ble_eq_true rfl), (c1_r c1_n)⟩

theorem cd_X6_areCrowd : Cond.code yX6_areCrowd cX6_areCrowd 2 (some .boolean) ∈ Tg := Tg_of (i := 511) (by decide +kernel) (by decide +kernel)
theorem ml_X6_229 : Cond.methodLink RX6 229 yX4_isOn ∈ Tg := Tg_of (i := 512) (by decide +kernel) (by decide +kernel)
theorem lk_X6_229 : Lk RX6 229 yX4_isOn cX4_isOn 2 (some .boolean) 1 := ⟨ml_X6_229, cd_X4_isOn, iw_X4, by decide +kernel⟩
theorem wf_X6_232 : Cond.fieldLink RX6 232 RX4 (TX4 5).2.1 (TX4 5).2.2.1 ∈ Tg := Tg_of (i := 906) (by decide +kernel) (by decide +kernel)
theorem fl_X6_232 : Fld RX6 232 7 5 .int := ⟨RX4, TX4, 18, RX4, rfl, by decide, wf_X6_232, (Or.inl rfl), gu_X4, tyX4_ok _ (by decide), ⟨tyX4, tyX4_ok⟩, nmX4⟩
theorem im_X4_isOn : Cond.instanceMethod yX4_isOn ∈ Tg := Tg_of (i := 513) (by decide +kernel) (by decide +kernel)
theorem se_X4_X4_isOn : Cond.selects RX4 yX4_isOn yX4_isOn ∈ Tg := Tg_of (i := 514) (by decide +kernel) (by decide +kernel)
section M_X6_areCrowd
variable {p : Program} {l : Launch} {e : Env} {s : State} {m : MethodId} {args : Array Value} {below : List Frame} {meth : Method} {c : Code} {G : GG} {o : Except Nat Int32} {hs' : Hs}
end M_X6_areCrowd
def f_X6_areCrowd (p0 : Option Nat) (p1 : Option Nat) : OO Int32 :=
    gR p0 7 6 fun v1 =>
    (if v1 = none then
    retZ (0 : Int32)
    else
    gI p0 7 7 fun v2 =>
    dvz (6 : Int32) (
    rcv p1 7 fun r8 => call (f_X4_isOn r8 (v2 / (6 : Int32))) (fun (v3 : Int32) =>
    (if v3 = 0 then
    retZ (0 : Int32)
    else
    gR p0 7 1 fun v4 =>
    gR p1 7 1 fun v5 =>
    (if ¬ v4 = v5 then
    retZ (0 : Int32)
    else
    gI p0 7 5 fun v6 =>
    gI p1 7 5 fun v7 =>
    (if ¬ v6 = v7 then
    retZ (0 : Int32)
    else
    retZ (1 : Int32))))) nox))
set_option maxRecDepth 100000 in
set_option maxHeartbeats 4000000 in
theorem m_X6_areCrowd {G : GG} {l : Launch} {p0 : Option Nat} {p1 : Option Nat} {hs hs' : Hs} {o : Except Nat Int32} (h : f_X6_areCrowd p0 p1 hs = some (o, hs')) : CT G l yX6_areCrowd cX6_areCrowd 2 (some .boolean) 1 21 0 0 [va_rf p0, va_rf p1] hs o hs' tvI := by
  refine vx_ofW (cc := cX6_areCrowd) (maxL := 2) (ret := (some .boolean)) (by decide +kernel) rfl ?_
  intro p e s m args below meth c s₁ B hml hxt hv
  obtain ⟨hav, hR, hKn⟩ := hv
  subst hav
  have hts := atoms_spec (ws := .code yX6_areCrowd cX6_areCrowd 2 (some .boolean) :: Tg) B.pre
  have C : Cx G l p s m _ c RX6 cX6_areCrowd 2 := ⟨B.exec, B.bytes, hml, findClass_of_methodNamed B.named, fun w hw => hts w (List.mem_cons_of_mem _ hw), hKn, fun q hq => Nat.le_trans hR.2.2.1 hq⟩
  have C2 : Cy meth c (some .boolean) := ⟨B.returns, B.notSynchronized, hxt⟩
  have key : WG G p l e { frames := 1, cells := 0, slots := 0, locals := 21 } s m ([va_rf p0, va_rf p1] : List Value).toArray below meth c 2 0 0 (vx_MQ below (QcT G o hs' tvI) (XCT G o hs') ([va_rf p0, va_rf p1] : List Value).toArray s 0 0 (gA G)) hs [(0, va_rf p0), (1, va_rf p1)] [] 0 := by
    unfold f_X6_areCrowd at h
    refine q_aload_n C 0 dX6_areCrowd_0 rfl ?_
    refine q_gR C fl_X6_31 dX6_areCrowd_1 h (fun v1 h => ?_)
    refine q_ifnull C 47 dX6_areCrowd_4 (by decide) h (fun h => ?_) (fun h => ?_)
    · refine q_iconst C (0 : Int32) dX6_areCrowd_47 (by decide) ?_
      exact q_zret C C2 rfl (Nat.le_of_ble_eq_true rfl) (Nat.le_of_ble_eq_true rfl) dX6_areCrowd_48 h
    · refine q_aload_n C 1 dX6_areCrowd_7 rfl ?_
      refine q_aload_n C 0 dX6_areCrowd_8 rfl ?_
      refine q_gI C fl_X6_37 dX6_areCrowd_9 h (fun v2 h => ?_)
      refine q_bipush C (6 : Int32) dX6_areCrowd_12 (by decide) ?_
      refine q_idiv C dX6_areCrowd_14 h (fun h => ?_)
      refine q_callV C (CN := RX4) (T := TX4) (N := 18) [.int (v2 / (6 : Int32))] [] (fun a0 o2 hs1 hm => m_X4_isOn hm) lk_X6_229 im_X4_isOn se_X4_X4_isOn rfl ⟨(Nat.le_of_ble_eq_true rfl), (Nat.le_of_ble_eq_true rfl)⟩ ⟨(Nat.le_of_ble_eq_true rfl), (Nat.le_of_ble_eq_true rfl)⟩ rfl rfl (by decide) dX6_areCrowd_15 h (fun v3 hs h => WG_st (st' := [.int v3]) rfl ?_)
      refine q_if_eq C 47 dX6_areCrowd_18 (by decide) h (fun h => ?_) (fun h => ?_)
      · refine q_iconst C (0 : Int32) dX6_areCrowd_47 (by decide) ?_
        exact q_zret C C2 rfl (Nat.le_of_ble_eq_true rfl) (Nat.le_of_ble_eq_true rfl) dX6_areCrowd_48 h
      · refine q_aload_n C 0 dX6_areCrowd_21 rfl ?_
        refine q_gR C fl_X6_218 dX6_areCrowd_22 h (fun v4 h => ?_)
        refine q_aload_n C 1 dX6_areCrowd_25 rfl ?_
        refine q_gR C fl_X6_218 dX6_areCrowd_26 h (fun v5 h => ?_)
        refine q_acmp_ne C 47 dX6_areCrowd_29 (by decide) h (fun h => ?_) (fun h => ?_)
        · refine q_iconst C (0 : Int32) dX6_areCrowd_47 (by decide) ?_
          exact q_zret C C2 rfl (Nat.le_of_ble_eq_true rfl) (Nat.le_of_ble_eq_true rfl) dX6_areCrowd_48 h
        · refine q_aload_n C 0 dX6_areCrowd_32 rfl ?_
          refine q_gI C fl_X6_232 dX6_areCrowd_33 h (fun v6 h => ?_)
          refine q_aload_n C 1 dX6_areCrowd_36 rfl ?_
          refine q_gI C fl_X6_232 dX6_areCrowd_37 h (fun v7 h => ?_)
          refine q_icmp_ne C 47 dX6_areCrowd_40 (by decide) h (fun h => ?_) (fun h => ?_)
          · refine q_iconst C (0 : Int32) dX6_areCrowd_47 (by decide) ?_
            exact q_zret C C2 rfl (Nat.le_of_ble_eq_true rfl) (Nat.le_of_ble_eq_true rfl) dX6_areCrowd_48 h
          · refine q_iconst C (1 : Int32) dX6_areCrowd_43 (by decide) ?_
            refine q_goto C 48 dX6_areCrowd_44 (by decide) ?_
            exact q_zret C C2 rfl (Nat.le_of_ble_eq_true rfl) (Nat.le_of_ble_eq_true rfl) dX6_areCrowd_48 h
  rw [lg_entry_eq]
  cases p0 <;> cases p1 <;> exact key _ _ _ hR va_S.rf ⟨lv_entry _ (n := 2) (Nat.le_of_ble_eq_true rfl), (c1_r (c1_r c1_n))⟩

theorem cd_X6_crowdsAnew : Cond.code yX6_crowdsAnew cX6_crowdsAnew 4 (some .int) ∈ Tg := Tg_of (i := 508) (by decide +kernel) (by decide +kernel)
theorem ml_X6_225 : Cond.methodLink RX6 225 yX6_areCrowd ∈ Tg := Tg_of (i := 509) (by decide +kernel) (by decide +kernel)
theorem lk_X6_225 : Lk RX6 225 yX6_areCrowd cX6_areCrowd 2 (some .boolean) 2 := ⟨ml_X6_225, cd_X6_areCrowd, iw_X6, by decide +kernel⟩
theorem sm_X6_areCrowd : Cond.static yX6_areCrowd ∈ Tg := Tg_of (i := 510) (by decide +kernel) (by decide +kernel)
section M_X6_crowdsAnew
variable {p : Program} {l : Launch} {e : Env} {s : State} {m : MethodId} {args : Array Value} {below : List Frame} {meth : Method} {c : Code} {G : GG} {o : Except Nat Int32} {hs' : Hs}
def j_X6_crowdsAnew_56 (a0 : Option Nat) (a2 : Int32) (a3 : Int32) (s0 : Int32) (s1 : Int32) (rec_17 : Int32 → Int32 → OO Int32) : OO Int32 :=
  lets (s1 + s0) fun (v11 : Int32) =>
    lets (a3 + (1 : Int32)) fun (v12 : Int32) =>
    rec_17 v11 v12
set_option maxRecDepth 100000 in
set_option maxHeartbeats 4000000 in
theorem w_j_X6_crowdsAnew_56 (C : Cx G l p s m args c RX6 cX6_crowdsAnew 4) (C2 : Cy meth c (some .int)) {hs : Hs} (a0 : Option Nat) (a2 : Int32) (a3 : Int32) (s0 : Int32) (s1 : Int32) (rec_17 : Int32 → Int32 → OO Int32) (hrec_17 : ∀ (y1 : Int32) (y3 : Int32) hs, rec_17 y1 y3 hs = some (o, hs') → WG G p l e { frames := 3, cells := 0, slots := 0, locals := 64 } s m args below meth c 4 0 0 (vx_MQ below (QcT G o hs' tvI) (XCT G o hs') args s 0 0 (gA G)) hs [(0, va_rf a0), (1, .int y1), (2, .int a2), (3, .int y3)] [] 17) (h : j_X6_crowdsAnew_56 a0 a2 a3 s0 s1 rec_17 hs = some (o, hs')) : WG G p l e { frames := 3, cells := 0, slots := 0, locals := 64 } s m args below meth c 4 0 0 (vx_MQ below (QcT G o hs' tvI) (XCT G o hs') args s 0 0 (gA G)) hs [(0, va_rf a0), (2, .int a2), (3, .int a3)] [.int s0, .int s1] 56 := by
  unfold j_X6_crowdsAnew_56 at h
  refine q_iadd C dX6_crowdsAnew_56 ?_
  refine q_istore_n C (fun v11 => [(1, .int v11), (0, va_rf a0), (2, .int a2), (3, .int a3)]) dX6_crowdsAnew_57 (by decide) (fun _ => rfl) h (fun v11 h => ?_)
  refine q_iinc C 3 (1 : Int32) (fun v12 => [(3, .int v12), (1, .int v11), (0, va_rf a0), (2, .int a2)]) dX6_crowdsAnew_58 rfl (by decide) (by decide) (fun _ => rfl) h (fun v12 h => ?_)
  refine q_goto C 17 dX6_crowdsAnew_61 (by decide) ?_
  refine WG.sub [2, 1, 3, 0] rfl ?_
  exact hrec_17 _ _ _ h
def L_X6_crowdsAnew_17 (a0 : Option Nat) (a2 : Int32) (k_17_64 : Int32 → OO Int32) : Nat → Int32 → Int32 → OO Int32
  | 0, _, _ => failO
  | n + 1, x1, x3 =>
    (if a2 ≤ x3 then
    k_17_64 x1
    else
    gR a0 9 2 fun v6 =>
    rcv v6 2 fun r14 => call (f_Jx4a65c_get_915e3 r14 a2) (fun (v7 : Option Nat) =>
    cst v7 7 (
    gR a0 9 2 fun v8 =>
    rcv v8 2 fun r13 => call (f_Jx4a65c_get_915e3 r13 x3) (fun (v9 : Option Nat) =>
    cst v9 7 (
    call (f_X6_areCrowd v7 v9) (fun (v10 : Int32) =>
    (if v10 = 0 then
    j_X6_crowdsAnew_56 a0 a2 x3 (0 : Int32) x1 (L_X6_crowdsAnew_17 a0 a2 k_17_64 n)
    else
    j_X6_crowdsAnew_56 a0 a2 x3 (1 : Int32) x1 (L_X6_crowdsAnew_17 a0 a2 k_17_64 n))) nox)) nox)) nox)
set_option maxRecDepth 100000 in
set_option maxHeartbeats 4000000 in
theorem w_L_X6_crowdsAnew_17 (C : Cx G l p s m args c RX6 cX6_crowdsAnew 4) (C2 : Cy meth c (some .int)) (a0 : Option Nat) (a2 : Int32) (k_17_64 : Int32 → OO Int32) (hk_17_64 : ∀ (y1 : Int32) hs, k_17_64 y1 hs = some (o, hs') → WG G p l e { frames := 3, cells := 0, slots := 0, locals := 64 } s m args below meth c 4 0 0 (vx_MQ below (QcT G o hs' tvI) (XCT G o hs') args s 0 0 (gA G)) hs [(0, va_rf a0), (1, .int y1), (2, .int a2)] [] 64) : ∀ (n : Nat) (x1 : Int32) (x3 : Int32) (hs : Hs), L_X6_crowdsAnew_17 a0 a2 k_17_64 n x1 x3 hs = some (o, hs') → WG G p l e { frames := 3, cells := 0, slots := 0, locals := 64 } s m args below meth c 4 0 0 (vx_MQ below (QcT G o hs' tvI) (XCT G o hs') args s 0 0 (gA G)) hs [(0, va_rf a0), (1, .int x1), (2, .int a2), (3, .int x3)] [] 17 := by
  intro n
  induction n with
  | zero =>
    intro x1 x3 hs h
    rw [L_X6_crowdsAnew_17] at h
    exact absurd h failO_e
  | succ n hrec_17 =>
    intro x1 x3 hs h
    rw [L_X6_crowdsAnew_17] at h
    refine q_iload_n C 3 dX6_crowdsAnew_17 rfl ?_
    refine q_iload_n C 2 dX6_crowdsAnew_18 rfl ?_
    refine q_icmp_ge C 64 dX6_crowdsAnew_19 (by decide) h (fun h => ?_) (fun h => ?_)
    · refine WG.sub [0, 1, 2] rfl ?_
      exact hk_17_64 _ _ h
    · refine q_iload_n C 1 dX6_crowdsAnew_22 rfl ?_
      refine q_aload_n C 0 dX6_crowdsAnew_23 rfl ?_
      refine q_gR C fl_X6_21 dX6_crowdsAnew_24 h (fun v6 h => ?_)
      refine q_iload_n C 2 dX6_crowdsAnew_27 rfl ?_
      refine q_callV C (CN := RJx4a65c) (T := TJx4a65c) (N := 3) [.int a2] [.int x1] (fun a0 o2 hs1 hm => m_Jx4a65c_get_915e3 hm) lk_X6_56 im_Jx4a65c_get_915e3 se_Jx4a65c_Jx4a65c_get_915e3 rfl ⟨(Nat.le_of_ble_eq_true rfl), (Nat.le_of_ble_eq_true rfl)⟩ ⟨(Nat.le_of_ble_eq_true rfl), (Nat.le_of_ble_eq_true rfl)⟩ rfl rfl (by simp only [List.map, cat_rf, cat_i, cat_a]; decide) dX6_crowdsAnew_28 h (fun v7 hs h => WG_st (st' := [va_rf v7, .int x1]) rfl ?_)
      refine q_castS C (nm := RX4) (T := TX4) (N := 18) rfl wc_X6_32 dX6_crowdsAnew_31 h (fun h => ?_)
      refine q_aload_n C 0 dX6_crowdsAnew_34 rfl ?_
      refine q_gR C fl_X6_21 dX6_crowdsAnew_35 h (fun v8 h => ?_)
      refine q_iload_n C 3 dX6_crowdsAnew_38 rfl ?_
      refine q_callV C (CN := RJx4a65c) (T := TJx4a65c) (N := 3) [.int x3] [va_rf v7, .int x1] (fun a0 o2 hs1 hm => m_Jx4a65c_get_915e3 hm) lk_X6_56 im_Jx4a65c_get_915e3 se_Jx4a65c_Jx4a65c_get_915e3 rfl ⟨(Nat.le_of_ble_eq_true rfl), (Nat.le_of_ble_eq_true rfl)⟩ ⟨(Nat.le_of_ble_eq_true rfl), (Nat.le_of_ble_eq_true rfl)⟩ rfl rfl (by simp only [List.map, cat_rf, cat_i, cat_a]; decide) dX6_crowdsAnew_39 h (fun v9 hs h => WG_st (st' := [va_rf v9, va_rf v7, .int x1]) rfl ?_)
      refine q_castS C (nm := RX4) (T := TX4) (N := 18) rfl wc_X6_32 dX6_crowdsAnew_42 h (fun h => ?_)
      refine q_callS C [va_rf v7, va_rf v9] [.int x1] (fun o2 hs1 hm => m_X6_areCrowd hm) lk_X6_225 sm_X6_areCrowd ⟨(Nat.le_of_ble_eq_true rfl), (Nat.le_of_ble_eq_true rfl)⟩ ⟨(Nat.le_of_ble_eq_true rfl), (Nat.le_of_ble_eq_true rfl)⟩ rfl rfl (by simp only [List.map, cat_rf, cat_i, cat_a]; decide) dX6_crowdsAnew_45 h (fun v10 hs h => WG_st (st' := [.int v10, .int x1]) rfl ?_)
      refine q_if_eq C 55 dX6_crowdsAnew_48 (by decide) h (fun h => ?_) (fun h => ?_)
      · refine q_iconst C (0 : Int32) dX6_crowdsAnew_55 (by decide) ?_
        refine WG.sub [0, 2, 3] rfl ?_
        exact w_j_X6_crowdsAnew_56 C C2 _ _ _ _ _ _ hrec_17 h
      · refine q_iconst C (1 : Int32) dX6_crowdsAnew_51 (by decide) ?_
        refine q_goto C 56 dX6_crowdsAnew_52 (by decide) ?_
        refine WG.sub [0, 2, 3] rfl ?_
        exact w_j_X6_crowdsAnew_56 C C2 _ _ _ _ _ _ hrec_17 h
def L_X6_crowdsAnew_4 (a0 : Option Nat) (k_4_70 : Int32 → OO Int32) : Nat → Int32 → Int32 → OO Int32
  | 0, _, _ => failO
  | n + 1, x1, x2 =>
    gR a0 9 2 fun v3 =>
    rcv v3 2 fun r17 => call (f_Jx4a65c_size_8abf5 r17 ) (fun (v4 : Int32) =>
    (if v4 ≤ x2 then
    k_4_70 x1
    else
    lets (0 : Int32) fun (v5 : Int32) =>
    L_X6_crowdsAnew_17 a0 x2 (fun (v15 : Int32) => lets (x2 + (1 : Int32)) fun (v16 : Int32) =>
    (L_X6_crowdsAnew_4 a0 k_4_70 n) v15 v16) 100000 x1 v5)) nox
set_option maxRecDepth 100000 in
set_option maxHeartbeats 4000000 in
theorem w_L_X6_crowdsAnew_4 (C : Cx G l p s m args c RX6 cX6_crowdsAnew 4) (C2 : Cy meth c (some .int)) (a0 : Option Nat) (k_4_70 : Int32 → OO Int32) (hk_4_70 : ∀ (y1 : Int32) hs, k_4_70 y1 hs = some (o, hs') → WG G p l e { frames := 3, cells := 0, slots := 0, locals := 64 } s m args below meth c 4 0 0 (vx_MQ below (QcT G o hs' tvI) (XCT G o hs') args s 0 0 (gA G)) hs [(1, .int y1)] [] 70) : ∀ (n : Nat) (x1 : Int32) (x2 : Int32) (hs : Hs), L_X6_crowdsAnew_4 a0 k_4_70 n x1 x2 hs = some (o, hs') → WG G p l e { frames := 3, cells := 0, slots := 0, locals := 64 } s m args below meth c 4 0 0 (vx_MQ below (QcT G o hs' tvI) (XCT G o hs') args s 0 0 (gA G)) hs [(0, va_rf a0), (1, .int x1), (2, .int x2)] [] 4 := by
  intro n
  induction n with
  | zero =>
    intro x1 x2 hs h
    rw [L_X6_crowdsAnew_4] at h
    exact absurd h failO_e
  | succ n hrec_4 =>
    intro x1 x2 hs h
    rw [L_X6_crowdsAnew_4] at h
    refine q_iload_n C 2 dX6_crowdsAnew_4 rfl ?_
    refine q_aload_n C 0 dX6_crowdsAnew_5 rfl ?_
    refine q_gR C fl_X6_21 dX6_crowdsAnew_6 h (fun v3 h => ?_)
    refine q_callV C (CN := RJx4a65c) (T := TJx4a65c) (N := 3) [] [.int x2] (fun a0 o2 hs1 hm => m_Jx4a65c_size_8abf5 hm) lk_X6_52 im_Jx4a65c_size_8abf5 se_Jx4a65c_Jx4a65c_size_8abf5 rfl ⟨(Nat.le_of_ble_eq_true rfl), (Nat.le_of_ble_eq_true rfl)⟩ ⟨(Nat.le_of_ble_eq_true rfl), (Nat.le_of_ble_eq_true rfl)⟩ rfl rfl (by simp only [List.map, cat_rf, cat_i, cat_a]; decide) dX6_crowdsAnew_9 h (fun v4 hs h => WG_st (st' := [.int v4, .int x2]) rfl ?_)
    refine q_icmp_ge C 70 dX6_crowdsAnew_12 (by decide) h (fun h => ?_) (fun h => ?_)
    · refine WG.sub [1] rfl ?_
      exact hk_4_70 _ _ h
    · refine q_iconst C (0 : Int32) dX6_crowdsAnew_15 (by decide) ?_
      refine q_istore_n C (fun v5 => [(3, .int v5), (0, va_rf a0), (1, .int x1), (2, .int x2)]) dX6_crowdsAnew_16 (by decide) (fun _ => rfl) h (fun v5 h => ?_)
      refine WG.sub [1, 2, 3, 0] rfl ?_
      refine w_L_X6_crowdsAnew_17 C C2 _ _ _ ?_ _ _ _ _ h
      · intro v15 hs h
        refine q_iinc C 2 (1 : Int32) (fun v16 => [(2, .int v16), (0, va_rf a0), (1, .int v15)]) dX6_crowdsAnew_64 rfl (by decide) (by decide) (fun _ => rfl) h (fun v16 h => ?_)
        refine q_goto C 4 dX6_crowdsAnew_67 (by decide) ?_
        refine WG.sub [1, 2, 0] rfl ?_
        exact hrec_4 _ _ _ h
end M_X6_crowdsAnew
def f_X6_crowdsAnew (a0 : Nat) : OO Int32 :=
    lets (0 : Int32) fun (v1 : Int32) =>
    lets (0 : Int32) fun (v2 : Int32) =>
    L_X6_crowdsAnew_4 (some a0) (fun (v18 : Int32) => rtn v18) 100000 v1 v2
set_option maxRecDepth 100000 in
set_option maxHeartbeats 4000000 in
theorem m_X6_crowdsAnew {G : GG} {l : Launch} {a0 : Nat} {hs hs' : Hs} {o : Except Nat Int32} (h : f_X6_crowdsAnew a0 hs = some (o, hs')) : CT G l yX6_crowdsAnew cX6_crowdsAnew 4 (some .int) 3 64 0 0 [.ref a0] hs o hs' tvI := by
  refine vx_ofW (cc := cX6_crowdsAnew) (maxL := 4) (ret := (some .int)) (by decide +kernel) rfl ?_
  intro p e s m args below meth c s₁ B hml hxt hv
  obtain ⟨hav, hR, hKn⟩ := hv
  subst hav
  have hts := atoms_spec (ws := .code yX6_crowdsAnew cX6_crowdsAnew 4 (some .int) :: Tg) B.pre
  have C : Cx G l p s m _ c RX6 cX6_crowdsAnew 4 := ⟨B.exec, B.bytes, hml, findClass_of_methodNamed B.named, fun w hw => hts w (List.mem_cons_of_mem _ hw), hKn, fun q hq => Nat.le_trans hR.2.2.1 hq⟩
  have C2 : Cy meth c (some .int) := ⟨B.returns, B.notSynchronized, hxt⟩
  have key : WG G p l e { frames := 3, cells := 0, slots := 0, locals := 64 } s m ([.ref a0] : List Value).toArray below meth c 4 0 0 (vx_MQ below (QcT G o hs' tvI) (XCT G o hs') ([.ref a0] : List Value).toArray s 0 0 (gA G)) hs [(0, va_rf (some a0))] [] 0 := by
    unfold f_X6_crowdsAnew at h
    refine q_iconst C (0 : Int32) dX6_crowdsAnew_0 (by decide) ?_
    refine q_istore_n C (fun v1 => [(1, .int v1), (0, va_rf (some a0))]) dX6_crowdsAnew_1 (by decide) (fun _ => rfl) h (fun v1 h => ?_)
    refine q_iconst C (0 : Int32) dX6_crowdsAnew_2 (by decide) ?_
    refine q_istore_n C (fun v2 => [(2, .int v2), (1, .int v1), (0, va_rf (some a0))]) dX6_crowdsAnew_3 (by decide) (fun _ => rfl) h (fun v2 h => ?_)
    refine WG.sub [2, 1, 0] rfl ?_
    refine w_L_X6_crowdsAnew_4 C C2 _ _ ?_ _ _ _ _ h
    · intro v18 hs h
      refine q_iload_n C 0 dX6_crowdsAnew_70 rfl ?_
      exact q_iret C C2 rfl (Nat.le_of_ble_eq_true rfl) (Nat.le_of_ble_eq_true rfl) dX6_crowdsAnew_71 h
  rw [lg_entry_eq]
  exact key _ _ _ hR va_S.rf ⟨lv_entry _ (n := 4) (Nat.le_of_ble_eq_true rfl), (c1_r c1_n)⟩

theorem cd_X6_amountAnew : Cond.code yX6_amountAnew cX6_amountAnew 2 (some .int) ∈ Tg := Tg_of (i := 476) (by decide +kernel) (by decide +kernel)
theorem ml_X6_206 : Cond.methodLink RX6 206 yX6_crowdsAnew ∈ Tg := Tg_of (i := 505) (by decide +kernel) (by decide +kernel)
theorem lk_X6_206 : Lk RX6 206 yX6_crowdsAnew cX6_crowdsAnew 4 (some .int) 0 := ⟨ml_X6_206, cd_X6_crowdsAnew, iw_X6, by decide +kernel⟩
theorem im_X6_crowdsAnew : Cond.instanceMethod yX6_crowdsAnew ∈ Tg := Tg_of (i := 507) (by decide +kernel) (by decide +kernel)
theorem se_X6_X6_crowdsAnew : Cond.selects RX6 yX6_crowdsAnew yX6_crowdsAnew ∈ Tg := Tg_of (i := 14) (by decide +kernel) (by decide +kernel)
theorem ml_X6_203 : Cond.methodLink RX6 203 yX6_wishesAnew ∈ Tg := Tg_of (i := 501) (by decide +kernel) (by decide +kernel)
theorem lk_X6_203 : Lk RX6 203 yX6_wishesAnew cX6_wishesAnew 5 (some .int) 0 := ⟨ml_X6_203, cd_X6_wishesAnew, iw_X6, by decide +kernel⟩
theorem im_X6_wishesAnew : Cond.instanceMethod yX6_wishesAnew ∈ Tg := Tg_of (i := 503) (by decide +kernel) (by decide +kernel)
theorem se_X6_X6_wishesAnew : Cond.selects RX6 yX6_wishesAnew yX6_wishesAnew ∈ Tg := Tg_of (i := 13) (by decide +kernel) (by decide +kernel)
theorem ml_X6_200 : Cond.methodLink RX6 200 yX6_lateHoursAnew ∈ Tg := Tg_of (i := 493) (by decide +kernel) (by decide +kernel)
theorem lk_X6_200 : Lk RX6 200 yX6_lateHoursAnew cX6_lateHoursAnew 3 (some .int) 0 := ⟨ml_X6_200, cd_X6_lateHoursAnew, iw_X6, by decide +kernel⟩
theorem im_X6_lateHoursAnew : Cond.instanceMethod yX6_lateHoursAnew ∈ Tg := Tg_of (i := 495) (by decide +kernel) (by decide +kernel)
theorem se_X6_X6_lateHoursAnew : Cond.selects RX6 yX6_lateHoursAnew yX6_lateHoursAnew ∈ Tg := Tg_of (i := 12) (by decide +kernel) (by decide +kernel)
theorem ml_X6_197 : Cond.methodLink RX6 197 yX6_gapsAnew ∈ Tg := Tg_of (i := 477) (by decide +kernel) (by decide +kernel)
theorem lk_X6_197 : Lk RX6 197 yX6_gapsAnew cX6_gapsAnew 5 (some .int) 0 := ⟨ml_X6_197, cd_X6_gapsAnew, iw_X6, by decide +kernel⟩
theorem im_X6_gapsAnew : Cond.instanceMethod yX6_gapsAnew ∈ Tg := Tg_of (i := 479) (by decide +kernel) (by decide +kernel)
theorem se_X6_X6_gapsAnew : Cond.selects RX6 yX6_gapsAnew yX6_gapsAnew ∈ Tg := Tg_of (i := 10) (by decide +kernel) (by decide +kernel)
section M_X6_amountAnew
variable {p : Program} {l : Launch} {e : Env} {s : State} {m : MethodId} {args : Array Value} {below : List Frame} {meth : Method} {c : Code} {G : GG} {o : Except Nat Int32} {hs' : Hs}
end M_X6_amountAnew
def f_X6_amountAnew (a0 : Nat) (p1 : Int32) : OO Int32 :=
    (if p1 = (0 : Int32) then
    rcv (some a0) 9 fun r8 => call (f_X6_gapsAnew r8 ) (fun (v7 : Int32) =>
    rtn v7) nox
    else
    (if p1 = (1 : Int32) then
    rcv (some a0) 9 fun r6 => call (f_X6_lateHoursAnew r6 ) (fun (v5 : Int32) =>
    rtn v5) nox
    else
    (if p1 = (2 : Int32) then
    rcv (some a0) 9 fun r4 => call (f_X6_wishesAnew r4 ) (fun (v3 : Int32) =>
    rtn v3) nox
    else
    (if p1 = (3 : Int32) then
    rcv (some a0) 9 fun r2 => call (f_X6_crowdsAnew r2 ) (fun (v1 : Int32) =>
    rtn v1) nox
    else
    rtn (0 : Int32)))))
set_option maxRecDepth 100000 in
set_option maxHeartbeats 4000000 in
theorem m_X6_amountAnew {G : GG} {l : Launch} {a0 : Nat} {p1 : Int32} {hs hs' : Hs} {o : Except Nat Int32} (h : f_X6_amountAnew a0 p1 hs = some (o, hs')) : CT G l yX6_amountAnew cX6_amountAnew 2 (some .int) 5 111 0 0 [.ref a0, .int p1] hs o hs' tvI := by
  refine vx_ofW (cc := cX6_amountAnew) (maxL := 2) (ret := (some .int)) (by decide +kernel) rfl ?_
  intro p e s m args below meth c s₁ B hml hxt hv
  obtain ⟨hav, hR, hKn⟩ := hv
  subst hav
  have hts := atoms_spec (ws := .code yX6_amountAnew cX6_amountAnew 2 (some .int) :: Tg) B.pre
  have C : Cx G l p s m _ c RX6 cX6_amountAnew 2 := ⟨B.exec, B.bytes, hml, findClass_of_methodNamed B.named, fun w hw => hts w (List.mem_cons_of_mem _ hw), hKn, fun q hq => Nat.le_trans hR.2.2.1 hq⟩
  have C2 : Cy meth c (some .int) := ⟨B.returns, B.notSynchronized, hxt⟩
  have key : WG G p l e { frames := 5, cells := 0, slots := 0, locals := 111 } s m ([.ref a0, .int p1] : List Value).toArray below meth c 2 0 0 (vx_MQ below (QcT G o hs' tvI) (XCT G o hs') ([.ref a0, .int p1] : List Value).toArray s 0 0 (gA G)) hs [(0, va_rf (some a0)), (1, .int p1)] [] 0 := by
    unfold f_X6_amountAnew at h
    refine q_iload_n C 1 dX6_amountAnew_0 rfl ?_
    refine q_case h (fun c0 h => ?_) (fun c0 h => ?_)
    · refine q_tswI C (off := 31) 32 dX6_amountAnew_1 c0 (by decide) (by decide) (by decide) (by decide) ?_
      refine q_aload_n C 0 dX6_amountAnew_32 rfl ?_
      refine q_callV C (CN := RX6) (T := TX6) (N := 6) [] [] (fun a0 o2 hs1 hm => m_X6_gapsAnew hm) lk_X6_197 im_X6_gapsAnew se_X6_X6_gapsAnew rfl ⟨(Nat.le_of_ble_eq_true rfl), (Nat.le_of_ble_eq_true rfl)⟩ ⟨(Nat.le_of_ble_eq_true rfl), (Nat.le_of_ble_eq_true rfl)⟩ rfl rfl (by decide) dX6_amountAnew_33 h (fun v7 hs h => WG_st (st' := [.int v7]) rfl ?_)
      exact q_iret C C2 rfl (Nat.le_of_ble_eq_true rfl) (Nat.le_of_ble_eq_true rfl) dX6_amountAnew_36 h
    · refine q_case h (fun c1 h => ?_) (fun c1 h => ?_)
      · refine q_tswI C (off := 36) 37 dX6_amountAnew_1 c1 (by decide) (by decide) (by decide) (by decide) ?_
        refine q_aload_n C 0 dX6_amountAnew_37 rfl ?_
        refine q_callV C (CN := RX6) (T := TX6) (N := 6) [] [] (fun a0 o2 hs1 hm => m_X6_lateHoursAnew hm) lk_X6_200 im_X6_lateHoursAnew se_X6_X6_lateHoursAnew rfl ⟨(Nat.le_of_ble_eq_true rfl), (Nat.le_of_ble_eq_true rfl)⟩ ⟨(Nat.le_of_ble_eq_true rfl), (Nat.le_of_ble_eq_true rfl)⟩ rfl rfl (by decide) dX6_amountAnew_38 h (fun v5 hs h => WG_st (st' := [.int v5]) rfl ?_)
        exact q_iret C C2 rfl (Nat.le_of_ble_eq_true rfl) (Nat.le_of_ble_eq_true rfl) dX6_amountAnew_41 h
      · refine q_case h (fun c2 h => ?_) (fun c2 h => ?_)
        · refine q_tswI C (off := 41) 42 dX6_amountAnew_1 c2 (by decide) (by decide) (by decide) (by decide) ?_
          refine q_aload_n C 0 dX6_amountAnew_42 rfl ?_
          refine q_callV C (CN := RX6) (T := TX6) (N := 6) [] [] (fun a0 o2 hs1 hm => m_X6_wishesAnew hm) lk_X6_203 im_X6_wishesAnew se_X6_X6_wishesAnew rfl ⟨(Nat.le_of_ble_eq_true rfl), (Nat.le_of_ble_eq_true rfl)⟩ ⟨(Nat.le_of_ble_eq_true rfl), (Nat.le_of_ble_eq_true rfl)⟩ rfl rfl (by decide) dX6_amountAnew_43 h (fun v3 hs h => WG_st (st' := [.int v3]) rfl ?_)
          exact q_iret C C2 rfl (Nat.le_of_ble_eq_true rfl) (Nat.le_of_ble_eq_true rfl) dX6_amountAnew_46 h
        · refine q_case h (fun c3 h => ?_) (fun c3 h => ?_)
          · refine q_tswI C (off := 46) 47 dX6_amountAnew_1 c3 (by decide) (by decide) (by decide) (by decide) ?_
            refine q_aload_n C 0 dX6_amountAnew_47 rfl ?_
            refine q_callV C (CN := RX6) (T := TX6) (N := 6) [] [] (fun a0 o2 hs1 hm => m_X6_crowdsAnew hm) lk_X6_206 im_X6_crowdsAnew se_X6_X6_crowdsAnew rfl ⟨(Nat.le_of_ble_eq_true rfl), (Nat.le_of_ble_eq_true rfl)⟩ ⟨(Nat.le_of_ble_eq_true rfl), (Nat.le_of_ble_eq_true rfl)⟩ rfl rfl (by decide) dX6_amountAnew_48 h (fun v1 hs h => WG_st (st' := [.int v1]) rfl ?_)
            exact q_iret C C2 rfl (Nat.le_of_ble_eq_true rfl) (Nat.le_of_ble_eq_true rfl) dX6_amountAnew_51 h
          · refine q_tswO C 52 dX6_amountAnew_1 (by have z0 := tsw_ne (k := 0) (by decide) c0; have z1 := tsw_ne (k := 1) (by decide) c1; have z2 := tsw_ne (k := 2) (by decide) c2; have z3 := tsw_ne (k := 3) (by decide) c3; omega) (by decide) ?_
            refine q_iconst C (0 : Int32) dX6_amountAnew_52 (by decide) ?_
            exact q_iret C C2 rfl (Nat.le_of_ble_eq_true rfl) (Nat.le_of_ble_eq_true rfl) dX6_amountAnew_53 h
  rw [lg_entry_eq]
  exact key _ _ _ hR va_S.rf ⟨lv_entry _ (n := 2) (Nat.le_of_ble_eq_true rfl), (c1_r (c1_i c1_n))⟩

theorem cd_X7_init : Cond.code yX7_init cX7_init 2 none ∈ Tg := Tg_of (i := 787) (by decide +kernel) (by decide +kernel)
theorem wf_X7_9 : Cond.fieldLink RX7 9 RX7 (TX7 0).2.1 (TX7 0).2.2.1 ∈ Tg := Tg_of (i := 789) (by decide +kernel) (by decide +kernel)
theorem fw_X7_9 : FldW RX7 9 10 0 (.array .int) true := ⟨RX7, TX7, 3, RX7, rfl, by decide, wf_X7_9, (Or.inl rfl), gu_X7, tyX7_ok _ (by decide), ⟨tyX7, tyX7_ok⟩, nmX7, rfl, fun _ => rfl⟩
theorem wf_X7_15 : Cond.fieldLink RX7 15 RX7 (TX7 1).2.1 (TX7 1).2.2.1 ∈ Tg := Tg_of (i := 792) (by decide +kernel) (by decide +kernel)
theorem fw_X7_15 : FldW RX7 15 10 1 .int false := ⟨RX7, TX7, 3, RX7, rfl, by decide, wf_X7_15, (Or.inl rfl), gu_X7, tyX7_ok _ (by decide), ⟨tyX7, tyX7_ok⟩, nmX7, rfl, fun z => nomatch z⟩
theorem mo_X7_3 : Cond.methodLink RX7 3 Lib.objectInit ∈ Tg := Tg_of (i := 788) (by decide +kernel) (by decide +kernel)
section M_X7_init
variable {p : Program} {l : Launch} {e : Env} {s : State} {m : MethodId} {args : Array Value} {below : List Frame} {meth : Method} {c : Code} {G : GG} {o : Except Nat Unit} {hs' : Hs}
end M_X7_init
def f_X7_init (a0 : Nat) (p1 : Int32) : OO Unit :=
    nwI 0 (30 : Int32) 30 fun q1 =>
    pR (some a0) 10 0 (some q1) (
    pI (some a0) 10 1 p1 (
    rtn ()))
set_option maxRecDepth 100000 in
set_option maxHeartbeats 4000000 in
theorem m_X7_init {G : GG} {l : Launch} {a0 : Nat} {p1 : Int32} {hs hs' : Hs} {o : Except Nat Unit} (h : f_X7_init a0 p1 hs = some (o, hs')) : CT G l yX7_init cX7_init 2 none 1 20 1 30 [.ref a0, .int p1] hs o hs' tvV := by
  refine vx_ofW (cc := cX7_init) (maxL := 2) (ret := none) (by decide +kernel) rfl ?_
  intro p e s m args below meth c s₁ B hml hxt hv
  obtain ⟨hav, hR, hKn⟩ := hv
  subst hav
  have hts := atoms_spec (ws := .code yX7_init cX7_init 2 none :: Tg) B.pre
  have C : Cx G l p s m _ c RX7 cX7_init 2 := ⟨B.exec, B.bytes, hml, findClass_of_methodNamed B.named, fun w hw => hts w (List.mem_cons_of_mem _ hw), hKn, fun q hq => Nat.le_trans hR.2.2.1 hq⟩
  have C2 : Cy meth c none := ⟨B.returns, B.notSynchronized, hxt⟩
  have hin : meth.name = "<init>" := (name_of_methodNamed B.named B.method).1
  have key : WG G p l e { frames := 1, cells := 1, slots := 30, locals := 20 } s m ([.ref a0, .int p1] : List Value).toArray below meth c 2 0 0 (vx_MQ below (QcT G o hs' tvV) (XCT G o hs') ([.ref a0, .int p1] : List Value).toArray s 1 30 (gA G)) hs [(0, va_rf (some a0)), (1, .int p1)] [] 0 := by
    unfold f_X7_init at h
    refine q_aload_n C 0 dX7_init_0 rfl ?_
    refine q_objInit C rfl mo_X7_3 im_objInit cd_objInit (Nat.le_of_ble_eq_true rfl) (Nat.le_of_ble_eq_true rfl) (by decide) dX7_init_1 ?_
    refine q_aload_n C 0 dX7_init_4 rfl ?_
    refine q_bipush C (30 : Int32) dX7_init_5 (by decide) ?_
    refine q_newI C 30 (Nat.le_of_ble_eq_true rfl) ac_0 (Nat.le_of_ble_eq_true rfl) (Nat.le_of_ble_eq_true rfl) dX7_init_7 h (fun q1 hs h => ?_)
    refine q_pR C fw_X7_9 (fun _ => hin) rfl dX7_init_9 h (fun hs h => ?_)
    refine q_aload_n C 0 dX7_init_12 rfl ?_
    refine q_iload_n C 1 dX7_init_13 rfl ?_
    refine q_pI C fw_X7_15 (fun z => nomatch z) dX7_init_14 h (fun hs h => ?_)
    exact q_vret C C2 rfl (Nat.le_of_ble_eq_true rfl) (Nat.le_of_ble_eq_true rfl) dX7_init_17 h
  rw [lg_entry_eq]
  exact key _ _ _ hR va_S.rf ⟨lv_entry _ (n := 2) (Nat.le_of_ble_eq_true rfl), (c1_r (c1_i c1_n))⟩

theorem cd_X8_init : Cond.code yX8_init cX8_init 1 none ∈ Tg := Tg_of (i := 117) (by decide +kernel) (by decide +kernel)
theorem wc_X8_9 : Cond.classLink RX8 9 RJx4a65c ∈ Tg := Tg_of (i := 121) (by decide +kernel) (by decide +kernel)
theorem nf_X8_9 : NewC RX8 9 2 [.int 0, .null, .int 0] 3 := ⟨RJx4a65c, TJx4a65c, tyJx4a65c, rfl, wc_X8_9, wi_Jx4a65c, iw_Jx4a65c, gu_Jx4a65c, tyJx4a65c_ok, by decide⟩
theorem ml_X8_11 : Cond.methodLink RX8 11 yJx4a65c_init_da8c8 ∈ Tg := Tg_of (i := 123) (by decide +kernel) (by decide +kernel)
theorem lk_X8_11 : Lk RX8 11 yJx4a65c_init_da8c8 cJx4a65c_init_da8c8 1 none 0 := ⟨ml_X8_11, cd_Jx4a65c_init_da8c8, iw_Jx4a65c, by decide +kernel⟩
theorem wf_X8_12 : Cond.fieldLink RX8 12 RX8 (TX8 0).2.1 (TX8 0).2.2.1 ∈ Tg := Tg_of (i := 222) (by decide +kernel) (by decide +kernel)
set_option maxRecDepth 100000 in
theorem gu_X8 : ∀ w ∈ u_ws RX8 TX8 10, w ∈ Tg := by decide +kernel
theorem fw_X8_12 : FldW RX8 12 11 0 (.object "java/util/ArrayList") true := ⟨RX8, TX8, 10, RX8, rfl, by decide, wf_X8_12, (Or.inl rfl), gu_X8, tyX8_ok _ (by decide), ⟨tyX8, tyX8_ok⟩, nmX8, rfl, fun _ => rfl⟩
theorem wc_X8_16 : Cond.classLink RX8 16 RX6 ∈ Tg := Tg_of (i := 147) (by decide +kernel) (by decide +kernel)
theorem wi_X6 : Cond.instantiable RX6 6 ∈ Tg := Tg_of (i := 148) (by decide +kernel) (by decide +kernel)
theorem nf_X8_16 : NewC RX8 16 9 [.null, .null, .null, .null, .null, .int 0] 6 := ⟨RX6, TX6, tyX6, rfl, wc_X8_16, wi_X6, iw_X6, gu_X6, tyX6_ok, by decide⟩
theorem lk_X8_18 : LkN RX8 18 yX6_init "Termgrid" cX6_init 1 none 0 := ⟨by decide +kernel, cd_X6_init, iw_X6, by decide +kernel⟩
theorem wf_X8_19 : Cond.fieldLink RX8 19 RX8 (TX8 1).2.1 (TX8 1).2.2.1 ∈ Tg := Tg_of (i := 223) (by decide +kernel) (by decide +kernel)
theorem fw_X8_19 : FldW RX8 19 11 1 (.object "Termgrid$Table") true := ⟨RX8, TX8, 10, RX8, rfl, by decide, wf_X8_19, (Or.inl rfl), gu_X8, tyX8_ok _ (by decide), ⟨tyX8, tyX8_ok⟩, nmX8, rfl, fun _ => rfl⟩
theorem wc_X8_23 : Cond.classLink RX8 23 RX1 ∈ Tg := Tg_of (i := 187) (by decide +kernel) (by decide +kernel)
theorem wi_X1 : Cond.instantiable RX1 1 ∈ Tg := Tg_of (i := 188) (by decide +kernel) (by decide +kernel)
theorem nf_X8_23 : NewC RX8 23 4 [.null] 1 := ⟨RX1, TX1, tyX1, rfl, wc_X8_23, wi_X1, iw_X1, gu_X1, tyX1_ok, by decide⟩
theorem lk_X8_25 : LkN RX8 25 yX1_init "Termgrid" cX1_init 1 none 0 := ⟨by decide +kernel, cd_X1_init, iw_X1, by decide +kernel⟩
theorem wf_X8_26 : Cond.fieldLink RX8 26 RX8 (TX8 2).2.1 (TX8 2).2.2.1 ∈ Tg := Tg_of (i := 224) (by decide +kernel) (by decide +kernel)
theorem fw_X8_26 : FldW RX8 26 11 2 (.object "Termgrid$Filler") true := ⟨RX8, TX8, 10, RX8, rfl, by decide, wf_X8_26, (Or.inl rfl), gu_X8, tyX8_ok _ (by decide), ⟨tyX8, tyX8_ok⟩, nmX8, rfl, fun _ => rfl⟩
theorem wc_X8_30 : Cond.classLink RX8 30 RX3 ∈ Tg := Tg_of (i := 197) (by decide +kernel) (by decide +kernel)
theorem wi_X3 : Cond.instantiable RX3 2 ∈ Tg := Tg_of (i := 198) (by decide +kernel) (by decide +kernel)
theorem nf_X8_30 : NewC RX8 30 6 [.null, .null] 2 := ⟨RX3, TX3, tyX3, rfl, wc_X8_30, wi_X3, iw_X3, gu_X3, tyX3_ok, by decide⟩
theorem lk_X8_32 : LkN RX8 32 yX3_init "Termgrid" cX3_init 1 none 0 := ⟨by decide +kernel, cd_X3_init, iw_X3, by decide +kernel⟩
theorem wf_X8_33 : Cond.fieldLink RX8 33 RX8 (TX8 3).2.1 (TX8 3).2.2.1 ∈ Tg := Tg_of (i := 225) (by decide +kernel) (by decide +kernel)
theorem fw_X8_33 : FldW RX8 33 11 3 (.object "Termgrid$Improver") true := ⟨RX8, TX8, 10, RX8, rfl, by decide, wf_X8_33, (Or.inl rfl), gu_X8, tyX8_ok _ (by decide), ⟨tyX8, tyX8_ok⟩, nmX8, rfl, fun _ => rfl⟩
theorem wc_X8_37 : Cond.classLink RX8 37 RX0 ∈ Tg := Tg_of (i := 210) (by decide +kernel) (by decide +kernel)
theorem wi_X0 : Cond.instantiable RX0 1 ∈ Tg := Tg_of (i := 211) (by decide +kernel) (by decide +kernel)
theorem nf_X8_37 : NewC RX8 37 3 [.null] 1 := ⟨RX0, TX0, tyX0, rfl, wc_X8_37, wi_X0, iw_X0, gu_X0, tyX0_ok, by decide⟩
theorem lk_X8_39 : LkN RX8 39 yX0_init "Termgrid" cX0_init 1 none 0 := ⟨by decide +kernel, cd_X0_init, iw_X0, by decide +kernel⟩
theorem wf_X8_40 : Cond.fieldLink RX8 40 RX8 (TX8 4).2.1 (TX8 4).2.2.1 ∈ Tg := Tg_of (i := 226) (by decide +kernel) (by decide +kernel)
theorem fw_X8_40 : FldW RX8 40 11 4 (.object "Termgrid$Bounds") true := ⟨RX8, TX8, 10, RX8, rfl, by decide, wf_X8_40, (Or.inl rfl), gu_X8, tyX8_ok _ (by decide), ⟨tyX8, tyX8_ok⟩, nmX8, rfl, fun _ => rfl⟩
theorem wc_X8_44 : Cond.classLink RX8 44 "[[I" ∈ Tg := Tg_of (i := 220) (by decide +kernel) (by decide +kernel)
theorem wf_X8_46 : Cond.fieldLink RX8 46 RX8 (TX8 5).2.1 (TX8 5).2.2.1 ∈ Tg := Tg_of (i := 227) (by decide +kernel) (by decide +kernel)
theorem fw_X8_46 : FldW RX8 46 11 5 (.array (.array .int)) true := ⟨RX8, TX8, 10, RX8, rfl, by decide, wf_X8_46, (Or.inl rfl), gu_X8, tyX8_ok _ (by decide), ⟨tyX8, tyX8_ok⟩, nmX8, rfl, fun _ => rfl⟩
theorem wf_X8_49 : Cond.fieldLink RX8 49 RX8 (TX8 6).2.1 (TX8 6).2.2.1 ∈ Tg := Tg_of (i := 228) (by decide +kernel) (by decide +kernel)
theorem fw_X8_49 : FldW RX8 49 11 6 (.array .int) true := ⟨RX8, TX8, 10, RX8, rfl, by decide, wf_X8_49, (Or.inl rfl), gu_X8, tyX8_ok _ (by decide), ⟨tyX8, tyX8_ok⟩, nmX8, rfl, fun _ => rfl⟩
theorem wf_X8_53 : Cond.fieldLink RX8 53 RX8 (TX8 7).2.1 (TX8 7).2.2.1 ∈ Tg := Tg_of (i := 229) (by decide +kernel) (by decide +kernel)
theorem fw_X8_53 : FldW RX8 53 11 7 (.array .int) true := ⟨RX8, TX8, 10, RX8, rfl, by decide, wf_X8_53, (Or.inl rfl), gu_X8, tyX8_ok _ (by decide), ⟨tyX8, tyX8_ok⟩, nmX8, rfl, fun _ => rfl⟩
theorem im_X0_init : Cond.instanceMethod yX0_init ∈ Tg := Tg_of (i := 213) (by decide +kernel) (by decide +kernel)
theorem im_X3_init : Cond.instanceMethod yX3_init ∈ Tg := Tg_of (i := 200) (by decide +kernel) (by decide +kernel)
theorem im_X1_init : Cond.instanceMethod yX1_init ∈ Tg := Tg_of (i := 190) (by decide +kernel) (by decide +kernel)
theorem im_X6_init : Cond.instanceMethod yX6_init ∈ Tg := Tg_of (i := 150) (by decide +kernel) (by decide +kernel)
theorem mo_X8_3 : Cond.methodLink RX8 3 Lib.objectInit ∈ Tg := Tg_of (i := 118) (by decide +kernel) (by decide +kernel)
section M_X8_init
variable {p : Program} {l : Launch} {e : Env} {s : State} {m : MethodId} {args : Array Value} {below : List Frame} {meth : Method} {c : Code} {G : GG} {o : Except Nat Unit} {hs' : Hs}
end M_X8_init
def f_X8_init (a0 : Nat) : OO Unit :=
    nw 2 [.int 0, .null, .int 0] fun q1 =>
    call (f_Jx4a65c_init_da8c8 q1 ) (fun (v2 : Unit) =>
    pR (some a0) 11 0 (some q1) (
    nw 9 [.null, .null, .null, .null, .null, .int 0] fun q3 =>
    call (f_X6_init q3 ) (fun (v4 : Unit) =>
    pR (some a0) 11 1 (some q3) (
    nw 4 [.null] fun q5 =>
    call (f_X1_init q5 ) (fun (v6 : Unit) =>
    pR (some a0) 11 2 (some q5) (
    nw 6 [.null, .null] fun q7 =>
    call (f_X3_init q7 ) (fun (v8 : Unit) =>
    pR (some a0) 11 3 (some q7) (
    nw 3 [.null] fun q9 =>
    call (f_X0_init q9 ) (fun (v10 : Unit) =>
    pR (some a0) 11 4 (some q9) (
    nw2 fun q11 =>
    pR (some a0) 11 5 (some q11) (
    nwI 0 (16 : Int32) 16 fun q12 =>
    pR (some a0) 11 6 (some q12) (
    nwI 0 (8 : Int32) 8 fun q13 =>
    pR (some a0) 11 7 (some q13) (
    rtn ()))))) nox)) nox)) nox)) nox)) nox
set_option maxRecDepth 100000 in
set_option maxHeartbeats 4000000 in
theorem m_X8_init {G : GG} {l : Launch} {a0 : Nat} {hs hs' : Hs} {o : Except Nat Unit} (h : f_X8_init a0 hs = some (o, hs')) : CT G l yX8_init cX8_init 1 none 5 100 23 436 [.ref a0] hs o hs' tvV := by
  refine vx_ofW (cc := cX8_init) (maxL := 1) (ret := none) (by decide +kernel) rfl ?_
  intro p e s m args below meth c s₁ B hml hxt hv
  obtain ⟨hav, hR, hKn⟩ := hv
  subst hav
  have hts := atoms_spec (ws := .code yX8_init cX8_init 1 none :: Tg) B.pre
  have C : Cx G l p s m _ c RX8 cX8_init 1 := ⟨B.exec, B.bytes, hml, findClass_of_methodNamed B.named, fun w hw => hts w (List.mem_cons_of_mem _ hw), hKn, fun q hq => Nat.le_trans hR.2.2.1 hq⟩
  have C2 : Cy meth c none := ⟨B.returns, B.notSynchronized, hxt⟩
  have hin : meth.name = "<init>" := (name_of_methodNamed B.named B.method).1
  have key : WG G p l e { frames := 5, cells := 23, slots := 436, locals := 100 } s m ([.ref a0] : List Value).toArray below meth c 1 0 0 (vx_MQ below (QcT G o hs' tvV) (XCT G o hs') ([.ref a0] : List Value).toArray s 23 436 (gA G)) hs [(0, va_rf (some a0))] [] 0 := by
    unfold f_X8_init at h
    refine q_aload_n C 0 dX8_init_0 rfl ?_
    refine q_objInit C rfl mo_X8_3 im_objInit cd_objInit (Nat.le_of_ble_eq_true rfl) (Nat.le_of_ble_eq_true rfl) (by decide) dX8_init_1 ?_
    refine q_aload_n C 0 dX8_init_4 rfl ?_
    refine q_new C nf_X8_9 (Nat.le_of_ble_eq_true rfl) (Nat.le_of_ble_eq_true rfl) dX8_init_5 h (fun q1 hs h => ?_)
    refine q_dup C (cat_rf _) dX8_init_8 ?_
    refine q_callI C [] [va_rf (some q1), va_rf (some a0)] (fun o2 hs1 hm => m_Jx4a65c_init_da8c8 hm) lk_X8_11 im_Jx4a65c_init_da8c8 rfl ⟨(Nat.le_of_ble_eq_true rfl), (Nat.le_of_ble_eq_true rfl)⟩ ⟨(Nat.le_of_ble_eq_true rfl), (Nat.le_of_ble_eq_true rfl)⟩ rfl rfl (by simp only [List.map, cat_rf, cat_i, cat_a]; decide) dX8_init_9 h (fun v2 hs h => WG_st (st' := [va_rf (some q1), va_rf (some a0)]) rfl ?_)
    refine q_pR C fw_X8_12 (fun _ => hin) rfl dX8_init_12 h (fun hs h => ?_)
    refine q_aload_n C 0 dX8_init_15 rfl ?_
    refine q_new C nf_X8_16 (Nat.le_of_ble_eq_true rfl) (Nat.le_of_ble_eq_true rfl) dX8_init_16 h (fun q3 hs h => ?_)
    refine q_dup C (cat_rf _) dX8_init_19 ?_
    refine q_callIN C [] [va_rf (some q3), va_rf (some a0)] (fun o2 hs1 hm => m_X6_init hm) lk_X8_18 im_X6_init rfl ⟨(Nat.le_of_ble_eq_true rfl), (Nat.le_of_ble_eq_true rfl)⟩ ⟨(Nat.le_of_ble_eq_true rfl), (Nat.le_of_ble_eq_true rfl)⟩ rfl rfl (by simp only [List.map, cat_rf, cat_i, cat_a]; decide) dX8_init_20 h (fun v4 hs h => WG_st (st' := [va_rf (some q3), va_rf (some a0)]) rfl ?_)
    refine q_pR C fw_X8_19 (fun _ => hin) rfl dX8_init_23 h (fun hs h => ?_)
    refine q_aload_n C 0 dX8_init_26 rfl ?_
    refine q_new C nf_X8_23 (Nat.le_of_ble_eq_true rfl) (Nat.le_of_ble_eq_true rfl) dX8_init_27 h (fun q5 hs h => ?_)
    refine q_dup C (cat_rf _) dX8_init_30 ?_
    refine q_callIN C [] [va_rf (some q5), va_rf (some a0)] (fun o2 hs1 hm => m_X1_init hm) lk_X8_25 im_X1_init rfl ⟨(Nat.le_of_ble_eq_true rfl), (Nat.le_of_ble_eq_true rfl)⟩ ⟨(Nat.le_of_ble_eq_true rfl), (Nat.le_of_ble_eq_true rfl)⟩ rfl rfl (by simp only [List.map, cat_rf, cat_i, cat_a]; decide) dX8_init_31 h (fun v6 hs h => WG_st (st' := [va_rf (some q5), va_rf (some a0)]) rfl ?_)
    refine q_pR C fw_X8_26 (fun _ => hin) rfl dX8_init_34 h (fun hs h => ?_)
    refine q_aload_n C 0 dX8_init_37 rfl ?_
    refine q_new C nf_X8_30 (Nat.le_of_ble_eq_true rfl) (Nat.le_of_ble_eq_true rfl) dX8_init_38 h (fun q7 hs h => ?_)
    refine q_dup C (cat_rf _) dX8_init_41 ?_
    refine q_callIN C [] [va_rf (some q7), va_rf (some a0)] (fun o2 hs1 hm => m_X3_init hm) lk_X8_32 im_X3_init rfl ⟨(Nat.le_of_ble_eq_true rfl), (Nat.le_of_ble_eq_true rfl)⟩ ⟨(Nat.le_of_ble_eq_true rfl), (Nat.le_of_ble_eq_true rfl)⟩ rfl rfl (by simp only [List.map, cat_rf, cat_i, cat_a]; decide) dX8_init_42 h (fun v8 hs h => WG_st (st' := [va_rf (some q7), va_rf (some a0)]) rfl ?_)
    refine q_pR C fw_X8_33 (fun _ => hin) rfl dX8_init_45 h (fun hs h => ?_)
    refine q_aload_n C 0 dX8_init_48 rfl ?_
    refine q_new C nf_X8_37 (Nat.le_of_ble_eq_true rfl) (Nat.le_of_ble_eq_true rfl) dX8_init_49 h (fun q9 hs h => ?_)
    refine q_dup C (cat_rf _) dX8_init_52 ?_
    refine q_callIN C [] [va_rf (some q9), va_rf (some a0)] (fun o2 hs1 hm => m_X0_init hm) lk_X8_39 im_X0_init rfl ⟨(Nat.le_of_ble_eq_true rfl), (Nat.le_of_ble_eq_true rfl)⟩ ⟨(Nat.le_of_ble_eq_true rfl), (Nat.le_of_ble_eq_true rfl)⟩ rfl rfl (by simp only [List.map, cat_rf, cat_i, cat_a]; decide) dX8_init_53 h (fun v10 hs h => WG_st (st' := [va_rf (some q9), va_rf (some a0)]) rfl ?_)
    refine q_pR C fw_X8_40 (fun _ => hin) rfl dX8_init_56 h (fun hs h => ?_)
    refine q_aload_n C 0 dX8_init_59 rfl ?_
    refine q_bipush C (6 : Int32) dX8_init_60 (by decide) ?_
    refine q_bipush C (16 : Int32) dX8_init_62 (by decide) ?_
    refine q_mna C wc_X8_44 ac_0 (Nat.le_of_ble_eq_true rfl) (Nat.le_of_ble_eq_true rfl) dX8_init_64 h (fun q11 hs h => ?_)
    refine q_pR C fw_X8_46 (fun _ => hin) rfl dX8_init_68 h (fun hs h => ?_)
    refine q_aload_n C 0 dX8_init_71 rfl ?_
    refine q_bipush C (16 : Int32) dX8_init_72 (by decide) ?_
    refine q_newI C 16 (Nat.le_of_ble_eq_true rfl) ac_0 (Nat.le_of_ble_eq_true rfl) (Nat.le_of_ble_eq_true rfl) dX8_init_74 h (fun q12 hs h => ?_)
    refine q_pR C fw_X8_49 (fun _ => hin) rfl dX8_init_76 h (fun hs h => ?_)
    refine q_aload_n C 0 dX8_init_79 rfl ?_
    refine q_bipush C (8 : Int32) dX8_init_80 (by decide) ?_
    refine q_newI C 8 (Nat.le_of_ble_eq_true rfl) ac_0 (Nat.le_of_ble_eq_true rfl) (Nat.le_of_ble_eq_true rfl) dX8_init_82 h (fun q13 hs h => ?_)
    refine q_pR C fw_X8_53 (fun _ => hin) rfl dX8_init_84 h (fun hs h => ?_)
    exact q_vret C C2 rfl (Nat.le_of_ble_eq_true rfl) (Nat.le_of_ble_eq_true rfl) dX8_init_87 h
  rw [lg_entry_eq]
  exact key _ _ _ hR va_S.rf ⟨lv_entry _ (n := 1) (Nat.le_of_ble_eq_true rfl), (c1_r c1_n)⟩

