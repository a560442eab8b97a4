theorem cd_X8_close : Cond.code yX8_close cX8_close 6 (some .int) ∈ Tg := Tg_of (i := 1356) (by decide +kernel) (by decide +kernel)
theorem ml_X8_349 : Cond.methodLink RX8 349 yX8_roomNumbered ∈ Tg := Tg_of (i := 1357) (by decide +kernel) (by decide +kernel)
theorem lk_X8_349 : Lk RX8 349 yX8_roomNumbered cX8_roomNumbered 2 (some (.object "Termgrid$Room")) 1 := ⟨ml_X8_349, cd_X8_roomNumbered, iw_X8, by decide +kernel⟩
theorem wf_X8_353 : Cond.fieldLink RX8 353 RX5 (TX5 4).2.1 (TX5 4).2.2.1 ∈ Tg := Tg_of (i := 694) (by decide +kernel) (by decide +kernel)
theorem fl_X8_353 : Fld RX8 353 8 4 .boolean := ⟨RX5, TX5, 5, RX5, rfl, by decide, wf_X8_353, (Or.inl rfl), gu_X5, tyX5_ok _ (by decide), ⟨tyX5, tyX5_ok⟩, nmX5⟩
theorem ml_X8_364 : Cond.methodLink RX8 364 yX6_isPast ∈ Tg := Tg_of (i := 1363) (by decide +kernel) (by decide +kernel)
theorem lk_X8_364 : Lk RX8 364 yX6_isPast cX6_isPast 2 (some .boolean) 1 := ⟨ml_X8_364, cd_X6_isPast, iw_X6, by decide +kernel⟩
theorem fw_X8_353 : FldW RX8 353 8 4 .boolean false := ⟨RX5, TX5, 5, RX5, rfl, by decide, wf_X8_353, (Or.inl rfl), gu_X5, tyX5_ok _ (by decide), ⟨tyX5, tyX5_ok⟩, nmX5, rfl, fun z => nomatch z⟩
theorem im_X8_roomNumbered : Cond.instanceMethod yX8_roomNumbered ∈ Tg := Tg_of (i := 1359) (by decide +kernel) (by decide +kernel)
theorem se_X8_X8_roomNumbered : Cond.selects RX8 yX8_roomNumbered yX8_roomNumbered ∈ Tg := Tg_of (i := 33) (by decide +kernel) (by decide +kernel)
section M_X8_close
variable {p : Program} {l : Launch} {e : Env} {s : State} {m : MethodId} {args : Array Value} {below : List Frame} {meth : Method} {c : Code} {G : GG} {o : Except Nat Int32} {hs' : Hs}
def j_X8_close_112 (a0 : Option Nat) (a2 : Option Nat) (a3 : Int32) (a4 : Int32)  (rec_29 : Int32 → Int32 → OO Int32) : OO Int32 :=
  lets (a4 + (1 : Int32)) fun (v14 : Int32) =>
    rec_29 a3 v14
set_option maxRecDepth 100000 in
set_option maxHeartbeats 4000000 in
theorem w_j_X8_close_112 (C : Cx G l p s m args c RX8 cX8_close 6) (C2 : Cy meth c (some .int)) {hs : Hs} (a0 : Option Nat) (a2 : Option Nat) (a3 : Int32) (a4 : Int32)  (rec_29 : Int32 → Int32 → OO Int32) (hrec_29 : ∀ (y3 : Int32) (y4 : Int32) hs, rec_29 y3 y4 hs = some (o, hs') → WG G p l e { frames := 13, cells := 2, slots := 12, locals := 454 } s m args below meth c 6 1 6 (vx_MQ below (QcT G o hs' tvI) (XCT G o hs') args s 2 12 (gA G)) hs [(0, va_rf a0), (2, va_rf a2), (3, .int y3), (4, .int y4)] [] 29) (h : j_X8_close_112 a0 a2 a3 a4 rec_29 hs = some (o, hs')) : WG G p l e { frames := 13, cells := 2, slots := 12, locals := 454 } s m args below meth c 6 1 6 (vx_MQ below (QcT G o hs' tvI) (XCT G o hs') args s 2 12 (gA G)) hs [(0, va_rf a0), (2, va_rf a2), (3, .int a3), (4, .int a4)] [] 112 := by
  unfold j_X8_close_112 at h
  refine q_iinc C 3 (1 : Int32) (fun v14 => [(4, .int v14), (0, va_rf a0), (2, va_rf a2), (3, .int a3)]) dX8_close_112 rfl (by decide) (by decide) (fun _ => rfl) h (fun v14 h => ?_)
  refine q_goto C 29 dX8_close_115 (by decide) ?_
  refine WG.sub [1, 2, 3, 0] rfl ?_
  exact hrec_29 _ _ _ h
def j_X8_close_110 (a0 : Option Nat) (a2 : Option Nat) (a4 : Int32) (s0 : Int32) (s1 : Int32) (rec_29 : Int32 → Int32 → OO Int32) : OO Int32 :=
  lets (s1 ||| s0) fun (v18 : Int32) =>
    j_X8_close_112 a0 a2 v18 a4 rec_29
set_option maxRecDepth 100000 in
set_option maxHeartbeats 4000000 in
theorem w_j_X8_close_110 (C : Cx G l p s m args c RX8 cX8_close 6) (C2 : Cy meth c (some .int)) {hs : Hs} (a0 : Option Nat) (a2 : Option Nat) (a4 : Int32) (s0 : Int32) (s1 : Int32) (rec_29 : Int32 → Int32 → OO Int32) (hrec_29 : ∀ (y3 : Int32) (y4 : Int32) hs, rec_29 y3 y4 hs = some (o, hs') → WG G p l e { frames := 13, cells := 2, slots := 12, locals := 454 } s m args below meth c 6 1 6 (vx_MQ below (QcT G o hs' tvI) (XCT G o hs') args s 2 12 (gA G)) hs [(0, va_rf a0), (2, va_rf a2), (3, .int y3), (4, .int y4)] [] 29) (h : j_X8_close_110 a0 a2 a4 s0 s1 rec_29 hs = some (o, hs')) : WG G p l e { frames := 13, cells := 2, slots := 12, locals := 454 } s m args below meth c 6 1 6 (vx_MQ below (QcT G o hs' tvI) (XCT G o hs') args s 2 12 (gA G)) hs [(0, va_rf a0), (2, va_rf a2), (4, .int a4)] [.int s0, .int s1] 110 := by
  unfold j_X8_close_110 at h
  refine q_ior C dX8_close_110 ?_
  refine q_istore_n C (fun v18 => [(3, .int v18), (0, va_rf a0), (2, va_rf a2), (4, .int a4)]) dX8_close_111 (by decide) (fun _ => rfl) h (fun v18 h => ?_)
  refine WG.sub [1, 2, 0, 3] rfl ?_
  exact w_j_X8_close_112 C C2 _ _ _ _ _ hrec_29 h
def L_X8_close_29 (a0 : Option Nat) (a2 : Option Nat) (k_29_78 : OO Int32) (k_29_118 : Int32 → OO Int32) : Nat → Int32 → Int32 → OO Int32
  | 0, _, _ => failO
  | n + 1, x3, x4 =>
    gR a0 11 1 fun v6 =>
    gR v6 9 2 fun v7 =>
    rcv v7 2 fun r21 => call (f_Jx4a65c_size_8abf5 r21 ) (fun (v8 : Int32) =>
    (if v8 ≤ x4 then
    k_29_118 x3
    else
    gR a0 11 1 fun v9 =>
    gR v9 9 2 fun v10 =>
    rcv v10 2 fun r20 => call (f_Jx4a65c_get_915e3 r20 x4) (fun (v11 : Option Nat) =>
    cst v11 7 (
    lets v11 fun (v12 : Option Nat) =>
    gR v12 7 6 fun v13 =>
    (if ¬ v13 = a2 then
    j_X8_close_112 a0 a2 x3 x4 (L_X8_close_29 a0 a2 k_29_78 k_29_118 n)
    else
    gI v12 7 8 fun v15 =>
    (if v15 = 0 then
    gR a0 11 1 fun v16 =>
    rcv v16 9 fun r19 => call (f_X6_isPast r19 v12) (fun (v17 : Int32) =>
    (if v17 = 0 then
    j_X8_close_110 a0 a2 x4 (((1 : Int32) <<< (x4 &&& 31))) x3 (L_X8_close_29 a0 a2 k_29_78 k_29_118 n)
    else
    j_X8_close_110 a0 a2 x4 (0 : Int32) x3 (L_X8_close_29 a0 a2 k_29_78 k_29_118 n))) nox
    else
    k_29_78)))) nox)) nox
set_option maxRecDepth 100000 in
set_option maxHeartbeats 4000000 in
theorem w_L_X8_close_29 (C : Cx G l p s m args c RX8 cX8_close 6) (C2 : Cy meth c (some .int)) (a0 : Option Nat) (a2 : Option Nat) (k_29_78 : OO Int32) (k_29_118 : Int32 → OO Int32) (hk_29_78 : ∀ hs, k_29_78  hs = some (o, hs') → WG G p l e { frames := 13, cells := 2, slots := 12, locals := 454 } s m args below meth c 6 1 6 (vx_MQ below (QcT G o hs' tvI) (XCT G o hs') args s 2 12 (gA G)) hs [] [] 78) (hk_29_118 : ∀ (y3 : Int32) hs, k_29_118 y3 hs = some (o, hs') → WG G p l e { frames := 13, cells := 2, slots := 12, locals := 454 } s m args below meth c 6 1 6 (vx_MQ below (QcT G o hs' tvI) (XCT G o hs') args s 2 12 (gA G)) hs [(0, va_rf a0), (2, va_rf a2), (3, .int y3)] [] 118) : ∀ (n : Nat) (x3 : Int32) (x4 : Int32) (hs : Hs), L_X8_close_29 a0 a2 k_29_78 k_29_118 n x3 x4 hs = some (o, hs') → WG G p l e { frames := 13, cells := 2, slots := 12, locals := 454 } s m args below meth c 6 1 6 (vx_MQ below (QcT G o hs' tvI) (XCT G o hs') args s 2 12 (gA G)) hs [(0, va_rf a0), (2, va_rf a2), (3, .int x3), (4, .int x4)] [] 29 := by
  intro n
  induction n with
  | zero =>
    intro x3 x4 hs h
    rw [L_X8_close_29] at h
    exact absurd h failO_e
  | succ n hrec_29 =>
    intro x3 x4 hs h
    rw [L_X8_close_29] at h
    refine q_iload C 3 dX8_close_29 rfl ?_
    refine q_aload_n C 0 dX8_close_31 rfl ?_
    refine q_gR C fl_X8_19 dX8_close_32 h (fun v6 h => ?_)
    refine q_gR C fl_X8_121 dX8_close_35 h (fun v7 h => ?_)
    refine q_callV C (CN := RJx4a65c) (T := TJx4a65c) (N := 3) [] [.int x4] (fun a0 o2 hs1 hm => m_Jx4a65c_size_8abf5 hm) lk_X8_70 im_Jx4a65c_size_8abf5 se_Jx4a65c_Jx4a65c_size_8abf5 rfl ⟨(Nat.le_of_ble_eq_true rfl), (Nat.le_of_ble_eq_true rfl)⟩ ⟨(Nat.le_of_ble_eq_true rfl), (Nat.le_of_ble_eq_true rfl)⟩ rfl rfl (by simp only [List.map, cat_rf, cat_i, cat_a]; decide) dX8_close_38 h (fun v8 hs h => WG_st (st' := [.int v8, .int x4]) rfl ?_)
    refine q_icmp_ge C 118 dX8_close_41 (by decide) h (fun h => ?_) (fun h => ?_)
    · refine WG.sub [0, 1, 2] rfl ?_
      exact hk_29_118 _ _ h
    · refine q_aload_n C 0 dX8_close_44 rfl ?_
      refine q_gR C fl_X8_19 dX8_close_45 h (fun v9 h => ?_)
      refine q_gR C fl_X8_121 dX8_close_48 h (fun v10 h => ?_)
      refine q_iload C 3 dX8_close_51 rfl ?_
      refine q_callV C (CN := RJx4a65c) (T := TJx4a65c) (N := 3) [.int x4] [] (fun a0 o2 hs1 hm => m_Jx4a65c_get_915e3 hm) lk_X8_186 im_Jx4a65c_get_915e3 se_Jx4a65c_Jx4a65c_get_915e3 rfl ⟨(Nat.le_of_ble_eq_true rfl), (Nat.le_of_ble_eq_true rfl)⟩ ⟨(Nat.le_of_ble_eq_true rfl), (Nat.le_of_ble_eq_true rfl)⟩ rfl rfl (by decide) dX8_close_53 h (fun v11 hs h => WG_st (st' := [va_rf v11]) rfl ?_)
      refine q_castS C (nm := RX4) (T := TX4) (N := 18) rfl wc_X8_126 dX8_close_56 h (fun h => ?_)
      refine q_astore C (fun v12 => [(5, va_rf v12), (0, va_rf a0), (2, va_rf a2), (3, .int x3), (4, .int x4)]) dX8_close_59 (by decide) (fun _ => rfl) h (fun v12 h => ?_)
      refine q_aload C 0 dX8_close_61 rfl ?_
      refine q_gR C fl_X8_358 dX8_close_63 h (fun v13 h => ?_)
      refine q_aload_n C 2 dX8_close_66 rfl ?_
      refine q_acmp_ne C 112 dX8_close_67 (by decide) h (fun h => ?_) (fun h => ?_)
      · refine WG.sub [1, 2, 3, 4] rfl ?_
        exact w_j_X8_close_112 C C2 _ _ _ _ _ hrec_29 h
      · refine q_aload C 0 dX8_close_70 rfl ?_
        refine q_gI C fl_X8_230 dX8_close_72 h (fun v15 h => ?_)
        refine q_if_eq C 89 dX8_close_75 (by decide) h (fun h => ?_) (fun h => ?_)
        · refine q_iload_n C 3 dX8_close_89 rfl ?_
          refine q_aload_n C 1 dX8_close_90 rfl ?_
          refine q_gR C fl_X8_19 dX8_close_91 h (fun v16 h => ?_)
          refine q_aload C 0 dX8_close_94 rfl ?_
          refine q_callV C (CN := RX6) (T := TX6) (N := 6) [va_rf v12] [.int x3] (fun a0 o2 hs1 hm => m_X6_isPast hm) lk_X8_364 im_X6_isPast se_X6_X6_isPast rfl ⟨(Nat.le_of_ble_eq_true rfl), (Nat.le_of_ble_eq_true rfl)⟩ ⟨(Nat.le_of_ble_eq_true rfl), (Nat.le_of_ble_eq_true rfl)⟩ rfl rfl (by simp only [List.map, cat_rf, cat_i, cat_a]; decide) dX8_close_96 h (fun v17 hs h => WG_st (st' := [.int v17, .int x3]) rfl ?_)
          refine q_if_eq C 106 dX8_close_99 (by decide) h (fun h => ?_) (fun h => ?_)
          · refine q_iconst C (1 : Int32) dX8_close_106 (by decide) ?_
            refine q_iload C 4 dX8_close_107 rfl ?_
            refine q_ishl C dX8_close_109 ?_
            refine WG.sub [1, 2, 4] rfl ?_
            exact w_j_X8_close_110 C C2 _ _ _ _ _ _ hrec_29 h
          · refine q_iconst C (0 : Int32) dX8_close_102 (by decide) ?_
            refine q_goto C 110 dX8_close_103 (by decide) ?_
            refine WG.sub [1, 2, 4] rfl ?_
            exact w_j_X8_close_110 C C2 _ _ _ _ _ _ hrec_29 h
        · refine WG.sub [] rfl ?_
          exact hk_29_78 _ h
end M_X8_close
def f_X8_close (a0 : Nat) (p1 : Int32) : OO Int32 :=
    rcv (some a0) 11 fun r26 => call (f_X8_roomNumbered r26 p1) (fun (v1 : Option Nat) =>
    lets v1 fun (v2 : Option Nat) =>
    gI v2 8 4 fun v3 =>
    (if ¬ v3 = 0 then
    lets (0 : Int32) fun (v4 : Int32) =>
    lets (0 : Int32) fun (v5 : Int32) =>
    L_X8_close_29 (some a0) v2 (nthrow 4) (fun (v22 : Int32) => pZ v2 8 4 (0 : Int32) (
    gR (some a0) 11 1 fun v23 =>
    rcv v23 9 fun r25 => call (f_X6_repair r25 v22) (fun (v24 : Int32) =>
    rtn v24) nox)) 100000 v4 v5
    else
    nthrow 2)) thr
set_option maxRecDepth 100000 in
set_option maxHeartbeats 4000000 in
theorem m_X8_close {G : GG} {l : Launch} {a0 : Nat} {p1 : Int32} {hs hs' : Hs} {o : Except Nat Int32} (h : f_X8_close a0 p1 hs = some (o, hs')) : CT G l yX8_close cX8_close 6 (some .int) 13 454 2 12 [.ref a0, .int p1] hs o hs' tvI := by
  refine vx_ofW (cc := cX8_close) (maxL := 6) (ret := (some .int)) (by decide +kernel) rfl ?_
  intro p e s m args below meth c s₁ B hml hxt hv
  obtain ⟨hav, hR, hKn⟩ := hv
  subst hav
  have hts := atoms_spec (ws := .code yX8_close cX8_close 6 (some .int) :: Tg) B.pre
  have C : Cx G l p s m _ c RX8 cX8_close 6 := ⟨B.exec, B.bytes, hml, findClass_of_methodNamed B.named, fun w hw => hts w (List.mem_cons_of_mem _ hw), hKn, fun q hq => Nat.le_trans hR.2.2.1 hq⟩
  have C2 : Cy meth c (some .int) := ⟨B.returns, B.notSynchronized, hxt⟩
  have key : WG G p l e { frames := 13, cells := 2, slots := 12, locals := 454 } s m ([.ref a0, .int p1] : List Value).toArray below meth c 6 0 0 (vx_MQ below (QcT G o hs' tvI) (XCT G o hs') ([.ref a0, .int p1] : List Value).toArray s 2 12 (gA G)) hs [(0, va_rf (some a0)), (1, .int p1)] [] 0 := by
    unfold f_X8_close at h
    refine q_aload_n C 0 dX8_close_0 rfl ?_
    refine q_iload_n C 1 dX8_close_1 rfl ?_
    refine q_callVX C (CN := RX8) (T := TX8) (N := 10) [.int p1] [] C2 ⟨(Nat.le_of_ble_eq_true rfl), (Nat.le_of_ble_eq_true rfl)⟩ (fun a0 o2 hs1 hm => m_X8_roomNumbered hm) lk_X8_349 im_X8_roomNumbered se_X8_X8_roomNumbered rfl ⟨(Nat.le_of_ble_eq_true rfl), (Nat.le_of_ble_eq_true rfl)⟩ ⟨(Nat.le_of_ble_eq_true rfl), (Nat.le_of_ble_eq_true rfl)⟩ rfl rfl (by decide) dX8_close_2 h (fun v1 hs h => WG_st (st' := [va_rf v1]) rfl ?_)
    refine q_astore_n C (fun v2 => [(2, va_rf v2), (0, va_rf (some a0)), (1, .int p1)]) dX8_close_5 (by decide) (fun _ => rfl) h (fun v2 h => ?_)
    refine q_aload_n C 0 dX8_close_6 rfl ?_
    refine q_gI C fl_X8_353 dX8_close_7 h (fun v3 h => ?_)
    refine q_if_ne C 24 dX8_close_10 (by decide) h (fun h => ?_) (fun h => ?_)
    · refine q_iconst C (0 : Int32) dX8_close_24 (by decide) ?_
      refine q_istore_n C (fun v4 => [(3, .int v4), (2, va_rf v2), (0, va_rf (some a0)), (1, .int p1)]) dX8_close_25 (by decide) (fun _ => rfl) h (fun v4 h => ?_)
      refine q_iconst C (0 : Int32) dX8_close_26 (by decide) ?_
      refine q_istore C (fun v5 => [(4, .int v5), (3, .int v4), (2, va_rf v2), (0, va_rf (some a0)), (1, .int p1)]) dX8_close_27 (by decide) (fun _ => rfl) h (fun v5 h => ?_)
      refine WG.sub [3, 2, 1, 0] rfl ?_
      refine w_L_X8_close_29 C C2 _ _ _ _ ?_ ?_ _ _ _ _ h
      · intro  hs h
        exact q_throw C C2 (k := 4) (tx := "a locked lesson is placed in the room") wc_X8_x341 iw_x4 at_X8_345 (by decide +kernel) (Nat.le_of_ble_eq_true rfl) (Nat.le_of_ble_eq_true rfl) (Nat.le_of_ble_eq_true rfl) (Nat.le_of_ble_eq_true rfl) (Nat.le_of_ble_eq_true rfl) (Nat.le_of_ble_eq_true rfl) (by decide) dX8_close_78 dX8_close_81 (Or.inr ⟨rfl, dX8_close_82⟩) dX8_close_85 dX8_close_88 h
      · intro v22 hs h
        refine q_aload_n C 1 dX8_close_118 rfl ?_
        refine q_iconst C (0 : Int32) dX8_close_119 (by decide) ?_
        refine q_pZ C fw_X8_353 (fun z => nomatch z) dX8_close_120 h (fun hs h => ?_)
        refine q_aload_n C 0 dX8_close_123 rfl ?_
        refine q_gR C fl_X8_19 dX8_close_124 h (fun v23 h => ?_)
        refine q_iload_n C 2 dX8_close_127 rfl ?_
        refine q_callV C (CN := RX6) (T := TX6) (N := 6) [.int v22] [] (fun a0 o2 hs1 hm => m_X6_repair hm) lk_X8_346 im_X6_repair se_X6_X6_repair rfl ⟨(Nat.le_of_ble_eq_true rfl), (Nat.le_of_ble_eq_true rfl)⟩ ⟨(Nat.le_of_ble_eq_true rfl), (Nat.le_of_ble_eq_true rfl)⟩ rfl rfl (by decide) dX8_close_128 h (fun v24 hs h => WG_st (st' := [.int v24]) rfl ?_)
        exact q_iret C C2 rfl (Nat.le_of_ble_eq_true rfl) (Nat.le_of_ble_eq_true rfl) dX8_close_131 h
    · exact q_throw C C2 (k := 2) (tx := "the room is closed") wc_X8_x74 iw_x2 at_X8_78 (by decide +kernel) (Nat.le_of_ble_eq_true rfl) (Nat.le_of_ble_eq_true rfl) (Nat.le_of_ble_eq_true rfl) (Nat.le_of_ble_eq_true rfl) (Nat.le_of_ble_eq_true rfl) (Nat.le_of_ble_eq_true rfl) (by decide) dX8_close_13 dX8_close_16 (Or.inr ⟨rfl, dX8_close_17⟩) dX8_close_20 dX8_close_23 h
  rw [lg_entry_eq]
  exact key _ _ _ hR va_S.rf ⟨lv_entry _ (n := 6) (Nat.le_of_ble_eq_true rfl), (c1_r (c1_i c1_n))⟩

theorem cd_X8_open : Cond.code yX8_open cX8_open 5 (some .int) ∈ Tg := Tg_of (i := 1370) (by decide +kernel) (by decide +kernel)
section M_X8_open
variable {p : Program} {l : Launch} {e : Env} {s : State} {m : MethodId} {args : Array Value} {below : List Frame} {meth : Method} {c : Code} {G : GG} {o : Except Nat Int32} {hs' : Hs}
def j_X8_open_73 (a0 : Option Nat) (a3 : Int32) (a4 : Int32)  (rec_34 : Int32 → Int32 → OO Int32) : OO Int32 :=
  lets (a4 + (1 : Int32)) fun (v13 : Int32) =>
    rec_34 a3 v13
set_option maxRecDepth 100000 in
set_option maxHeartbeats 4000000 in
theorem w_j_X8_open_73 (C : Cx G l p s m args c RX8 cX8_open 5) (C2 : Cy meth c (some .int)) {hs : Hs} (a0 : Option Nat) (a3 : Int32) (a4 : Int32)  (rec_34 : Int32 → Int32 → OO Int32) (hrec_34 : ∀ (y3 : Int32) (y4 : Int32) hs, rec_34 y3 y4 hs = some (o, hs') → WG G p l e { frames := 7, cells := 2, slots := 12, locals := 221 } s m args below meth c 5 1 6 (vx_MQ below (QcT G o hs' tvI) (XCT G o hs') args s 2 12 (gA G)) hs [(0, va_rf a0), (3, .int y3), (4, .int y4)] [] 34) (h : j_X8_open_73 a0 a3 a4 rec_34 hs = some (o, hs')) : WG G p l e { frames := 7, cells := 2, slots := 12, locals := 221 } s m args below meth c 5 1 6 (vx_MQ below (QcT G o hs' tvI) (XCT G o hs') args s 2 12 (gA G)) hs [(0, va_rf a0), (3, .int a3), (4, .int a4)] [] 73 := by
  unfold j_X8_open_73 at h
  refine q_iinc C 2 (1 : Int32) (fun v13 => [(4, .int v13), (0, va_rf a0), (3, .int a3)]) dX8_open_73 rfl (by decide) (by decide) (fun _ => rfl) h (fun v13 h => ?_)
  refine q_goto C 34 dX8_open_76 (by decide) ?_
  refine WG.sub [1, 2, 0] rfl ?_
  exact hrec_34 _ _ _ h
def L_X8_open_34 (a0 : Option Nat) (k_34_79 : Int32 → OO Int32) : Nat → Int32 → Int32 → OO Int32
  | 0, _, _ => failO
  | n + 1, x3, x4 =>
    gR a0 11 1 fun v6 =>
    gR v6 9 0 fun v7 =>
    rcv v7 2 fun r16 => call (f_Jx4a65c_size_8abf5 r16 ) (fun (v8 : Int32) =>
    (if v8 ≤ x4 then
    k_34_79 x3
    else
    gR a0 11 1 fun v9 =>
    gR v9 9 0 fun v10 =>
    rcv v10 2 fun r15 => call (f_Jx4a65c_get_915e3 r15 x4) (fun (v11 : Option Nat) =>
    cst v11 8 (
    gI v11 8 4 fun v12 =>
    (if v12 = 0 then
    j_X8_open_73 a0 x3 x4 (L_X8_open_34 a0 k_34_79 n)
    else
    lets (x3 + (1 : Int32)) fun (v14 : Int32) =>
    j_X8_open_73 a0 v14 x4 (L_X8_open_34 a0 k_34_79 n)))) nox)) nox
set_option maxRecDepth 100000 in
set_option maxHeartbeats 4000000 in
theorem w_L_X8_open_34 (C : Cx G l p s m args c RX8 cX8_open 5) (C2 : Cy meth c (some .int)) (a0 : Option Nat) (k_34_79 : Int32 → OO Int32) (hk_34_79 : ∀ (y3 : Int32) hs, k_34_79 y3 hs = some (o, hs') → WG G p l e { frames := 7, cells := 2, slots := 12, locals := 221 } s m args below meth c 5 1 6 (vx_MQ below (QcT G o hs' tvI) (XCT G o hs') args s 2 12 (gA G)) hs [(3, .int y3)] [] 79) : ∀ (n : Nat) (x3 : Int32) (x4 : Int32) (hs : Hs), L_X8_open_34 a0 k_34_79 n x3 x4 hs = some (o, hs') → WG G p l e { frames := 7, cells := 2, slots := 12, locals := 221 } s m args below meth c 5 1 6 (vx_MQ below (QcT G o hs' tvI) (XCT G o hs') args s 2 12 (gA G)) hs [(0, va_rf a0), (3, .int x3), (4, .int x4)] [] 34 := by
  intro n
  induction n with
  | zero =>
    intro x3 x4 hs h
    rw [L_X8_open_34] at h
    exact absurd h failO_e
  | succ n hrec_34 =>
    intro x3 x4 hs h
    rw [L_X8_open_34] at h
    refine q_iload C 2 dX8_open_34 rfl ?_
    refine q_aload_n C 0 dX8_open_36 rfl ?_
    refine q_gR C fl_X8_19 dX8_open_37 h (fun v6 h => ?_)
    refine q_gR C fl_X8_67 dX8_open_40 h (fun v7 h => ?_)
    refine q_callV C (CN := RJx4a65c) (T := TJx4a65c) (N := 3) [] [.int x4] (fun a0 o2 hs1 hm => m_Jx4a65c_size_8abf5 hm) lk_X8_70 im_Jx4a65c_size_8abf5 se_Jx4a65c_Jx4a65c_size_8abf5 rfl ⟨(Nat.le_of_ble_eq_true rfl), (Nat.le_of_ble_eq_true rfl)⟩ ⟨(Nat.le_of_ble_eq_true rfl), (Nat.le_of_ble_eq_true rfl)⟩ rfl rfl (by simp only [List.map, cat_rf, cat_i, cat_a]; decide) dX8_open_43 h (fun v8 hs h => WG_st (st' := [.int v8, .int x4]) rfl ?_)
    refine q_icmp_ge C 79 dX8_open_46 (by decide) h (fun h => ?_) (fun h => ?_)
    · refine WG.sub [1] rfl ?_
      exact hk_34_79 _ _ h
    · refine q_aload_n C 0 dX8_open_49 rfl ?_
      refine q_gR C fl_X8_19 dX8_open_50 h (fun v9 h => ?_)
      refine q_gR C fl_X8_67 dX8_open_53 h (fun v10 h => ?_)
      refine q_iload C 2 dX8_open_56 rfl ?_
      refine q_callV C (CN := RJx4a65c) (T := TJx4a65c) (N := 3) [.int x4] [] (fun a0 o2 hs1 hm => m_Jx4a65c_get_915e3 hm) lk_X8_186 im_Jx4a65c_get_915e3 se_Jx4a65c_Jx4a65c_get_915e3 rfl ⟨(Nat.le_of_ble_eq_true rfl), (Nat.le_of_ble_eq_true rfl)⟩ ⟨(Nat.le_of_ble_eq_true rfl), (Nat.le_of_ble_eq_true rfl)⟩ rfl rfl (by decide) dX8_open_58 h (fun v11 hs h => WG_st (st' := [va_rf v11]) rfl ?_)
      refine q_castS C (nm := RX5) (T := TX5) (N := 5) rfl wc_X8_79 dX8_open_61 h (fun h => ?_)
      refine q_gI C fl_X8_353 dX8_open_64 h (fun v12 h => ?_)
      refine q_if_eq C 73 dX8_open_67 (by decide) h (fun h => ?_) (fun h => ?_)
      · exact w_j_X8_open_73 C C2 _ _ _ _ hrec_34 h
      · refine q_iinc C 1 (1 : Int32) (fun v14 => [(3, .int v14), (0, va_rf a0), (4, .int x4)]) dX8_open_70 rfl (by decide) (by decide) (fun _ => rfl) h (fun v14 h => ?_)
        refine WG.sub [1, 0, 2] rfl ?_
        exact w_j_X8_open_73 C C2 _ _ _ _ hrec_34 h
end M_X8_open
def f_X8_open (a0 : Nat) (p1 : Int32) : OO Int32 :=
    rcv (some a0) 11 fun r18 => call (f_X8_roomNumbered r18 p1) (fun (v1 : Option Nat) =>
    lets v1 fun (v2 : Option Nat) =>
    gI v2 8 4 fun v3 =>
    (if v3 = 0 then
    pZ v2 8 4 (1 : Int32) (
    lets (0 : Int32) fun (v4 : Int32) =>
    lets (0 : Int32) fun (v5 : Int32) =>
    L_X8_open_34 (some a0) (fun (v17 : Int32) => rtn v17) 100000 v4 v5)
    else
    nthrow 2)) thr
set_option maxRecDepth 100000 in
set_option maxHeartbeats 4000000 in
theorem m_X8_open {G : GG} {l : Launch} {a0 : Nat} {p1 : Int32} {hs hs' : Hs} {o : Except Nat Int32} (h : f_X8_open a0 p1 hs = some (o, hs')) : CT G l yX8_open cX8_open 5 (some .int) 7 221 2 12 [.ref a0, .int p1] hs o hs' tvI := by
  refine vx_ofW (cc := cX8_open) (maxL := 5) (ret := (some .int)) (by decide +kernel) rfl ?_
  intro p e s m args below meth c s₁ B hml hxt hv
  obtain ⟨hav, hR, hKn⟩ := hv
  subst hav
  have hts := atoms_spec (ws := .code yX8_open cX8_open 5 (some .int) :: Tg) B.pre
  have C : Cx G l p s m _ c RX8 cX8_open 5 := ⟨B.exec, B.bytes, hml, findClass_of_methodNamed B.named, fun w hw => hts w (List.mem_cons_of_mem _ hw), hKn, fun q hq => Nat.le_trans hR.2.2.1 hq⟩
  have C2 : Cy meth c (some .int) := ⟨B.returns, B.notSynchronized, hxt⟩
  have key : WG G p l e { frames := 7, cells := 2, slots := 12, locals := 221 } s m ([.ref a0, .int p1] : List Value).toArray below meth c 5 0 0 (vx_MQ below (QcT G o hs' tvI) (XCT G o hs') ([.ref a0, .int p1] : List Value).toArray s 2 12 (gA G)) hs [(0, va_rf (some a0)), (1, .int p1)] [] 0 := by
    unfold f_X8_open at h
    refine q_aload_n C 0 dX8_open_0 rfl ?_
    refine q_iload_n C 1 dX8_open_1 rfl ?_
    refine q_callVX C (CN := RX8) (T := TX8) (N := 10) [.int p1] [] C2 ⟨(Nat.le_of_ble_eq_true rfl), (Nat.le_of_ble_eq_true rfl)⟩ (fun a0 o2 hs1 hm => m_X8_roomNumbered hm) lk_X8_349 im_X8_roomNumbered se_X8_X8_roomNumbered rfl ⟨(Nat.le_of_ble_eq_true rfl), (Nat.le_of_ble_eq_true rfl)⟩ ⟨(Nat.le_of_ble_eq_true rfl), (Nat.le_of_ble_eq_true rfl)⟩ rfl rfl (by decide) dX8_open_2 h (fun v1 hs h => WG_st (st' := [va_rf v1]) rfl ?_)
    refine q_astore_n C (fun v2 => [(2, va_rf v2), (0, va_rf (some a0)), (1, .int p1)]) dX8_open_5 (by decide) (fun _ => rfl) h (fun v2 h => ?_)
    refine q_aload_n C 0 dX8_open_6 rfl ?_
    refine q_gI C fl_X8_353 dX8_open_7 h (fun v3 h => ?_)
    refine q_if_eq C 24 dX8_open_10 (by decide) h (fun h => ?_) (fun h => ?_)
    · refine q_aload_n C 0 dX8_open_24 rfl ?_
      refine q_iconst C (1 : Int32) dX8_open_25 (by decide) ?_
      refine q_pZ C fw_X8_353 (fun z => nomatch z) dX8_open_26 h (fun hs h => ?_)
      refine q_iconst C (0 : Int32) dX8_open_29 (by decide) ?_
      refine q_istore_n C (fun v4 => [(3, .int v4), (2, va_rf v2), (0, va_rf (some a0)), (1, .int p1)]) dX8_open_30 (by decide) (fun _ => rfl) h (fun v4 h => ?_)
      refine q_iconst C (0 : Int32) dX8_open_31 (by decide) ?_
      refine q_istore C (fun v5 => [(4, .int v5), (3, .int v4), (2, va_rf v2), (0, va_rf (some a0)), (1, .int p1)]) dX8_open_32 (by decide) (fun _ => rfl) h (fun v5 h => ?_)
      refine WG.sub [3, 1, 0] rfl ?_
      refine w_L_X8_open_34 C C2 _ _ ?_ _ _ _ _ h
      · intro v17 hs h
        refine q_iload_n C 0 dX8_open_79 rfl ?_
        exact q_iret C C2 rfl (Nat.le_of_ble_eq_true rfl) (Nat.le_of_ble_eq_true rfl) dX8_open_80 h
    · exact q_throw C C2 (k := 2) (tx := "the room is open") wc_X8_x74 iw_x2 at_X8_78 (by decide +kernel) (Nat.le_of_ble_eq_true rfl) (Nat.le_of_ble_eq_true rfl) (Nat.le_of_ble_eq_true rfl) (Nat.le_of_ble_eq_true rfl) (Nat.le_of_ble_eq_true rfl) (Nat.le_of_ble_eq_true rfl) (by decide) dX8_open_13 dX8_open_16 (Or.inr ⟨rfl, dX8_open_17⟩) dX8_open_20 dX8_open_23 h
  rw [lg_entry_eq]
  exact key _ _ _ hR va_S.rf ⟨lv_entry _ (n := 5) (Nat.le_of_ble_eq_true rfl), (c1_r (c1_i c1_n))⟩

theorem cd_X8_passDay : Cond.code yX8_passDay cX8_passDay 1 (some .int) ∈ Tg := Tg_of (i := 1378) (by decide +kernel) (by decide +kernel)
theorem fw_X8_325 : FldW RX8 325 9 5 .int false := ⟨RX6, TX6, 6, RX6, rfl, by decide, wf_X8_325, (Or.inl rfl), gu_X6, tyX6_ok _ (by decide), ⟨tyX6, tyX6_ok⟩, nmX6, rfl, fun z => nomatch z⟩
section M_X8_passDay
variable {p : Program} {l : Launch} {e : Env} {s : State} {m : MethodId} {args : Array Value} {below : List Frame} {meth : Method} {c : Code} {G : GG} {o : Except Nat Int32} {hs' : Hs}
end M_X8_passDay
def f_X8_passDay (a0 : Nat) : OO Int32 :=
    gR (some a0) 11 1 fun v1 =>
    gI v1 9 5 fun v2 =>
    (if v2 < (4 : Int32) then
    gR (some a0) 11 1 fun v3 =>
    gI v3 9 5 fun v4 =>
    pI v3 9 5 (v4 + (1 : Int32)) (
    gR (some a0) 11 1 fun v5 =>
    gI v5 9 5 fun v6 =>
    rtn v6)
    else
    nthrow 2)
set_option maxRecDepth 100000 in
set_option maxHeartbeats 4000000 in
theorem m_X8_passDay {G : GG} {l : Launch} {a0 : Nat} {hs hs' : Hs} {o : Except Nat Int32} (h : f_X8_passDay a0 hs = some (o, hs')) : CT G l yX8_passDay cX8_passDay 1 (some .int) 6 200 1 6 [.ref a0] hs o hs' tvI := by
  refine vx_ofW (cc := cX8_passDay) (maxL := 1) (ret := (some .int)) (by decide +kernel) rfl ?_
  intro p e s m args below meth c s₁ B hml hxt hv
  obtain ⟨hav, hR, hKn⟩ := hv
  subst hav
  have hts := atoms_spec (ws := .code yX8_passDay cX8_passDay 1 (some .int) :: Tg) B.pre
  have C : Cx G l p s m _ c RX8 cX8_passDay 1 := ⟨B.exec, B.bytes, hml, findClass_of_methodNamed B.named, fun w hw => hts w (List.mem_cons_of_mem _ hw), hKn, fun q hq => Nat.le_trans hR.2.2.1 hq⟩
  have C2 : Cy meth c (some .int) := ⟨B.returns, B.notSynchronized, hxt⟩
  have key : WG G p l e { frames := 6, cells := 1, slots := 6, locals := 200 } s m ([.ref a0] : List Value).toArray below meth c 1 0 0 (vx_MQ below (QcT G o hs' tvI) (XCT G o hs') ([.ref a0] : List Value).toArray s 1 6 (gA G)) hs [(0, va_rf (some a0))] [] 0 := by
    unfold f_X8_passDay at h
    refine q_aload_n C 0 dX8_passDay_0 rfl ?_
    refine q_gR C fl_X8_19 dX8_passDay_1 h (fun v1 h => ?_)
    refine q_gI C fl_X8_325 dX8_passDay_4 h (fun v2 h => ?_)
    refine q_iconst C (4 : Int32) dX8_passDay_7 (by decide) ?_
    refine q_icmp_lt C 22 dX8_passDay_8 (by decide) h (fun h => ?_) (fun h => ?_)
    · refine q_aload_n C 0 dX8_passDay_22 rfl ?_
      refine q_gR C fl_X8_19 dX8_passDay_23 h (fun v3 h => ?_)
      refine q_dup C (cat_rf _) dX8_passDay_26 ?_
      refine q_gI C fl_X8_325 dX8_passDay_27 h (fun v4 h => ?_)
      refine q_iconst C (1 : Int32) dX8_passDay_30 (by decide) ?_
      refine q_iadd C dX8_passDay_31 ?_
      refine q_pI C fw_X8_325 (fun z => nomatch z) dX8_passDay_32 h (fun hs h => ?_)
      refine q_aload_n C 0 dX8_passDay_35 rfl ?_
      refine q_gR C fl_X8_19 dX8_passDay_36 h (fun v5 h => ?_)
      refine q_gI C fl_X8_325 dX8_passDay_39 h (fun v6 h => ?_)
      exact q_iret C C2 rfl (Nat.le_of_ble_eq_true rfl) (Nat.le_of_ble_eq_true rfl) dX8_passDay_42 h
    · exact q_throw C C2 (k := 2) (tx := "today is the last day") wc_X8_x74 iw_x2 at_X8_78 (by decide +kernel) (Nat.le_of_ble_eq_true rfl) (Nat.le_of_ble_eq_true rfl) (Nat.le_of_ble_eq_true rfl) (Nat.le_of_ble_eq_true rfl) (Nat.le_of_ble_eq_true rfl) (Nat.le_of_ble_eq_true rfl) (by decide) dX8_passDay_11 dX8_passDay_14 (Or.inr ⟨rfl, dX8_passDay_15⟩) dX8_passDay_18 dX8_passDay_21 h
  rw [lg_entry_eq]
  exact key _ _ _ hR va_S.rf ⟨lv_entry _ (n := 1) (Nat.le_of_ble_eq_true rfl), (c1_r c1_n)⟩

theorem cd_X8_nextWeek : Cond.code yX8_nextWeek cX8_nextWeek 1 (some .int) ∈ Tg := Tg_of (i := 1386) (by decide +kernel) (by decide +kernel)
theorem ml_X8_374 : Cond.methodLink RX8 374 yX6_bookLateHours ∈ Tg := Tg_of (i := 1388) (by decide +kernel) (by decide +kernel)
theorem lk_X8_374 : Lk RX8 374 yX6_bookLateHours cX6_bookLateHours 3 none 0 := ⟨ml_X8_374, cd_X6_bookLateHours, iw_X6, by decide +kernel⟩
theorem ml_X8_377 : Cond.methodLink RX8 377 yX6_broken ∈ Tg := Tg_of (i := 1396) (by decide +kernel) (by decide +kernel)
theorem lk_X8_377 : Lk RX8 377 yX6_broken cX6_broken 5 (some .int) 0 := ⟨ml_X8_377, cd_X6_broken, iw_X6, by decide +kernel⟩
theorem wf_X8_380 : Cond.fieldLink RX8 380 RX8 (TX8 9).2.1 (TX8 9).2.2.1 ∈ Tg := Tg_of (i := 231) (by decide +kernel) (by decide +kernel)
theorem fl_X8_380 : Fld RX8 380 11 9 .int := ⟨RX8, TX8, 10, RX8, rfl, by decide, wf_X8_380, (Or.inl rfl), gu_X8, tyX8_ok _ (by decide), ⟨tyX8, tyX8_ok⟩, nmX8⟩
theorem fw_X8_380 : FldW RX8 380 11 9 .int false := ⟨RX8, TX8, 10, RX8, rfl, by decide, wf_X8_380, (Or.inl rfl), gu_X8, tyX8_ok _ (by decide), ⟨tyX8, tyX8_ok⟩, nmX8, rfl, fun z => nomatch z⟩
theorem im_X6_bookLateHours : Cond.instanceMethod yX6_bookLateHours ∈ Tg := Tg_of (i := 1389) (by decide +kernel) (by decide +kernel)
theorem se_X6_X6_bookLateHours : Cond.selects RX6 yX6_bookLateHours yX6_bookLateHours ∈ Tg := Tg_of (i := 1390) (by decide +kernel) (by decide +kernel)
section M_X8_nextWeek
variable {p : Program} {l : Launch} {e : Env} {s : State} {m : MethodId} {args : Array Value} {below : List Frame} {meth : Method} {c : Code} {G : GG} {o : Except Nat Int32} {hs' : Hs}
end M_X8_nextWeek
def f_X8_nextWeek (a0 : Nat) : OO Int32 :=
    gR (some a0) 11 1 fun v1 =>
    gI v1 9 5 fun v2 =>
    (if v2 = (4 : Int32) then
    gR (some a0) 11 1 fun v3 =>
    rcv v3 9 fun r14 => call (f_X6_bookLateHours r14 ) (fun (v4 : Unit) =>
    gR (some a0) 11 1 fun v5 =>
    pI v5 9 5 (0 : Int32) (
    gR (some a0) 11 1 fun v6 =>
    gR (some a0) 11 1 fun v7 =>
    rcv v7 9 fun r13 => call (f_X6_broken r13 ) (fun (v8 : Int32) =>
    rcv v6 9 fun r12 => call (f_X6_repair r12 v8) (fun (v9 : Int32) =>
    gI (some a0) 11 9 fun v10 =>
    pI (some a0) 11 9 (v10 + (1 : Int32)) (
    gI (some a0) 11 9 fun v11 =>
    rtn v11)) nox) nox)) nox
    else
    nthrow 2)
set_option maxRecDepth 100000 in
set_option maxHeartbeats 4000000 in
theorem m_X8_nextWeek {G : GG} {l : Launch} {a0 : Nat} {hs hs' : Hs} {o : Except Nat Int32} (h : f_X8_nextWeek a0 hs = some (o, hs')) : CT G l yX8_nextWeek cX8_nextWeek 1 (some .int) 13 454 1 6 [.ref a0] hs o hs' tvI := by
  refine vx_ofW (cc := cX8_nextWeek) (maxL := 1) (ret := (some .int)) (by decide +kernel) rfl ?_
  intro p e s m args below meth c s₁ B hml hxt hv
  obtain ⟨hav, hR, hKn⟩ := hv
  subst hav
  have hts := atoms_spec (ws := .code yX8_nextWeek cX8_nextWeek 1 (some .int) :: Tg) B.pre
  have C : Cx G l p s m _ c RX8 cX8_nextWeek 1 := ⟨B.exec, B.bytes, hml, findClass_of_methodNamed B.named, fun w hw => hts w (List.mem_cons_of_mem _ hw), hKn, fun q hq => Nat.le_trans hR.2.2.1 hq⟩
  have C2 : Cy meth c (some .int) := ⟨B.returns, B.notSynchronized, hxt⟩
  have key : WG G p l e { frames := 13, cells := 1, slots := 6, locals := 454 } s m ([.ref a0] : List Value).toArray below meth c 1 0 0 (vx_MQ below (QcT G o hs' tvI) (XCT G o hs') ([.ref a0] : List Value).toArray s 1 6 (gA G)) hs [(0, va_rf (some a0))] [] 0 := by
    unfold f_X8_nextWeek at h
    refine q_aload_n C 0 dX8_nextWeek_0 rfl ?_
    refine q_gR C fl_X8_19 dX8_nextWeek_1 h (fun v1 h => ?_)
    refine q_gI C fl_X8_325 dX8_nextWeek_4 h (fun v2 h => ?_)
    refine q_iconst C (4 : Int32) dX8_nextWeek_7 (by decide) ?_
    refine q_icmp_eq C 22 dX8_nextWeek_8 (by decide) h (fun h => ?_) (fun h => ?_)
    · refine q_aload_n C 0 dX8_nextWeek_22 rfl ?_
      refine q_gR C fl_X8_19 dX8_nextWeek_23 h (fun v3 h => ?_)
      refine q_callV C (CN := RX6) (T := TX6) (N := 6) [] [] (fun a0 o2 hs1 hm => m_X6_bookLateHours hm) lk_X8_374 im_X6_bookLateHours se_X6_X6_bookLateHours rfl ⟨(Nat.le_of_ble_eq_true rfl), (Nat.le_of_ble_eq_true rfl)⟩ ⟨(Nat.le_of_ble_eq_true rfl), (Nat.le_of_ble_eq_true rfl)⟩ rfl rfl (by decide) dX8_nextWeek_26 h (fun v4 hs h => WG_st (st' := []) rfl ?_)
      refine q_aload_n C 0 dX8_nextWeek_29 rfl ?_
      refine q_gR C fl_X8_19 dX8_nextWeek_30 h (fun v5 h => ?_)
      refine q_iconst C (0 : Int32) dX8_nextWeek_33 (by decide) ?_
      refine q_pI C fw_X8_325 (fun z => nomatch z) dX8_nextWeek_34 h (fun hs h => ?_)
      refine q_aload_n C 0 dX8_nextWeek_37 rfl ?_
      refine q_gR C fl_X8_19 dX8_nextWeek_38 h (fun v6 h => ?_)
      refine q_aload_n C 0 dX8_nextWeek_41 rfl ?_
      refine q_gR C fl_X8_19 dX8_nextWeek_42 h (fun v7 h => ?_)
      refine q_callV C (CN := RX6) (T := TX6) (N := 6) [] [va_rf v6] (fun a0 o2 hs1 hm => m_X6_broken hm) lk_X8_377 im_X6_broken se_X6_X6_broken rfl ⟨(Nat.le_of_ble_eq_true rfl), (Nat.le_of_ble_eq_true rfl)⟩ ⟨(Nat.le_of_ble_eq_true rfl), (Nat.le_of_ble_eq_true rfl)⟩ rfl rfl (by simp only [List.map, cat_rf, cat_i, cat_a]; decide) dX8_nextWeek_45 h (fun v8 hs h => WG_st (st' := [.int v8, va_rf v6]) rfl ?_)
      refine q_callV C (CN := RX6) (T := TX6) (N := 6) [.int v8] [] (fun a0 o2 hs1 hm => m_X6_repair hm) lk_X8_346 im_X6_repair se_X6_X6_repair rfl ⟨(Nat.le_of_ble_eq_true rfl), (Nat.le_of_ble_eq_true rfl)⟩ ⟨(Nat.le_of_ble_eq_true rfl), (Nat.le_of_ble_eq_true rfl)⟩ rfl rfl (by decide) dX8_nextWeek_48 h (fun v9 hs h => WG_st (st' := [.int v9]) rfl ?_)
      refine q_pop C rfl dX8_nextWeek_51 ?_
      refine q_aload_n C 0 dX8_nextWeek_52 rfl ?_
      refine q_dup C (cat_rf _) dX8_nextWeek_53 ?_
      refine q_gI C fl_X8_380 dX8_nextWeek_54 h (fun v10 h => ?_)
      refine q_iconst C (1 : Int32) dX8_nextWeek_57 (by decide) ?_
      refine q_iadd C dX8_nextWeek_58 ?_
      refine q_pI C fw_X8_380 (fun z => nomatch z) dX8_nextWeek_59 h (fun hs h => ?_)
      refine q_aload_n C 0 dX8_nextWeek_62 rfl ?_
      refine q_gI C fl_X8_380 dX8_nextWeek_63 h (fun v11 h => ?_)
      exact q_iret C C2 rfl (Nat.le_of_ble_eq_true rfl) (Nat.le_of_ble_eq_true rfl) dX8_nextWeek_66 h
    · exact q_throw C C2 (k := 2) (tx := "today is not the last day") wc_X8_x74 iw_x2 at_X8_78 (by decide +kernel) (Nat.le_of_ble_eq_true rfl) (Nat.le_of_ble_eq_true rfl) (Nat.le_of_ble_eq_true rfl) (Nat.le_of_ble_eq_true rfl) (Nat.le_of_ble_eq_true rfl) (Nat.le_of_ble_eq_true rfl) (by decide) dX8_nextWeek_11 dX8_nextWeek_14 (Or.inr ⟨rfl, dX8_nextWeek_15⟩) dX8_nextWeek_18 dX8_nextWeek_21 h
  rw [lg_entry_eq]
  exact key _ _ _ hR va_S.rf ⟨lv_entry _ (n := 1) (Nat.le_of_ble_eq_true rfl), (c1_r c1_n)⟩

theorem cd_X8_today : Cond.code yX8_today cX8_today 1 (some .int) ∈ Tg := Tg_of (i := 540) (by decide +kernel) (by decide +kernel)
section M_X8_today
variable {p : Program} {l : Launch} {e : Env} {s : State} {m : MethodId} {args : Array Value} {below : List Frame} {meth : Method} {c : Code} {G : GG} {o : Except Nat Int32} {hs' : Hs}
end M_X8_today
def f_X8_today (a0 : Nat) : OO Int32 :=
    gR (some a0) 11 1 fun v1 =>
    gI v1 9 5 fun v2 =>
    rtn v2
set_option maxRecDepth 100000 in
set_option maxHeartbeats 4000000 in
theorem m_X8_today {G : GG} {l : Launch} {a0 : Nat} {hs hs' : Hs} {o : Except Nat Int32} (h : f_X8_today a0 hs = some (o, hs')) : CT G l yX8_today cX8_today 1 (some .int) 0 0 0 0 [.ref a0] hs o hs' tvI := by
  refine vx_ofW (cc := cX8_today) (maxL := 1) (ret := (some .int)) (by decide +kernel) rfl ?_
  intro p e s m args below meth c s₁ B hml hxt hv
  obtain ⟨hav, hR, hKn⟩ := hv
  subst hav
  have hts := atoms_spec (ws := .code yX8_today cX8_today 1 (some .int) :: Tg) B.pre
  have C : Cx G l p s m _ c RX8 cX8_today 1 := ⟨B.exec, B.bytes, hml, findClass_of_methodNamed B.named, fun w hw => hts w (List.mem_cons_of_mem _ hw), hKn, fun q hq => Nat.le_trans hR.2.2.1 hq⟩
  have C2 : Cy meth c (some .int) := ⟨B.returns, B.notSynchronized, hxt⟩
  have key : WG G p l e { frames := 0, cells := 0, slots := 0, locals := 0 } s m ([.ref a0] : List Value).toArray below meth c 1 0 0 (vx_MQ below (QcT G o hs' tvI) (XCT G o hs') ([.ref a0] : List Value).toArray s 0 0 (gA G)) hs [(0, va_rf (some a0))] [] 0 := by
    unfold f_X8_today at h
    refine q_aload_n C 0 dX8_today_0 rfl ?_
    refine q_gR C fl_X8_19 dX8_today_1 h (fun v1 h => ?_)
    refine q_gI C fl_X8_325 dX8_today_4 h (fun v2 h => ?_)
    exact q_iret C C2 rfl (Nat.le_of_ble_eq_true rfl) (Nat.le_of_ble_eq_true rfl) dX8_today_7 h
  rw [lg_entry_eq]
  exact key _ _ _ hR va_S.rf ⟨lv_entry _ (n := 1) (Nat.le_of_ble_eq_true rfl), (c1_r c1_n)⟩

theorem cd_X8_account : Cond.code yX8_account cX8_account 2 (some .int) ∈ Tg := Tg_of (i := 1403) (by decide +kernel) (by decide +kernel)
theorem wf_X8_383 : Cond.fieldLink RX8 383 RX7 (TX7 2).2.1 (TX7 2).2.2.1 ∈ Tg := Tg_of (i := 797) (by decide +kernel) (by decide +kernel)
theorem fl_X8_383 : Fld RX8 383 10 2 .int := ⟨RX7, TX7, 3, RX7, rfl, by decide, wf_X8_383, (Or.inl rfl), gu_X7, tyX7_ok _ (by decide), ⟨tyX7, tyX7_ok⟩, nmX7⟩
section M_X8_account
variable {p : Program} {l : Launch} {e : Env} {s : State} {m : MethodId} {args : Array Value} {below : List Frame} {meth : Method} {c : Code} {G : GG} {o : Except Nat Int32} {hs' : Hs}
end M_X8_account
def f_X8_account (a0 : Nat) (p1 : Int32) : OO Int32 :=
    rcv (some a0) 11 fun r3 => call (f_X8_teacherNumbered r3 p1) (fun (v1 : Option Nat) =>
    gI v1 10 2 fun v2 =>
    rtn v2) thr
set_option maxRecDepth 100000 in
set_option maxHeartbeats 4000000 in
theorem m_X8_account {G : GG} {l : Launch} {a0 : Nat} {p1 : Int32} {hs hs' : Hs} {o : Except Nat Int32} (h : f_X8_account a0 p1 hs = some (o, hs')) : CT G l yX8_account cX8_account 2 (some .int) 7 221 1 6 [.ref a0, .int p1] hs o hs' tvI := by
  refine vx_ofW (cc := cX8_account) (maxL := 2) (ret := (some .int)) (by decide +kernel) rfl ?_
  intro p e s m args below meth c s₁ B hml hxt hv
  obtain ⟨hav, hR, hKn⟩ := hv
  subst hav
  have hts := atoms_spec (ws := .code yX8_account cX8_account 2 (some .int) :: Tg) B.pre
  have C : Cx G l p s m _ c RX8 cX8_account 2 := ⟨B.exec, B.bytes, hml, findClass_of_methodNamed B.named, fun w hw => hts w (List.mem_cons_of_mem _ hw), hKn, fun q hq => Nat.le_trans hR.2.2.1 hq⟩
  have C2 : Cy meth c (some .int) := ⟨B.returns, B.notSynchronized, hxt⟩
  have key : WG G p l e { frames := 7, cells := 1, slots := 6, locals := 221 } s m ([.ref a0, .int p1] : List Value).toArray below meth c 2 0 0 (vx_MQ below (QcT G o hs' tvI) (XCT G o hs') ([.ref a0, .int p1] : List Value).toArray s 1 6 (gA G)) hs [(0, va_rf (some a0)), (1, .int p1)] [] 0 := by
    unfold f_X8_account at h
    refine q_aload_n C 0 dX8_account_0 rfl ?_
    refine q_iload_n C 1 dX8_account_1 rfl ?_
    refine q_callVX C (CN := RX8) (T := TX8) (N := 10) [.int p1] [] C2 ⟨(Nat.le_of_ble_eq_true rfl), (Nat.le_of_ble_eq_true rfl)⟩ (fun a0 o2 hs1 hm => m_X8_teacherNumbered hm) lk_X8_115 im_X8_teacherNumbered se_X8_X8_teacherNumbered rfl ⟨(Nat.le_of_ble_eq_true rfl), (Nat.le_of_ble_eq_true rfl)⟩ ⟨(Nat.le_of_ble_eq_true rfl), (Nat.le_of_ble_eq_true rfl)⟩ rfl rfl (by decide) dX8_account_2 h (fun v1 hs h => WG_st (st' := [va_rf v1]) rfl ?_)
    refine q_gI C fl_X8_383 dX8_account_5 h (fun v2 h => ?_)
    exact q_iret C C2 rfl (Nat.le_of_ble_eq_true rfl) (Nat.le_of_ble_eq_true rfl) dX8_account_8 h
  rw [lg_entry_eq]
  exact key _ _ _ hR va_S.rf ⟨lv_entry _ (n := 2) (Nat.le_of_ble_eq_true rfl), (c1_r (c1_i c1_n))⟩

theorem cd_X8_save : Cond.code yX8_save cX8_save 1 (some .int) ∈ Tg := Tg_of (i := 1410) (by decide +kernel) (by decide +kernel)
theorem wf_X8_386 : Cond.fieldLink RX8 386 RX8 (TX8 8).2.1 (TX8 8).2.2.1 ∈ Tg := Tg_of (i := 230) (by decide +kernel) (by decide +kernel)
theorem fl_X8_386 : Fld RX8 386 11 8 .int := ⟨RX8, TX8, 10, RX8, rfl, by decide, wf_X8_386, (Or.inl rfl), gu_X8, tyX8_ok _ (by decide), ⟨tyX8, tyX8_ok⟩, nmX8⟩
theorem fl_X8_46 : Fld RX8 46 11 5 (.array (.array .int)) := ⟨RX8, TX8, 10, RX8, rfl, by decide, wf_X8_46, (Or.inl rfl), gu_X8, tyX8_ok _ (by decide), ⟨tyX8, tyX8_ok⟩, nmX8⟩
theorem ml_X8_391 : Cond.methodLink RX8 391 yX6_copyPlaces ∈ Tg := Tg_of (i := 1412) (by decide +kernel) (by decide +kernel)
theorem lk_X8_391 : Lk RX8 391 yX6_copyPlaces cX6_copyPlaces 3 none 1 := ⟨ml_X8_391, cd_X6_copyPlaces, iw_X6, by decide +kernel⟩
theorem fw_X8_386 : FldW RX8 386 11 8 .int false := ⟨RX8, TX8, 10, RX8, rfl, by decide, wf_X8_386, (Or.inl rfl), gu_X8, tyX8_ok _ (by decide), ⟨tyX8, tyX8_ok⟩, nmX8, rfl, fun z => nomatch z⟩
section M_X8_save
variable {p : Program} {l : Launch} {e : Env} {s : State} {m : MethodId} {args : Array Value} {below : List Frame} {meth : Method} {c : Code} {G : GG} {o : Except Nat Int32} {hs' : Hs}
end M_X8_save
def f_X8_save (a0 : Nat) : OO Int32 :=
    gI (some a0) 11 8 fun v1 =>
    gR (some a0) 11 5 fun v2 =>
    alen v2 fun v3 =>
    (if v1 < v3 then
    gR (some a0) 11 1 fun v4 =>
    gR (some a0) 11 5 fun v5 =>
    gI (some a0) 11 8 fun v6 =>
    ldR 5 v5 v6 fun v7 =>
    rcv v4 9 fun r11 => call (f_X6_copyPlaces r11 v7) (fun (v8 : Unit) =>
    gI (some a0) 11 8 fun v9 =>
    pI (some a0) 11 8 (v9 + (1 : Int32)) (
    gI (some a0) 11 8 fun v10 =>
    rtn (v10 - (1 : Int32)))) nox
    else
    nthrow 2)
set_option maxRecDepth 100000 in
set_option maxHeartbeats 4000000 in
theorem m_X8_save {G : GG} {l : Launch} {a0 : Nat} {hs hs' : Hs} {o : Except Nat Int32} (h : f_X8_save a0 hs = some (o, hs')) : CT G l yX8_save cX8_save 1 (some .int) 6 200 1 6 [.ref a0] hs o hs' tvI := by
  refine vx_ofW (cc := cX8_save) (maxL := 1) (ret := (some .int)) (by decide +kernel) rfl ?_
  intro p e s m args below meth c s₁ B hml hxt hv
  obtain ⟨hav, hR, hKn⟩ := hv
  subst hav
  have hts := atoms_spec (ws := .code yX8_save cX8_save 1 (some .int) :: Tg) B.pre
  have C : Cx G l p s m _ c RX8 cX8_save 1 := ⟨B.exec, B.bytes, hml, findClass_of_methodNamed B.named, fun w hw => hts w (List.mem_cons_of_mem _ hw), hKn, fun q hq => Nat.le_trans hR.2.2.1 hq⟩
  have C2 : Cy meth c (some .int) := ⟨B.returns, B.notSynchronized, hxt⟩
  have key : WG G p l e { frames := 6, cells := 1, slots := 6, locals := 200 } s m ([.ref a0] : List Value).toArray below meth c 1 0 0 (vx_MQ below (QcT G o hs' tvI) (XCT G o hs') ([.ref a0] : List Value).toArray s 1 6 (gA G)) hs [(0, va_rf (some a0))] [] 0 := by
    unfold f_X8_save at h
    refine q_aload_n C 0 dX8_save_0 rfl ?_
    refine q_gI C fl_X8_386 dX8_save_1 h (fun v1 h => ?_)
    refine q_aload_n C 0 dX8_save_4 rfl ?_
    refine q_gR C fl_X8_46 dX8_save_5 h (fun v2 h => ?_)
    refine q_alen C dX8_save_8 h (fun v3 h => ?_)
    refine q_icmp_lt C 23 dX8_save_9 (by decide) h (fun h => ?_) (fun h => ?_)
    · refine q_aload_n C 0 dX8_save_23 rfl ?_
      refine q_gR C fl_X8_19 dX8_save_24 h (fun v4 h => ?_)
      refine q_aload_n C 0 dX8_save_27 rfl ?_
      refine q_gR C fl_X8_46 dX8_save_28 h (fun v5 h => ?_)
      refine q_aload_n C 0 dX8_save_31 rfl ?_
      refine q_gI C fl_X8_386 dX8_save_32 h (fun v6 h => ?_)
      refine q_aaldA C dX8_save_35 h (fun v7 h => ?_)
      refine q_callV C (CN := RX6) (T := TX6) (N := 6) [va_rf v7] [] (fun a0 o2 hs1 hm => m_X6_copyPlaces hm) lk_X8_391 im_X6_copyPlaces se_X6_X6_copyPlaces rfl ⟨(Nat.le_of_ble_eq_true rfl), (Nat.le_of_ble_eq_true rfl)⟩ ⟨(Nat.le_of_ble_eq_true rfl), (Nat.le_of_ble_eq_true rfl)⟩ rfl rfl (by decide) dX8_save_36 h (fun v8 hs h => WG_st (st' := []) rfl ?_)
      refine q_aload_n C 0 dX8_save_39 rfl ?_
      refine q_dup C (cat_rf _) dX8_save_40 ?_
      refine q_gI C fl_X8_386 dX8_save_41 h (fun v9 h => ?_)
      refine q_iconst C (1 : Int32) dX8_save_44 (by decide) ?_
      refine q_iadd C dX8_save_45 ?_
      refine q_pI C fw_X8_386 (fun z => nomatch z) dX8_save_46 h (fun hs h => ?_)
      refine q_aload_n C 0 dX8_save_49 rfl ?_
      refine q_gI C fl_X8_386 dX8_save_50 h (fun v10 h => ?_)
      refine q_iconst C (1 : Int32) dX8_save_53 (by decide) ?_
      refine q_isub C dX8_save_54 ?_
      exact q_iret C C2 rfl (Nat.le_of_ble_eq_true rfl) (Nat.le_of_ble_eq_true rfl) dX8_save_55 h
    · exact q_throw C C2 (k := 2) (tx := "there are 6 versions") wc_X8_x74 iw_x2 at_X8_78 (by decide +kernel) (Nat.le_of_ble_eq_true rfl) (Nat.le_of_ble_eq_true rfl) (Nat.le_of_ble_eq_true rfl) (Nat.le_of_ble_eq_true rfl) (Nat.le_of_ble_eq_true rfl) (Nat.le_of_ble_eq_true rfl) (by decide) dX8_save_12 dX8_save_15 (Or.inr ⟨rfl, dX8_save_16⟩) dX8_save_19 dX8_save_22 h
  rw [lg_entry_eq]
  exact key _ _ _ hR va_S.rf ⟨lv_entry _ (n := 1) (Nat.le_of_ble_eq_true rfl), (c1_r c1_n)⟩

theorem cd_X8_versionNumbered : Cond.code yX8_versionNumbered cX8_versionNumbered 2 (some (.array .int)) ∈ Tg := Tg_of (i := 1423) (by decide +kernel) (by decide +kernel)
section M_X8_versionNumbered
variable {p : Program} {l : Launch} {e : Env} {s : State} {m : MethodId} {args : Array Value} {below : List Frame} {meth : Method} {c : Code} {G : GG} {o : Except Nat (Option Nat)} {hs' : Hs}
def j_X8_versionNumbered_21    : OO (Option Nat) :=
  nthrow 3
set_option maxRecDepth 100000 in
set_option maxHeartbeats 4000000 in
theorem w_j_X8_versionNumbered_21 (C : Cx G l p s m args c RX8 cX8_versionNumbered 2) (C2 : Cy meth c (some (.array .int))) {hs : Hs}     (h : j_X8_versionNumbered_21 hs = some (o, hs')) : WG G p l e { frames := 6, cells := 1, slots := 6, locals := 200 } s m args below meth c 2 0 0 (vx_MQ below (QcT G o hs' tvR) (XCT G o hs') args s 1 6 (gA G)) hs [] [] 21 := by
  unfold j_X8_versionNumbered_21 at h
  exact q_throwN C C2 (k := 3) (tx := "no such version") wc_X8_x190 iw_x3 at_X8_194 (by decide +kernel) (Nat.le_of_ble_eq_true rfl) (Nat.le_of_ble_eq_true rfl) (Nat.le_of_ble_eq_true rfl) (Nat.le_of_ble_eq_true rfl) (Nat.le_of_ble_eq_true rfl) (Nat.le_of_ble_eq_true rfl) (by decide) dX8_versionNumbered_21 dX8_versionNumbered_24 (Or.inr ⟨rfl, dX8_versionNumbered_25⟩) dX8_versionNumbered_28 dX8_versionNumbered_31 h
end M_X8_versionNumbered
def f_X8_versionNumbered (a0 : Nat) (p1 : Int32) : OO (Option Nat) :=
    (if p1 < 0 then
    j_X8_versionNumbered_21
    else
    gI (some a0) 11 8 fun v1 =>
    (if v1 ≤ p1 then
    j_X8_versionNumbered_21
    else
    gR (some a0) 11 5 fun v2 =>
    alen v2 fun v3 =>
    (if p1 < v3 then
    gR (some a0) 11 5 fun v4 =>
    ldR 5 v4 p1 fun v5 =>
    rtn v5
    else
    j_X8_versionNumbered_21)))
set_option maxRecDepth 100000 in
set_option maxHeartbeats 4000000 in
theorem m_X8_versionNumbered {G : GG} {l : Launch} {a0 : Nat} {p1 : Int32} {hs hs' : Hs} {o : Except Nat (Option Nat)} (h : f_X8_versionNumbered a0 p1 hs = some (o, hs')) : CT G l yX8_versionNumbered cX8_versionNumbered 2 (some (.array .int)) 6 200 1 6 [.ref a0, .int p1] hs o hs' tvR := by
  refine vx_ofW (cc := cX8_versionNumbered) (maxL := 2) (ret := (some (.array .int))) (by decide +kernel) rfl ?_
  intro p e s m args below meth c s₁ B hml hxt hv
  obtain ⟨hav, hR, hKn⟩ := hv
  subst hav
  have hts := atoms_spec (ws := .code yX8_versionNumbered cX8_versionNumbered 2 (some (.array .int)) :: Tg) B.pre
  have C : Cx G l p s m _ c RX8 cX8_versionNumbered 2 := ⟨B.exec, B.bytes, hml, findClass_of_methodNamed B.named, fun w hw => hts w (List.mem_cons_of_mem _ hw), hKn, fun q hq => Nat.le_trans hR.2.2.1 hq⟩
  have C2 : Cy meth c (some (.array .int)) := ⟨B.returns, B.notSynchronized, hxt⟩
  have key : WG G p l e { frames := 6, cells := 1, slots := 6, locals := 200 } s m ([.ref a0, .int p1] : List Value).toArray below meth c 2 0 0 (vx_MQ below (QcT G o hs' tvR) (XCT G o hs') ([.ref a0, .int p1] : List Value).toArray s 1 6 (gA G)) hs [(0, va_rf (some a0)), (1, .int p1)] [] 0 := by
    unfold f_X8_versionNumbered at h
    refine q_iload_n C 1 dX8_versionNumbered_0 rfl ?_
    refine q_if_lt C 21 dX8_versionNumbered_1 (by decide) h (fun h => ?_) (fun h => ?_)
    · refine WG.sub [] rfl ?_
      exact w_j_X8_versionNumbered_21 C C2    h
    · refine q_iload_n C 1 dX8_versionNumbered_4 rfl ?_
      refine q_aload_n C 0 dX8_versionNumbered_5 rfl ?_
      refine q_gI C fl_X8_386 dX8_versionNumbered_6 h (fun v1 h => ?_)
      refine q_icmp_ge C 21 dX8_versionNumbered_9 (by decide) h (fun h => ?_) (fun h => ?_)
      · refine WG.sub [] rfl ?_
        exact w_j_X8_versionNumbered_21 C C2    h
      · refine q_iload_n C 1 dX8_versionNumbered_12 rfl ?_
        refine q_aload_n C 0 dX8_versionNumbered_13 rfl ?_
        refine q_gR C fl_X8_46 dX8_versionNumbered_14 h (fun v2 h => ?_)
        refine q_alen C dX8_versionNumbered_17 h (fun v3 h => ?_)
        refine q_icmp_lt C 32 dX8_versionNumbered_18 (by decide) h (fun h => ?_) (fun h => ?_)
        · refine q_aload_n C 0 dX8_versionNumbered_32 rfl ?_
          refine q_gR C fl_X8_46 dX8_versionNumbered_33 h (fun v4 h => ?_)
          refine q_iload_n C 1 dX8_versionNumbered_36 rfl ?_
          refine q_aaldA C dX8_versionNumbered_37 h (fun v5 h => ?_)
          exact q_aret C C2 rfl (Or.inr ⟨_, rfl⟩) (Nat.le_of_ble_eq_true rfl) (Nat.le_of_ble_eq_true rfl) dX8_versionNumbered_38 h
        · refine WG.sub [] rfl ?_
          exact w_j_X8_versionNumbered_21 C C2    h
  rw [lg_entry_eq]
  exact key _ _ _ hR va_S.rf ⟨lv_entry _ (n := 2) (Nat.le_of_ble_eq_true rfl), (c1_r (c1_i c1_n))⟩

theorem cd_X8_placeIn : Cond.code yX8_placeIn cX8_placeIn 5 (some .int) ∈ Tg := Tg_of (i := 1419) (by decide +kernel) (by decide +kernel)
theorem ml_X8_395 : Cond.methodLink RX8 395 yX8_versionNumbered ∈ Tg := Tg_of (i := 1420) (by decide +kernel) (by decide +kernel)
theorem lk_X8_395 : Lk RX8 395 yX8_versionNumbered cX8_versionNumbered 2 (some (.array .int)) 1 := ⟨ml_X8_395, cd_X8_versionNumbered, iw_X8, by decide +kernel⟩
theorem im_X8_versionNumbered : Cond.instanceMethod yX8_versionNumbered ∈ Tg := Tg_of (i := 1422) (by decide +kernel) (by decide +kernel)
theorem se_X8_X8_versionNumbered : Cond.selects RX8 yX8_versionNumbered yX8_versionNumbered ∈ Tg := Tg_of (i := 35) (by decide +kernel) (by decide +kernel)
section M_X8_placeIn
variable {p : Program} {l : Launch} {e : Env} {s : State} {m : MethodId} {args : Array Value} {below : List Frame} {meth : Method} {c : Code} {G : GG} {o : Except Nat Int32} {hs' : Hs}
end M_X8_placeIn
def f_X8_placeIn (a0 : Nat) (p1 : Int32) (p2 : Int32) : OO Int32 :=
    rcv (some a0) 11 fun r8 => call (f_X8_versionNumbered r8 p1) (fun (v1 : Option Nat) =>
    lets v1 fun (v2 : Option Nat) =>
    rcv (some a0) 11 fun r7 => call (f_X8_lessonNumbered r7 p2) (fun (v3 : Option Nat) =>
    gI v3 7 0 fun v4 =>
    call (f_X8_at v2 v4) (fun (v5 : Int32) =>
    lets v5 fun (v6 : Int32) =>
    (if ¬ v6 = (-1 : Int32) then
    rtn v6
    else
    nthrow 3)) nox) thr) thr
set_option maxRecDepth 100000 in
set_option maxHeartbeats 4000000 in
theorem m_X8_placeIn {G : GG} {l : Launch} {a0 : Nat} {p1 : Int32} {p2 : Int32} {hs hs' : Hs} {o : Except Nat Int32} (h : f_X8_placeIn a0 p1 p2 hs = some (o, hs')) : CT G l yX8_placeIn cX8_placeIn 5 (some .int) 7 221 3 18 [.ref a0, .int p1, .int p2] hs o hs' tvI := by
  refine vx_ofW (cc := cX8_placeIn) (maxL := 5) (ret := (some .int)) (by decide +kernel) rfl ?_
  intro p e s m args below meth c s₁ B hml hxt hv
  obtain ⟨hav, hR, hKn⟩ := hv
  subst hav
  have hts := atoms_spec (ws := .code yX8_placeIn cX8_placeIn 5 (some .int) :: Tg) B.pre
  have C : Cx G l p s m _ c RX8 cX8_placeIn 5 := ⟨B.exec, B.bytes, hml, findClass_of_methodNamed B.named, fun w hw => hts w (List.mem_cons_of_mem _ hw), hKn, fun q hq => Nat.le_trans hR.2.2.1 hq⟩
  have C2 : Cy meth c (some .int) := ⟨B.returns, B.notSynchronized, hxt⟩
  have key : WG G p l e { frames := 7, cells := 3, slots := 18, locals := 221 } s m ([.ref a0, .int p1, .int p2] : List Value).toArray below meth c 5 0 0 (vx_MQ below (QcT G o hs' tvI) (XCT G o hs') ([.ref a0, .int p1, .int p2] : List Value).toArray s 3 18 (gA G)) hs [(0, va_rf (some a0)), (1, .int p1), (2, .int p2)] [] 0 := by
    unfold f_X8_placeIn at h
    refine q_aload_n C 0 dX8_placeIn_0 rfl ?_
    refine q_iload_n C 1 dX8_placeIn_1 rfl ?_
    refine q_callVX C (CN := RX8) (T := TX8) (N := 10) [.int p1] [] C2 ⟨(Nat.le_of_ble_eq_true rfl), (Nat.le_of_ble_eq_true rfl)⟩ (fun a0 o2 hs1 hm => m_X8_versionNumbered hm) lk_X8_395 im_X8_versionNumbered se_X8_X8_versionNumbered rfl ⟨(Nat.le_of_ble_eq_true rfl), (Nat.le_of_ble_eq_true rfl)⟩ ⟨(Nat.le_of_ble_eq_true rfl), (Nat.le_of_ble_eq_true rfl)⟩ rfl rfl (by decide) dX8_placeIn_2 h (fun v1 hs h => WG_st (st' := [va_rf v1]) rfl ?_)
    refine q_astore_n C (fun v2 => [(3, va_rf v2), (0, va_rf (some a0)), (1, .int p1), (2, .int p2)]) dX8_placeIn_5 (by decide) (fun _ => rfl) h (fun v2 h => ?_)
    refine q_aload_n C 0 dX8_placeIn_6 rfl ?_
    refine q_aload_n C 1 dX8_placeIn_7 rfl ?_
    refine q_iload_n C 3 dX8_placeIn_8 rfl ?_
    refine q_callVX C (CN := RX8) (T := TX8) (N := 10) [.int p2] [va_rf v2] C2 ⟨(Nat.le_of_ble_eq_true rfl), (Nat.le_of_ble_eq_true rfl)⟩ (fun a0 o2 hs1 hm => m_X8_lessonNumbered hm) lk_X8_149 im_X8_lessonNumbered se_X8_X8_lessonNumbered rfl ⟨(Nat.le_of_ble_eq_true rfl), (Nat.le_of_ble_eq_true rfl)⟩ ⟨(Nat.le_of_ble_eq_true rfl), (Nat.le_of_ble_eq_true rfl)⟩ rfl rfl (by simp only [List.map, cat_rf, cat_i, cat_a]; decide) dX8_placeIn_9 h (fun v3 hs h => WG_st (st' := [va_rf v3, va_rf v2]) rfl ?_)
    refine q_gI C fl_X8_251 dX8_placeIn_12 h (fun v4 h => ?_)
    refine q_callS C [va_rf v2, .int v4] [] (fun o2 hs1 hm => m_X8_at hm) lk_X8_308 sm_X8_at ⟨(Nat.le_of_ble_eq_true rfl), (Nat.le_of_ble_eq_true rfl)⟩ ⟨(Nat.le_of_ble_eq_true rfl), (Nat.le_of_ble_eq_true rfl)⟩ rfl rfl (by decide) dX8_placeIn_15 h (fun v5 hs h => WG_st (st' := [.int v5]) rfl ?_)
    refine q_istore C (fun v6 => [(4, .int v6), (3, va_rf v2), (0, va_rf (some a0)), (1, .int p1), (2, .int p2)]) dX8_placeIn_18 (by decide) (fun _ => rfl) h (fun v6 h => ?_)
    refine q_iload C 0 dX8_placeIn_20 rfl ?_
    refine q_iconst C (-1 : Int32) dX8_placeIn_22 (by decide) ?_
    refine q_icmp_ne C 37 dX8_placeIn_23 (by decide) h (fun h => ?_) (fun h => ?_)
    · refine q_iload C 0 dX8_placeIn_37 rfl ?_
      exact q_iret C C2 rfl (Nat.le_of_ble_eq_true rfl) (Nat.le_of_ble_eq_true rfl) dX8_placeIn_39 h
    · exact q_throwN C C2 (k := 3) (tx := "the lesson has no place in the version") wc_X8_x190 iw_x3 at_X8_194 (by decide +kernel) (Nat.le_of_ble_eq_true rfl) (Nat.le_of_ble_eq_true rfl) (Nat.le_of_ble_eq_true rfl) (Nat.le_of_ble_eq_true rfl) (Nat.le_of_ble_eq_true rfl) (Nat.le_of_ble_eq_true rfl) (by decide) dX8_placeIn_26 dX8_placeIn_29 (Or.inr ⟨rfl, dX8_placeIn_30⟩) dX8_placeIn_33 dX8_placeIn_36 h
  rw [lg_entry_eq]
  exact key _ _ _ hR va_S.rf ⟨lv_entry _ (n := 5) (Nat.le_of_ble_eq_true rfl), (c1_r (c1_i (c1_i c1_n)))⟩

theorem cd_X8_differences : Cond.code yX8_differences cX8_differences 7 (some .int) ∈ Tg := Tg_of (i := 1432) (by decide +kernel) (by decide +kernel)
section M_X8_differences
variable {p : Program} {l : Launch} {e : Env} {s : State} {m : MethodId} {args : Array Value} {below : List Frame} {meth : Method} {c : Code} {G : GG} {o : Except Nat Int32} {hs' : Hs}
def j_X8_differences_45 (a3 : Option Nat) (a4 : Option Nat) (a5 : Int32) (a6 : Int32)  (rec_19 : Int32 → Int32 → OO Int32) : OO Int32 :=
  lets (a6 + (1 : Int32)) fun (v9 : Int32) =>
    rec_19 a5 v9
set_option maxRecDepth 100000 in
set_option maxHeartbeats 4000000 in
theorem w_j_X8_differences_45 (C : Cx G l p s m args c RX8 cX8_differences 7) (C2 : Cy meth c (some .int)) {hs : Hs} (a3 : Option Nat) (a4 : Option Nat) (a5 : Int32) (a6 : Int32)  (rec_19 : Int32 → Int32 → OO Int32) (hrec_19 : ∀ (y5 : Int32) (y6 : Int32) hs, rec_19 y5 y6 hs = some (o, hs') → WG G p l e { frames := 7, cells := 2, slots := 12, locals := 221 } s m args below meth c 7 2 12 (vx_MQ below (QcT G o hs' tvI) (XCT G o hs') args s 2 12 (gA G)) hs [(3, va_rf a3), (4, va_rf a4), (5, .int y5), (6, .int y6)] [] 19) (h : j_X8_differences_45 a3 a4 a5 a6 rec_19 hs = some (o, hs')) : WG G p l e { frames := 7, cells := 2, slots := 12, locals := 221 } s m args below meth c 7 2 12 (vx_MQ below (QcT G o hs' tvI) (XCT G o hs') args s 2 12 (gA G)) hs [(3, va_rf a3), (4, va_rf a4), (5, .int a5), (6, .int a6)] [] 45 := by
  unfold j_X8_differences_45 at h
  refine q_iinc C 3 (1 : Int32) (fun v9 => [(6, .int v9), (3, va_rf a3), (4, va_rf a4), (5, .int a5)]) dX8_differences_45 rfl (by decide) (by decide) (fun _ => rfl) h (fun v9 h => ?_)
  refine q_goto C 19 dX8_differences_48 (by decide) ?_
  refine WG.sub [1, 2, 3, 0] rfl ?_
  exact hrec_19 _ _ _ h
def L_X8_differences_19 (a3 : Option Nat) (a4 : Option Nat) (k_19_51 : Int32 → OO Int32) : Nat → Int32 → Int32 → OO Int32
  | 0, _, _ => failO
  | n + 1, x5, x6 =>
    (if (16 : Int32) ≤ x6 then
    k_19_51 x5
    else
    call (f_X8_at a3 x6) (fun (v7 : Int32) =>
    call (f_X8_at a4 x6) (fun (v8 : Int32) =>
    (if v7 = v8 then
    j_X8_differences_45 a3 a4 x5 x6 (L_X8_differences_19 a3 a4 k_19_51 n)
    else
    lets (x5 + (1 : Int32)) fun (v10 : Int32) =>
    j_X8_differences_45 a3 a4 v10 x6 (L_X8_differences_19 a3 a4 k_19_51 n))) nox) nox)
set_option maxRecDepth 100000 in
set_option maxHeartbeats 4000000 in
theorem w_L_X8_differences_19 (C : Cx G l p s m args c RX8 cX8_differences 7) (C2 : Cy meth c (some .int)) (a3 : Option Nat) (a4 : Option Nat) (k_19_51 : Int32 → OO Int32) (hk_19_51 : ∀ (y5 : Int32) hs, k_19_51 y5 hs = some (o, hs') → WG G p l e { frames := 7, cells := 2, slots := 12, locals := 221 } s m args below meth c 7 2 12 (vx_MQ below (QcT G o hs' tvI) (XCT G o hs') args s 2 12 (gA G)) hs [(5, .int y5)] [] 51) : ∀ (n : Nat) (x5 : Int32) (x6 : Int32) (hs : Hs), L_X8_differences_19 a3 a4 k_19_51 n x5 x6 hs = some (o, hs') → WG G p l e { frames := 7, cells := 2, slots := 12, locals := 221 } s m args below meth c 7 2 12 (vx_MQ below (QcT G o hs' tvI) (XCT G o hs') args s 2 12 (gA G)) hs [(3, va_rf a3), (4, va_rf a4), (5, .int x5), (6, .int x6)] [] 19 := by
  intro n
  induction n with
  | zero =>
    intro x5 x6 hs h
    rw [L_X8_differences_19] at h
    exact absurd h failO_e
  | succ n hrec_19 =>
    intro x5 x6 hs h
    rw [L_X8_differences_19] at h
    refine q_iload C 3 dX8_differences_19 rfl ?_
    refine q_bipush C (16 : Int32) dX8_differences_21 (by decide) ?_
    refine q_icmp_ge C 51 dX8_differences_23 (by decide) h (fun h => ?_) (fun h => ?_)
    · refine WG.sub [2] rfl ?_
      exact hk_19_51 _ _ h
    · refine q_aload_n C 0 dX8_differences_26 rfl ?_
      refine q_iload C 3 dX8_differences_27 rfl ?_
      refine q_callS C [va_rf a3, .int x6] [] (fun o2 hs1 hm => m_X8_at hm) lk_X8_308 sm_X8_at ⟨(Nat.le_of_ble_eq_true rfl), (Nat.le_of_ble_eq_true rfl)⟩ ⟨(Nat.le_of_ble_eq_true rfl), (Nat.le_of_ble_eq_true rfl)⟩ rfl rfl (by decide) dX8_differences_29 h (fun v7 hs h => WG_st (st' := [.int v7]) rfl ?_)
      refine q_aload C 1 dX8_differences_32 rfl ?_
      refine q_iload C 3 dX8_differences_34 rfl ?_
      refine q_callS C [va_rf a4, .int x6] [.int v7] (fun o2 hs1 hm => m_X8_at hm) lk_X8_308 sm_X8_at ⟨(Nat.le_of_ble_eq_true rfl), (Nat.le_of_ble_eq_true rfl)⟩ ⟨(Nat.le_of_ble_eq_true rfl), (Nat.le_of_ble_eq_true rfl)⟩ rfl rfl (by simp only [List.map, cat_rf, cat_i, cat_a]; decide) dX8_differences_36 h (fun v8 hs h => WG_st (st' := [.int v8, .int v7]) rfl ?_)
      refine q_icmp_eq C 45 dX8_differences_39 (by decide) h (fun h => ?_) (fun h => ?_)
      · exact w_j_X8_differences_45 C C2 _ _ _ _ _ hrec_19 h
      · refine q_iinc C 2 (1 : Int32) (fun v10 => [(5, .int v10), (3, va_rf a3), (4, va_rf a4), (6, .int x6)]) dX8_differences_42 rfl (by decide) (by decide) (fun _ => rfl) h (fun v10 h => ?_)
        refine WG.sub [1, 2, 0, 3] rfl ?_
        exact w_j_X8_differences_45 C C2 _ _ _ _ _ hrec_19 h
end M_X8_differences
def f_X8_differences (a0 : Nat) (p1 : Int32) (p2 : Int32) : OO Int32 :=
    rcv (some a0) 11 fun r13 => call (f_X8_versionNumbered r13 p1) (fun (v1 : Option Nat) =>
    lets v1 fun (v2 : Option Nat) =>
    rcv (some a0) 11 fun r12 => call (f_X8_versionNumbered r12 p2) (fun (v3 : Option Nat) =>
    lets v3 fun (v4 : Option Nat) =>
    lets (0 : Int32) fun (v5 : Int32) =>
    lets (0 : Int32) fun (v6 : Int32) =>
    L_X8_differences_19 v2 v4 (fun (v11 : Int32) => rtn v11) 100000 v5 v6) thr) thr
set_option maxRecDepth 100000 in
set_option maxHeartbeats 4000000 in
theorem m_X8_differences {G : GG} {l : Launch} {a0 : Nat} {p1 : Int32} {p2 : Int32} {hs hs' : Hs} {o : Except Nat Int32} (h : f_X8_differences a0 p1 p2 hs = some (o, hs')) : CT G l yX8_differences cX8_differences 7 (some .int) 7 221 2 12 [.ref a0, .int p1, .int p2] hs o hs' tvI := by
  refine vx_ofW (cc := cX8_differences) (maxL := 7) (ret := (some .int)) (by decide +kernel) rfl ?_
  intro p e s m args below meth c s₁ B hml hxt hv
  obtain ⟨hav, hR, hKn⟩ := hv
  subst hav
  have hts := atoms_spec (ws := .code yX8_differences cX8_differences 7 (some .int) :: Tg) B.pre
  have C : Cx G l p s m _ c RX8 cX8_differences 7 := ⟨B.exec, B.bytes, hml, findClass_of_methodNamed B.named, fun w hw => hts w (List.mem_cons_of_mem _ hw), hKn, fun q hq => Nat.le_trans hR.2.2.1 hq⟩
  have C2 : Cy meth c (some .int) := ⟨B.returns, B.notSynchronized, hxt⟩
  have key : WG G p l e { frames := 7, cells := 2, slots := 12, locals := 221 } s m ([.ref a0, .int p1, .int p2] : List Value).toArray below meth c 7 0 0 (vx_MQ below (QcT G o hs' tvI) (XCT G o hs') ([.ref a0, .int p1, .int p2] : List Value).toArray s 2 12 (gA G)) hs [(0, va_rf (some a0)), (1, .int p1), (2, .int p2)] [] 0 := by
    unfold f_X8_differences at h
    refine q_aload_n C 0 dX8_differences_0 rfl ?_
    refine q_iload_n C 1 dX8_differences_1 rfl ?_
    refine q_callVX C (CN := RX8) (T := TX8) (N := 10) [.int p1] [] C2 ⟨(Nat.le_of_ble_eq_true rfl), (Nat.le_of_ble_eq_true rfl)⟩ (fun a0 o2 hs1 hm => m_X8_versionNumbered hm) lk_X8_395 im_X8_versionNumbered se_X8_X8_versionNumbered rfl ⟨(Nat.le_of_ble_eq_true rfl), (Nat.le_of_ble_eq_true rfl)⟩ ⟨(Nat.le_of_ble_eq_true rfl), (Nat.le_of_ble_eq_true rfl)⟩ rfl rfl (by decide) dX8_differences_2 h (fun v1 hs h => WG_st (st' := [va_rf v1]) rfl ?_)
    refine q_astore_n C (fun v2 => [(3, va_rf v2), (0, va_rf (some a0)), (1, .int p1), (2, .int p2)]) dX8_differences_5 (by decide) (fun _ => rfl) h (fun v2 h => ?_)
    refine q_aload_n C 1 dX8_differences_6 rfl ?_
    refine q_iload_n C 3 dX8_differences_7 rfl ?_
    refine q_callVX C (CN := RX8) (T := TX8) (N := 10) [.int p2] [] C2 ⟨(Nat.le_of_ble_eq_true rfl), (Nat.le_of_ble_eq_true rfl)⟩ (fun a0 o2 hs1 hm => m_X8_versionNumbered hm) lk_X8_395 im_X8_versionNumbered se_X8_X8_versionNumbered rfl ⟨(Nat.le_of_ble_eq_true rfl), (Nat.le_of_ble_eq_true rfl)⟩ ⟨(Nat.le_of_ble_eq_true rfl), (Nat.le_of_ble_eq_true rfl)⟩ rfl rfl (by decide) dX8_differences_8 h (fun v3 hs h => WG_st (st' := [va_rf v3]) rfl ?_)
    refine q_astore C (fun v4 => [(4, va_rf v4), (3, va_rf v2), (0, va_rf (some a0)), (1, .int p1), (2, .int p2)]) dX8_differences_11 (by decide) (fun _ => rfl) h (fun v4 h => ?_)
    refine q_iconst C (0 : Int32) dX8_differences_13 (by decide) ?_
    refine q_istore C (fun v5 => [(5, .int v5), (4, va_rf v4), (3, va_rf v2), (0, va_rf (some a0)), (1, .int p1), (2, .int p2)]) dX8_differences_14 (by decide) (fun _ => rfl) h (fun v5 h => ?_)
    refine q_iconst C (0 : Int32) dX8_differences_16 (by decide) ?_
    refine q_istore C (fun v6 => [(6, .int v6), (5, .int v5), (4, va_rf v4), (3, va_rf v2), (0, va_rf (some a0)), (1, .int p1), (2, .int p2)]) dX8_differences_17 (by decide) (fun _ => rfl) h (fun v6 h => ?_)
    refine WG.sub [3, 2, 1, 0] rfl ?_
    refine w_L_X8_differences_19 C C2 _ _ _ ?_ _ _ _ _ h
    · intro v11 hs h
      refine q_iload C 0 dX8_differences_51 rfl ?_
      exact q_iret C C2 rfl (Nat.le_of_ble_eq_true rfl) (Nat.le_of_ble_eq_true rfl) dX8_differences_53 h
  rw [lg_entry_eq]
  exact key _ _ _ hR va_S.rf ⟨lv_entry _ (n := 7) (Nat.le_of_ble_eq_true rfl), (c1_r (c1_i (c1_i c1_n)))⟩

theorem cd_X8_restore : Cond.code yX8_restore cX8_restore 5 (some .int) ∈ Tg := Tg_of (i := 1439) (by decide +kernel) (by decide +kernel)
theorem ml_X8_401 : Cond.methodLink RX8 401 yX6_setFreeLessons ∈ Tg := Tg_of (i := 1440) (by decide +kernel) (by decide +kernel)
theorem lk_X8_401 : Lk RX8 401 yX6_setFreeLessons cX6_setFreeLessons 5 none 1 := ⟨ml_X8_401, cd_X6_setFreeLessons, iw_X6, by decide +kernel⟩
theorem im_X6_setFreeLessons : Cond.instanceMethod yX6_setFreeLessons ∈ Tg := Tg_of (i := 1441) (by decide +kernel) (by decide +kernel)
theorem se_X6_X6_setFreeLessons : Cond.selects RX6 yX6_setFreeLessons yX6_setFreeLessons ∈ Tg := Tg_of (i := 1442) (by decide +kernel) (by decide +kernel)
section M_X8_restore
variable {p : Program} {l : Launch} {e : Env} {s : State} {m : MethodId} {args : Array Value} {below : List Frame} {meth : Method} {c : Code} {G : GG} {o : Except Nat Int32} {hs' : Hs}
def j_X8_restore_64 (a0 : Option Nat) (a2 : Option Nat) (a3 : Int32) (a4 : Int32)  (rec_19 : Int32 → Int32 → OO Int32) : OO Int32 :=
  lets (a4 + (1 : Int32)) fun (v15 : Int32) =>
    rec_19 a3 v15
set_option maxRecDepth 100000 in
set_option maxHeartbeats 4000000 in
theorem w_j_X8_restore_64 (C : Cx G l p s m args c RX8 cX8_restore 5) (C2 : Cy meth c (some .int)) {hs : Hs} (a0 : Option Nat) (a2 : Option Nat) (a3 : Int32) (a4 : Int32)  (rec_19 : Int32 → Int32 → OO Int32) (hrec_19 : ∀ (y3 : Int32) (y4 : Int32) hs, rec_19 y3 y4 hs = some (o, hs') → WG G p l e { frames := 11, cells := 1, slots := 6, locals := 408 } s m args below meth c 5 1 6 (vx_MQ below (QcT G o hs' tvI) (XCT G o hs') args s 1 6 (gA G)) hs [(0, va_rf a0), (2, va_rf a2), (3, .int y3), (4, .int y4)] [] 19) (h : j_X8_restore_64 a0 a2 a3 a4 rec_19 hs = some (o, hs')) : WG G p l e { frames := 11, cells := 1, slots := 6, locals := 408 } s m args below meth c 5 1 6 (vx_MQ below (QcT G o hs' tvI) (XCT G o hs') args s 1 6 (gA G)) hs [(0, va_rf a0), (2, va_rf a2), (3, .int a3), (4, .int a4)] [] 64 := by
  unfold j_X8_restore_64 at h
  refine q_iinc C 3 (1 : Int32) (fun v15 => [(4, .int v15), (0, va_rf a0), (2, va_rf a2), (3, .int a3)]) dX8_restore_64 rfl (by decide) (by decide) (fun _ => rfl) h (fun v15 h => ?_)
  refine q_goto C 19 dX8_restore_67 (by decide) ?_
  refine WG.sub [1, 2, 3, 0] rfl ?_
  exact hrec_19 _ _ _ h
def L_X8_restore_19 (a0 : Option Nat) (a2 : Option Nat) (k_19_70 : Int32 → OO Int32) : Nat → Int32 → Int32 → OO Int32
  | 0, _, _ => failO
  | n + 1, x3, x4 =>
    gR a0 11 1 fun v7 =>
    gR v7 9 2 fun v8 =>
    rcv v8 2 fun r19 => call (f_Jx4a65c_size_8abf5 r19 ) (fun (v9 : Int32) =>
    (if v9 ≤ x4 then
    k_19_70 x3
    else
    gR a0 11 1 fun v10 =>
    gR v10 9 2 fun v11 =>
    rcv v11 2 fun r18 => call (f_Jx4a65c_get_915e3 r18 x4) (fun (v12 : Option Nat) =>
    cst v12 7 (
    rcv v12 7 fun r17 => call (f_X4_placeNow r17 ) (fun (v13 : Int32) =>
    call (f_X8_at a2 x4) (fun (v14 : Int32) =>
    (if v13 = v14 then
    j_X8_restore_64 a0 a2 x3 x4 (L_X8_restore_19 a0 a2 k_19_70 n)
    else
    lets (x3 + (1 : Int32)) fun (v16 : Int32) =>
    j_X8_restore_64 a0 a2 v16 x4 (L_X8_restore_19 a0 a2 k_19_70 n))) nox) nox)) nox)) nox
set_option maxRecDepth 100000 in
set_option maxHeartbeats 4000000 in
theorem w_L_X8_restore_19 (C : Cx G l p s m args c RX8 cX8_restore 5) (C2 : Cy meth c (some .int)) (a0 : Option Nat) (a2 : Option Nat) (k_19_70 : Int32 → OO Int32) (hk_19_70 : ∀ (y3 : Int32) hs, k_19_70 y3 hs = some (o, hs') → WG G p l e { frames := 11, cells := 1, slots := 6, locals := 408 } s m args below meth c 5 1 6 (vx_MQ below (QcT G o hs' tvI) (XCT G o hs') args s 1 6 (gA G)) hs [(3, .int y3)] [] 70) : ∀ (n : Nat) (x3 : Int32) (x4 : Int32) (hs : Hs), L_X8_restore_19 a0 a2 k_19_70 n x3 x4 hs = some (o, hs') → WG G p l e { frames := 11, cells := 1, slots := 6, locals := 408 } s m args below meth c 5 1 6 (vx_MQ below (QcT G o hs' tvI) (XCT G o hs') args s 1 6 (gA G)) hs [(0, va_rf a0), (2, va_rf a2), (3, .int x3), (4, .int x4)] [] 19 := by
  intro n
  induction n with
  | zero =>
    intro x3 x4 hs h
    rw [L_X8_restore_19] at h
    exact absurd h failO_e
  | succ n hrec_19 =>
    intro x3 x4 hs h
    rw [L_X8_restore_19] at h
    refine q_iload C 3 dX8_restore_19 rfl ?_
    refine q_aload_n C 0 dX8_restore_21 rfl ?_
    refine q_gR C fl_X8_19 dX8_restore_22 h (fun v7 h => ?_)
    refine q_gR C fl_X8_121 dX8_restore_25 h (fun v8 h => ?_)
    refine q_callV C (CN := RJx4a65c) (T := TJx4a65c) (N := 3) [] [.int x4] (fun a0 o2 hs1 hm => m_Jx4a65c_size_8abf5 hm) lk_X8_70 im_Jx4a65c_size_8abf5 se_Jx4a65c_Jx4a65c_size_8abf5 rfl ⟨(Nat.le_of_ble_eq_true rfl), (Nat.le_of_ble_eq_true rfl)⟩ ⟨(Nat.le_of_ble_eq_true rfl), (Nat.le_of_ble_eq_true rfl)⟩ rfl rfl (by simp only [List.map, cat_rf, cat_i, cat_a]; decide) dX8_restore_28 h (fun v9 hs h => WG_st (st' := [.int v9, .int x4]) rfl ?_)
    refine q_icmp_ge C 70 dX8_restore_31 (by decide) h (fun h => ?_) (fun h => ?_)
    · refine WG.sub [2] rfl ?_
      exact hk_19_70 _ _ h
    · refine q_aload_n C 0 dX8_restore_34 rfl ?_
      refine q_gR C fl_X8_19 dX8_restore_35 h (fun v10 h => ?_)
      refine q_gR C fl_X8_121 dX8_restore_38 h (fun v11 h => ?_)
      refine q_iload C 3 dX8_restore_41 rfl ?_
      refine q_callV C (CN := RJx4a65c) (T := TJx4a65c) (N := 3) [.int x4] [] (fun a0 o2 hs1 hm => m_Jx4a65c_get_915e3 hm) lk_X8_186 im_Jx4a65c_get_915e3 se_Jx4a65c_Jx4a65c_get_915e3 rfl ⟨(Nat.le_of_ble_eq_true rfl), (Nat.le_of_ble_eq_true rfl)⟩ ⟨(Nat.le_of_ble_eq_true rfl), (Nat.le_of_ble_eq_true rfl)⟩ rfl rfl (by decide) dX8_restore_43 h (fun v12 hs h => WG_st (st' := [va_rf v12]) rfl ?_)
      refine q_castS C (nm := RX4) (T := TX4) (N := 18) rfl wc_X8_126 dX8_restore_46 h (fun h => ?_)
      refine q_callV C (CN := RX4) (T := TX4) (N := 18) [] [] (fun a0 o2 hs1 hm => m_X4_placeNow hm) lk_X8_239 im_X4_placeNow se_X4_X4_placeNow rfl ⟨(Nat.le_of_ble_eq_true rfl), (Nat.le_of_ble_eq_true rfl)⟩ ⟨(Nat.le_of_ble_eq_true rfl), (Nat.le_of_ble_eq_true rfl)⟩ rfl rfl (by decide) dX8_restore_49 h (fun v13 hs h => WG_st (st' := [.int v13]) rfl ?_)
      refine q_aload_n C 1 dX8_restore_52 rfl ?_
      refine q_iload C 3 dX8_restore_53 rfl ?_
      refine q_callS C [va_rf a2, .int x4] [.int v13] (fun o2 hs1 hm => m_X8_at hm) lk_X8_308 sm_X8_at ⟨(Nat.le_of_ble_eq_true rfl), (Nat.le_of_ble_eq_true rfl)⟩ ⟨(Nat.le_of_ble_eq_true rfl), (Nat.le_of_ble_eq_true rfl)⟩ rfl rfl (by simp only [List.map, cat_rf, cat_i, cat_a]; decide) dX8_restore_55 h (fun v14 hs h => WG_st (st' := [.int v14, .int v13]) rfl ?_)
      refine q_icmp_eq C 64 dX8_restore_58 (by decide) h (fun h => ?_) (fun h => ?_)
      · exact w_j_X8_restore_64 C C2 _ _ _ _ _ hrec_19 h
      · refine q_iinc C 2 (1 : Int32) (fun v16 => [(3, .int v16), (0, va_rf a0), (2, va_rf a2), (4, .int x4)]) dX8_restore_61 rfl (by decide) (by decide) (fun _ => rfl) h (fun v16 h => ?_)
        refine WG.sub [1, 2, 0, 3] rfl ?_
        exact w_j_X8_restore_64 C C2 _ _ _ _ _ hrec_19 h
end M_X8_restore
def f_X8_restore (a0 : Nat) (p1 : Int32) : OO Int32 :=
    rcv (some a0) 11 fun r22 => call (f_X8_versionNumbered r22 p1) (fun (v1 : Option Nat) =>
    lets v1 fun (v2 : Option Nat) =>
    gR (some a0) 11 1 fun v3 =>
    rcv v3 9 fun r21 => call (f_X6_setFreeLessons r21 v2) (fun (v4 : Unit) =>
    lets (0 : Int32) fun (v5 : Int32) =>
    lets (0 : Int32) fun (v6 : Int32) =>
    L_X8_restore_19 (some a0) v2 (fun (v20 : Int32) => rtn v20) 100000 v5 v6) nox) thr
set_option maxRecDepth 100000 in
set_option maxHeartbeats 4000000 in
theorem m_X8_restore {G : GG} {l : Launch} {a0 : Nat} {p1 : Int32} {hs hs' : Hs} {o : Except Nat Int32} (h : f_X8_restore a0 p1 hs = some (o, hs')) : CT G l yX8_restore cX8_restore 5 (some .int) 11 408 1 6 [.ref a0, .int p1] hs o hs' tvI := by
  refine vx_ofW (cc := cX8_restore) (maxL := 5) (ret := (some .int)) (by decide +kernel) rfl ?_
  intro p e s m args below meth c s₁ B hml hxt hv
  obtain ⟨hav, hR, hKn⟩ := hv
  subst hav
  have hts := atoms_spec (ws := .code yX8_restore cX8_restore 5 (some .int) :: Tg) B.pre
  have C : Cx G l p s m _ c RX8 cX8_restore 5 := ⟨B.exec, B.bytes, hml, findClass_of_methodNamed B.named, fun w hw => hts w (List.mem_cons_of_mem _ hw), hKn, fun q hq => Nat.le_trans hR.2.2.1 hq⟩
  have C2 : Cy meth c (some .int) := ⟨B.returns, B.notSynchronized, hxt⟩
  have key : WG G p l e { frames := 11, cells := 1, slots := 6, locals := 408 } s m ([.ref a0, .int p1] : List Value).toArray below meth c 5 0 0 (vx_MQ below (QcT G o hs' tvI) (XCT G o hs') ([.ref a0, .int p1] : List Value).toArray s 1 6 (gA G)) hs [(0, va_rf (some a0)), (1, .int p1)] [] 0 := by
    unfold f_X8_restore at h
    refine q_aload_n C 0 dX8_restore_0 rfl ?_
    refine q_iload_n C 1 dX8_restore_1 rfl ?_
    refine q_callVX C (CN := RX8) (T := TX8) (N := 10) [.int p1] [] C2 ⟨(Nat.le_of_ble_eq_true rfl), (Nat.le_of_ble_eq_true rfl)⟩ (fun a0 o2 hs1 hm => m_X8_versionNumbered hm) lk_X8_395 im_X8_versionNumbered se_X8_X8_versionNumbered rfl ⟨(Nat.le_of_ble_eq_true rfl), (Nat.le_of_ble_eq_true rfl)⟩ ⟨(Nat.le_of_ble_eq_true rfl), (Nat.le_of_ble_eq_true rfl)⟩ rfl rfl (by decide) dX8_restore_2 h (fun v1 hs h => WG_st (st' := [va_rf v1]) rfl ?_)
    refine q_astore_n C (fun v2 => [(2, va_rf v2), (0, va_rf (some a0)), (1, .int p1)]) dX8_restore_5 (by decide) (fun _ => rfl) h (fun v2 h => ?_)
    refine q_aload_n C 1 dX8_restore_6 rfl ?_
    refine q_gR C fl_X8_19 dX8_restore_7 h (fun v3 h => ?_)
    refine q_aload_n C 0 dX8_restore_10 rfl ?_
    refine q_callV C (CN := RX6) (T := TX6) (N := 6) [va_rf v2] [] (fun a0 o2 hs1 hm => m_X6_setFreeLessons hm) lk_X8_401 im_X6_setFreeLessons se_X6_X6_setFreeLessons rfl ⟨(Nat.le_of_ble_eq_true rfl), (Nat.le_of_ble_eq_true rfl)⟩ ⟨(Nat.le_of_ble_eq_true rfl), (Nat.le_of_ble_eq_true rfl)⟩ rfl rfl (by decide) dX8_restore_11 h (fun v4 hs h => WG_st (st' := []) rfl ?_)
    refine q_iconst C (0 : Int32) dX8_restore_14 (by decide) ?_
    refine q_istore_n C (fun v5 => [(3, .int v5), (2, va_rf v2), (0, va_rf (some a0)), (1, .int p1)]) dX8_restore_15 (by decide) (fun _ => rfl) h (fun v5 h => ?_)
    refine q_iconst C (0 : Int32) dX8_restore_16 (by decide) ?_
    refine q_istore C (fun v6 => [(4, .int v6), (3, .int v5), (2, va_rf v2), (0, va_rf (some a0)), (1, .int p1)]) dX8_restore_17 (by decide) (fun _ => rfl) h (fun v6 h => ?_)
    refine WG.sub [3, 2, 1, 0] rfl ?_
    refine w_L_X8_restore_19 C C2 _ _ _ ?_ _ _ _ _ h
    · intro v20 hs h
      refine q_iload_n C 0 dX8_restore_70 rfl ?_
      exact q_iret C C2 rfl (Nat.le_of_ble_eq_true rfl) (Nat.le_of_ble_eq_true rfl) dX8_restore_71 h
  rw [lg_entry_eq]
  exact key _ _ _ hR va_S.rf ⟨lv_entry _ (n := 5) (Nat.le_of_ble_eq_true rfl), (c1_r (c1_i c1_n))⟩

theorem cd_X8_merge : Cond.code yX8_merge cX8_merge 9 (some .int) ∈ Tg := Tg_of (i := 1451) (by decide +kernel) (by decide +kernel)
theorem fl_X8_49 : Fld RX8 49 11 6 (.array .int) := ⟨RX8, TX8, 10, RX8, rfl, by decide, wf_X8_49, (Or.inl rfl), gu_X8, tyX8_ok _ (by decide), ⟨tyX8, tyX8_ok⟩, nmX8⟩
section M_X8_merge
variable {p : Program} {l : Launch} {e : Env} {s : State} {m : MethodId} {args : Array Value} {below : List Frame} {meth : Method} {c : Code} {G : GG} {o : Except Nat Int32} {hs' : Hs}
def j_X8_merge_153 (a0 : Option Nat) (a3 : Option Nat) (a4 : Option Nat) (a5 : Int32) (a6 : Int32)  (rec_30 : Int32 → Int32 → OO Int32) : OO Int32 :=
  lets (a6 + (1 : Int32)) fun (v22 : Int32) =>
    rec_30 a5 v22
set_option maxRecDepth 100000 in
set_option maxHeartbeats 4000000 in
theorem w_j_X8_merge_153 (C : Cx G l p s m args c RX8 cX8_merge 9) (C2 : Cy meth c (some .int)) {hs : Hs} (a0 : Option Nat) (a3 : Option Nat) (a4 : Option Nat) (a5 : Int32) (a6 : Int32)  (rec_30 : Int32 → Int32 → OO Int32) (hrec_30 : ∀ (y5 : Int32) (y6 : Int32) hs, rec_30 y5 y6 hs = some (o, hs') → WG G p l e { frames := 11, cells := 2, slots := 12, locals := 408 } s m args below meth c 9 2 12 (vx_MQ below (QcT G o hs' tvI) (XCT G o hs') args s 2 12 (gA G)) hs [(0, va_rf a0), (3, va_rf a3), (4, va_rf a4), (5, .int y5), (6, .int y6)] [] 30) (h : j_X8_merge_153 a0 a3 a4 a5 a6 rec_30 hs = some (o, hs')) : WG G p l e { frames := 11, cells := 2, slots := 12, locals := 408 } s m args below meth c 9 2 12 (vx_MQ below (QcT G o hs' tvI) (XCT G o hs') args s 2 12 (gA G)) hs [(0, va_rf a0), (3, va_rf a3), (4, va_rf a4), (5, .int a5), (6, .int a6)] [] 153 := by
  unfold j_X8_merge_153 at h
  refine q_iinc C 4 (1 : Int32) (fun v22 => [(6, .int v22), (0, va_rf a0), (3, va_rf a3), (4, va_rf a4), (5, .int a5)]) dX8_merge_153 rfl (by decide) (by decide) (fun _ => rfl) h (fun v22 h => ?_)
  refine q_goto C 30 dX8_merge_156 (by decide) ?_
  refine WG.sub [1, 2, 3, 4, 0] rfl ?_
  exact hrec_30 _ _ _ h
def j_X8_merge_128 (a0 : Option Nat) (a3 : Option Nat) (a4 : Option Nat) (a5 : Int32) (a6 : Int32) (a7 : Int32)  (rec_30 : Int32 → Int32 → OO Int32) : OO Int32 :=
  (if a7 = 0 then
    j_X8_merge_153 a0 a3 a4 a5 a6 rec_30
    else
    gR a0 11 6 fun v23 =>
    ldI 0 v23 a6 fun v24 =>
    call (f_X8_at a4 a6) (fun (v25 : Int32) =>
    (if v24 = v25 then
    j_X8_merge_153 a0 a3 a4 a5 a6 rec_30
    else
    lets (a5 + (1 : Int32)) fun (v26 : Int32) =>
    j_X8_merge_153 a0 a3 a4 v26 a6 rec_30)) nox)
set_option maxRecDepth 100000 in
set_option maxHeartbeats 4000000 in
theorem w_j_X8_merge_128 (C : Cx G l p s m args c RX8 cX8_merge 9) (C2 : Cy meth c (some .int)) {hs : Hs} (a0 : Option Nat) (a3 : Option Nat) (a4 : Option Nat) (a5 : Int32) (a6 : Int32) (a7 : Int32)  (rec_30 : Int32 → Int32 → OO Int32) (hrec_30 : ∀ (y5 : Int32) (y6 : Int32) hs, rec_30 y5 y6 hs = some (o, hs') → WG G p l e { frames := 11, cells := 2, slots := 12, locals := 408 } s m args below meth c 9 2 12 (vx_MQ below (QcT G o hs' tvI) (XCT G o hs') args s 2 12 (gA G)) hs [(0, va_rf a0), (3, va_rf a3), (4, va_rf a4), (5, .int y5), (6, .int y6)] [] 30) (h : j_X8_merge_128 a0 a3 a4 a5 a6 a7 rec_30 hs = some (o, hs')) : WG G p l e { frames := 11, cells := 2, slots := 12, locals := 408 } s m args below meth c 9 2 12 (vx_MQ below (QcT G o hs' tvI) (XCT G o hs') args s 2 12 (gA G)) hs [(0, va_rf a0), (3, va_rf a3), (4, va_rf a4), (5, .int a5), (6, .int a6), (7, .int a7)] [] 128 := by
  unfold j_X8_merge_128 at h
  refine q_iload C 5 dX8_merge_128 rfl ?_
  refine q_if_eq C 153 dX8_merge_130 (by decide) h (fun h => ?_) (fun h => ?_)
  · refine WG.sub [0, 1, 2, 3, 4] rfl ?_
    exact w_j_X8_merge_153 C C2 _ _ _ _ _ _ hrec_30 h
  · refine q_aload_n C 0 dX8_merge_133 rfl ?_
    refine q_gR C fl_X8_49 dX8_merge_134 h (fun v23 h => ?_)
    refine q_iload C 4 dX8_merge_137 rfl ?_
    refine q_iald C dX8_merge_139 h (fun v24 h => ?_)
    refine q_aload C 2 dX8_merge_140 rfl ?_
    refine q_iload C 4 dX8_merge_142 rfl ?_
    refine q_callS C [va_rf a4, .int a6] [.int v24] (fun o2 hs1 hm => m_X8_at hm) lk_X8_308 sm_X8_at ⟨(Nat.le_of_ble_eq_true rfl), (Nat.le_of_ble_eq_true rfl)⟩ ⟨(Nat.le_of_ble_eq_true rfl), (Nat.le_of_ble_eq_true rfl)⟩ rfl rfl (by simp only [List.map, cat_rf, cat_i, cat_a]; decide) dX8_merge_144 h (fun v25 hs h => WG_st (st' := [.int v25, .int v24]) rfl ?_)
    refine q_icmp_eq C 153 dX8_merge_147 (by decide) h (fun h => ?_) (fun h => ?_)
    · refine WG.sub [0, 1, 2, 3, 4] rfl ?_
      exact w_j_X8_merge_153 C C2 _ _ _ _ _ _ hrec_30 h
    · refine q_iinc C 3 (1 : Int32) (fun v26 => [(5, .int v26), (0, va_rf a0), (3, va_rf a3), (4, va_rf a4), (6, .int a6), (7, .int a7)]) dX8_merge_150 rfl (by decide) (by decide) (fun _ => rfl) h (fun v26 h => ?_)
      refine WG.sub [1, 2, 3, 0, 4] rfl ?_
      exact w_j_X8_merge_153 C C2 _ _ _ _ _ _ hrec_30 h
def j_X8_merge_99 (a0 : Option Nat) (a3 : Option Nat) (a4 : Option Nat) (a5 : Int32) (a6 : Int32) (a7 : Int32) (s0 : Int32) (rec_30 : Int32 → Int32 → OO Int32) : OO Int32 :=
  lets s0 fun (v21 : Int32) =>
    (if a7 = 0 then
    j_X8_merge_128 a0 a3 a4 a5 a6 a7 rec_30
    else
    (if ¬ v21 = 0 then
    j_X8_merge_128 a0 a3 a4 a5 a6 a7 rec_30
    else
    gR a0 11 6 fun v27 =>
    call (f_X8_at a4 a6) (fun (v28 : Int32) =>
    stI v27 a6 v28 (
    j_X8_merge_153 a0 a3 a4 a5 a6 rec_30)) nox))
set_option maxRecDepth 100000 in
set_option maxHeartbeats 4000000 in
theorem w_j_X8_merge_99 (C : Cx G l p s m args c RX8 cX8_merge 9) (C2 : Cy meth c (some .int)) {hs : Hs} (a0 : Option Nat) (a3 : Option Nat) (a4 : Option Nat) (a5 : Int32) (a6 : Int32) (a7 : Int32) (s0 : Int32) (rec_30 : Int32 → Int32 → OO Int32) (hrec_30 : ∀ (y5 : Int32) (y6 : Int32) hs, rec_30 y5 y6 hs = some (o, hs') → WG G p l e { frames := 11, cells := 2, slots := 12, locals := 408 } s m args below meth c 9 2 12 (vx_MQ below (QcT G o hs' tvI) (XCT G o hs') args s 2 12 (gA G)) hs [(0, va_rf a0), (3, va_rf a3), (4, va_rf a4), (5, .int y5), (6, .int y6)] [] 30) (h : j_X8_merge_99 a0 a3 a4 a5 a6 a7 s0 rec_30 hs = some (o, hs')) : WG G p l e { frames := 11, cells := 2, slots := 12, locals := 408 } s m args below meth c 9 2 12 (vx_MQ below (QcT G o hs' tvI) (XCT G o hs') args s 2 12 (gA G)) hs [(0, va_rf a0), (3, va_rf a3), (4, va_rf a4), (5, .int a5), (6, .int a6), (7, .int a7)] [.int s0] 99 := by
  unfold j_X8_merge_99 at h
  refine q_istore C (fun v21 => [(8, .int v21), (0, va_rf a0), (3, va_rf a3), (4, va_rf a4), (5, .int a5), (6, .int a6), (7, .int a7)]) dX8_merge_99 (by decide) (fun _ => rfl) h (fun v21 h => ?_)
  refine q_iload C 6 dX8_merge_101 rfl ?_
  refine q_if_eq C 128 dX8_merge_103 (by decide) h (fun h => ?_) (fun h => ?_)
  · refine WG.sub [1, 2, 3, 4, 5, 6] rfl ?_
    exact w_j_X8_merge_128 C C2 _ _ _ _ _ _ _ hrec_30 h
  · refine q_iload C 0 dX8_merge_106 rfl ?_
    refine q_if_ne C 128 dX8_merge_108 (by decide) h (fun h => ?_) (fun h => ?_)
    · refine WG.sub [1, 2, 3, 4, 5, 6] rfl ?_
      exact w_j_X8_merge_128 C C2 _ _ _ _ _ _ _ hrec_30 h
    · refine q_aload_n C 1 dX8_merge_111 rfl ?_
      refine q_gR C fl_X8_49 dX8_merge_112 h (fun v27 h => ?_)
      refine q_iload C 5 dX8_merge_115 rfl ?_
      refine q_aload C 3 dX8_merge_117 rfl ?_
      refine q_iload C 5 dX8_merge_119 rfl ?_
      refine q_callS C [va_rf a4, .int a6] [.int a6, va_rf v27] (fun o2 hs1 hm => m_X8_at hm) lk_X8_308 sm_X8_at ⟨(Nat.le_of_ble_eq_true rfl), (Nat.le_of_ble_eq_true rfl)⟩ ⟨(Nat.le_of_ble_eq_true rfl), (Nat.le_of_ble_eq_true rfl)⟩ rfl rfl (by simp only [List.map, cat_rf, cat_i, cat_a]; decide) dX8_merge_121 h (fun v28 hs h => WG_st (st' := [.int v28, .int a6, va_rf v27]) rfl ?_)
      refine q_iast C dX8_merge_124 h (fun hs h => ?_)
      refine q_goto C 153 dX8_merge_125 (by decide) ?_
      refine WG.sub [1, 2, 3, 4, 5] rfl ?_
      exact w_j_X8_merge_153 C C2 _ _ _ _ _ _ hrec_30 h
def j_X8_merge_76 (a0 : Option Nat) (a3 : Option Nat) (a4 : Option Nat) (a5 : Int32) (a6 : Int32) (s0 : Int32) (rec_30 : Int32 → Int32 → OO Int32) : OO Int32 :=
  lets s0 fun (v17 : Int32) =>
    gR a0 11 6 fun v18 =>
    ldI 0 v18 a6 fun v19 =>
    call (f_X8_at a3 a6) (fun (v20 : Int32) =>
    (if v19 = v20 then
    j_X8_merge_99 a0 a3 a4 a5 a6 v17 (0 : Int32) rec_30
    else
    j_X8_merge_99 a0 a3 a4 a5 a6 v17 (1 : Int32) rec_30)) nox
set_option maxRecDepth 100000 in
set_option maxHeartbeats 4000000 in
theorem w_j_X8_merge_76 (C : Cx G l p s m args c RX8 cX8_merge 9) (C2 : Cy meth c (some .int)) {hs : Hs} (a0 : Option Nat) (a3 : Option Nat) (a4 : Option Nat) (a5 : Int32) (a6 : Int32) (s0 : Int32) (rec_30 : Int32 → Int32 → OO Int32) (hrec_30 : ∀ (y5 : Int32) (y6 : Int32) hs, rec_30 y5 y6 hs = some (o, hs') → WG G p l e { frames := 11, cells := 2, slots := 12, locals := 408 } s m args below meth c 9 2 12 (vx_MQ below (QcT G o hs' tvI) (XCT G o hs') args s 2 12 (gA G)) hs [(0, va_rf a0), (3, va_rf a3), (4, va_rf a4), (5, .int y5), (6, .int y6)] [] 30) (h : j_X8_merge_76 a0 a3 a4 a5 a6 s0 rec_30 hs = some (o, hs')) : WG G p l e { frames := 11, cells := 2, slots := 12, locals := 408 } s m args below meth c 9 2 12 (vx_MQ below (QcT G o hs' tvI) (XCT G o hs') args s 2 12 (gA G)) hs [(0, va_rf a0), (3, va_rf a3), (4, va_rf a4), (5, .int a5), (6, .int a6)] [.int s0] 76 := by
  unfold j_X8_merge_76 at h
  refine q_istore C (fun v17 => [(7, .int v17), (0, va_rf a0), (3, va_rf a3), (4, va_rf a4), (5, .int a5), (6, .int a6)]) dX8_merge_76 (by decide) (fun _ => rfl) h (fun v17 h => ?_)
  refine q_aload_n C 1 dX8_merge_78 rfl ?_
  refine q_gR C fl_X8_49 dX8_merge_79 h (fun v18 h => ?_)
  refine q_iload C 5 dX8_merge_82 rfl ?_
  refine q_iald C dX8_merge_84 h (fun v19 h => ?_)
  refine q_aload_n C 2 dX8_merge_85 rfl ?_
  refine q_iload C 5 dX8_merge_86 rfl ?_
  refine q_callS C [va_rf a3, .int a6] [.int v19] (fun o2 hs1 hm => m_X8_at hm) lk_X8_308 sm_X8_at ⟨(Nat.le_of_ble_eq_true rfl), (Nat.le_of_ble_eq_true rfl)⟩ ⟨(Nat.le_of_ble_eq_true rfl), (Nat.le_of_ble_eq_true rfl)⟩ rfl rfl (by simp only [List.map, cat_rf, cat_i, cat_a]; decide) dX8_merge_88 h (fun v20 hs h => WG_st (st' := [.int v20, .int v19]) rfl ?_)
  refine q_icmp_eq C 98 dX8_merge_91 (by decide) h (fun h => ?_) (fun h => ?_)
  · refine q_iconst C (0 : Int32) dX8_merge_98 (by decide) ?_
    refine WG.sub [1, 2, 3, 4, 5, 0] rfl ?_
    exact w_j_X8_merge_99 C C2 _ _ _ _ _ _ _ _ hrec_30 h
  · refine q_iconst C (1 : Int32) dX8_merge_94 (by decide) ?_
    refine q_goto C 99 dX8_merge_95 (by decide) ?_
    refine WG.sub [1, 2, 3, 4, 5, 0] rfl ?_
    exact w_j_X8_merge_99 C C2 _ _ _ _ _ _ _ _ hrec_30 h
def L_X8_merge_30 (a0 : Option Nat) (a3 : Option Nat) (a4 : Option Nat) (k_30_159 : Int32 → OO Int32) : Nat → Int32 → Int32 → OO Int32
  | 0, _, _ => failO
  | n + 1, x5, x6 =>
    gR a0 11 1 fun v10 =>
    gR v10 9 2 fun v11 =>
    rcv v11 2 fun r29 => call (f_Jx4a65c_size_8abf5 r29 ) (fun (v12 : Int32) =>
    (if v12 ≤ x6 then
    k_30_159 x5
    else
    gR a0 11 6 fun v13 =>
    alen v13 fun v14 =>
    (if v14 ≤ x6 then
    k_30_159 x5
    else
    call (f_X8_at a4 x6) (fun (v15 : Int32) =>
    call (f_X8_at a3 x6) (fun (v16 : Int32) =>
    (if v15 = v16 then
    j_X8_merge_76 a0 a3 a4 x5 x6 (0 : Int32) (L_X8_merge_30 a0 a3 a4 k_30_159 n)
    else
    j_X8_merge_76 a0 a3 a4 x5 x6 (1 : Int32) (L_X8_merge_30 a0 a3 a4 k_30_159 n))) nox) nox))) nox
set_option maxRecDepth 100000 in
set_option maxHeartbeats 4000000 in
theorem w_L_X8_merge_30 (C : Cx G l p s m args c RX8 cX8_merge 9) (C2 : Cy meth c (some .int)) (a0 : Option Nat) (a3 : Option Nat) (a4 : Option Nat) (k_30_159 : Int32 → OO Int32) (hk_30_159 : ∀ (y5 : Int32) hs, k_30_159 y5 hs = some (o, hs') → WG G p l e { frames := 11, cells := 2, slots := 12, locals := 408 } s m args below meth c 9 2 12 (vx_MQ below (QcT G o hs' tvI) (XCT G o hs') args s 2 12 (gA G)) hs [(0, va_rf a0), (5, .int y5)] [] 159) : ∀ (n : Nat) (x5 : Int32) (x6 : Int32) (hs : Hs), L_X8_merge_30 a0 a3 a4 k_30_159 n x5 x6 hs = some (o, hs') → WG G p l e { frames := 11, cells := 2, slots := 12, locals := 408 } s m args below meth c 9 2 12 (vx_MQ below (QcT G o hs' tvI) (XCT G o hs') args s 2 12 (gA G)) hs [(0, va_rf a0), (3, va_rf a3), (4, va_rf a4), (5, .int x5), (6, .int x6)] [] 30 := by
  intro n
  induction n with
  | zero =>
    intro x5 x6 hs h
    rw [L_X8_merge_30] at h
    exact absurd h failO_e
  | succ n hrec_30 =>
    intro x5 x6 hs h
    rw [L_X8_merge_30] at h
    refine q_iload C 4 dX8_merge_30 rfl ?_
    refine q_aload_n C 0 dX8_merge_32 rfl ?_
    refine q_gR C fl_X8_19 dX8_merge_33 h (fun v10 h => ?_)
    refine q_gR C fl_X8_121 dX8_merge_36 h (fun v11 h => ?_)
    refine q_callV C (CN := RJx4a65c) (T := TJx4a65c) (N := 3) [] [.int x6] (fun a0 o2 hs1 hm => m_Jx4a65c_size_8abf5 hm) lk_X8_70 im_Jx4a65c_size_8abf5 se_Jx4a65c_Jx4a65c_size_8abf5 rfl ⟨(Nat.le_of_ble_eq_true rfl), (Nat.le_of_ble_eq_true rfl)⟩ ⟨(Nat.le_of_ble_eq_true rfl), (Nat.le_of_ble_eq_true rfl)⟩ rfl rfl (by simp only [List.map, cat_rf, cat_i, cat_a]; decide) dX8_merge_39 h (fun v12 hs h => WG_st (st' := [.int v12, .int x6]) rfl ?_)
    refine q_icmp_ge C 159 dX8_merge_42 (by decide) h (fun h => ?_) (fun h => ?_)
    · refine WG.sub [0, 3] rfl ?_
      exact hk_30_159 _ _ h
    · refine q_iload C 4 dX8_merge_45 rfl ?_
      refine q_aload_n C 0 dX8_merge_47 rfl ?_
      refine q_gR C fl_X8_49 dX8_merge_48 h (fun v13 h => ?_)
      refine q_alen C dX8_merge_51 h (fun v14 h => ?_)
      refine q_icmp_ge C 159 dX8_merge_52 (by decide) h (fun h => ?_) (fun h => ?_)
      · refine WG.sub [0, 3] rfl ?_
        exact hk_30_159 _ _ h
      · refine q_aload C 2 dX8_merge_55 rfl ?_
        refine q_iload C 4 dX8_merge_57 rfl ?_
        refine q_callS C [va_rf a4, .int x6] [] (fun o2 hs1 hm => m_X8_at hm) lk_X8_308 sm_X8_at ⟨(Nat.le_of_ble_eq_true rfl), (Nat.le_of_ble_eq_true rfl)⟩ ⟨(Nat.le_of_ble_eq_true rfl), (Nat.le_of_ble_eq_true rfl)⟩ rfl rfl (by decide) dX8_merge_59 h (fun v15 hs h => WG_st (st' := [.int v15]) rfl ?_)
        refine q_aload_n C 1 dX8_merge_62 rfl ?_
        refine q_iload C 4 dX8_merge_63 rfl ?_
        refine q_callS C [va_rf a3, .int x6] [.int v15] (fun o2 hs1 hm => m_X8_at hm) lk_X8_308 sm_X8_at ⟨(Nat.le_of_ble_eq_true rfl), (Nat.le_of_ble_eq_true rfl)⟩ ⟨(Nat.le_of_ble_eq_true rfl), (Nat.le_of_ble_eq_true rfl)⟩ rfl rfl (by simp only [List.map, cat_rf, cat_i, cat_a]; decide) dX8_merge_65 h (fun v16 hs h => WG_st (st' := [.int v16, .int v15]) rfl ?_)
        refine q_icmp_eq C 75 dX8_merge_68 (by decide) h (fun h => ?_) (fun h => ?_)
        · refine q_iconst C (0 : Int32) dX8_merge_75 (by decide) ?_
          exact w_j_X8_merge_76 C C2 _ _ _ _ _ _ _ hrec_30 h
        · refine q_iconst C (1 : Int32) dX8_merge_71 (by decide) ?_
          refine q_goto C 76 dX8_merge_72 (by decide) ?_
          exact w_j_X8_merge_76 C C2 _ _ _ _ _ _ _ hrec_30 h
def j_X8_merge_159 (a0 : Option Nat) (a5 : Int32)   : OO Int32 :=
  gR a0 11 1 fun v31 =>
    gR a0 11 6 fun v32 =>
    rcv v31 9 fun r34 => call (f_X6_setFreeLessons r34 v32) (fun (v33 : Unit) =>
    rtn a5) nox
set_option maxRecDepth 100000 in
set_option maxHeartbeats 4000000 in
theorem w_j_X8_merge_159 (C : Cx G l p s m args c RX8 cX8_merge 9) (C2 : Cy meth c (some .int)) {hs : Hs} (a0 : Option Nat) (a5 : Int32)    (h : j_X8_merge_159 a0 a5 hs = some (o, hs')) : WG G p l e { frames := 11, cells := 2, slots := 12, locals := 408 } s m args below meth c 9 2 12 (vx_MQ below (QcT G o hs' tvI) (XCT G o hs') args s 2 12 (gA G)) hs [(0, va_rf a0), (5, .int a5)] [] 159 := by
  unfold j_X8_merge_159 at h
  refine q_aload_n C 0 dX8_merge_159 rfl ?_
  refine q_gR C fl_X8_19 dX8_merge_160 h (fun v31 h => ?_)
  refine q_aload_n C 0 dX8_merge_163 rfl ?_
  refine q_gR C fl_X8_49 dX8_merge_164 h (fun v32 h => ?_)
  refine q_callV C (CN := RX6) (T := TX6) (N := 6) [va_rf v32] [] (fun a0 o2 hs1 hm => m_X6_setFreeLessons hm) lk_X8_401 im_X6_setFreeLessons se_X6_X6_setFreeLessons rfl ⟨(Nat.le_of_ble_eq_true rfl), (Nat.le_of_ble_eq_true rfl)⟩ ⟨(Nat.le_of_ble_eq_true rfl), (Nat.le_of_ble_eq_true rfl)⟩ rfl rfl (by decide) dX8_merge_167 h (fun v33 hs h => WG_st (st' := []) rfl ?_)
  refine q_iload C 1 dX8_merge_170 rfl ?_
  exact q_iret C C2 rfl (Nat.le_of_ble_eq_true rfl) (Nat.le_of_ble_eq_true rfl) dX8_merge_172 h
end M_X8_merge
def f_X8_merge (a0 : Nat) (p1 : Int32) (p2 : Int32) : OO Int32 :=
    rcv (some a0) 11 fun r37 => call (f_X8_versionNumbered r37 p1) (fun (v1 : Option Nat) =>
    lets v1 fun (v2 : Option Nat) =>
    rcv (some a0) 11 fun r36 => call (f_X8_versionNumbered r36 p2) (fun (v3 : Option Nat) =>
    lets v3 fun (v4 : Option Nat) =>
    gR (some a0) 11 1 fun v5 =>
    gR (some a0) 11 6 fun v6 =>
    rcv v5 9 fun r35 => call (f_X6_copyPlaces r35 v6) (fun (v7 : Unit) =>
    lets (0 : Int32) fun (v8 : Int32) =>
    lets (0 : Int32) fun (v9 : Int32) =>
    L_X8_merge_30 (some a0) v2 v4 (fun (v30 : Int32) => j_X8_merge_159 (some a0) v30) 100000 v8 v9) nox) thr) thr
set_option maxRecDepth 100000 in
set_option maxHeartbeats 4000000 in
theorem m_X8_merge {G : GG} {l : Launch} {a0 : Nat} {p1 : Int32} {p2 : Int32} {hs hs' : Hs} {o : Except Nat Int32} (h : f_X8_merge a0 p1 p2 hs = some (o, hs')) : CT G l yX8_merge cX8_merge 9 (some .int) 11 408 2 12 [.ref a0, .int p1, .int p2] hs o hs' tvI := by
  refine vx_ofW (cc := cX8_merge) (maxL := 9) (ret := (some .int)) (by decide +kernel) rfl ?_
  intro p e s m args below meth c s₁ B hml hxt hv
  obtain ⟨hav, hR, hKn⟩ := hv
  subst hav
  have hts := atoms_spec (ws := .code yX8_merge cX8_merge 9 (some .int) :: Tg) B.pre
  have C : Cx G l p s m _ c RX8 cX8_merge 9 := ⟨B.exec, B.bytes, hml, findClass_of_methodNamed B.named, fun w hw => hts w (List.mem_cons_of_mem _ hw), hKn, fun q hq => Nat.le_trans hR.2.2.1 hq⟩
  have C2 : Cy meth c (some .int) := ⟨B.returns, B.notSynchronized, hxt⟩
  have key : WG G p l e { frames := 11, cells := 2, slots := 12, locals := 408 } s m ([.ref a0, .int p1, .int p2] : List Value).toArray below meth c 9 0 0 (vx_MQ below (QcT G o hs' tvI) (XCT G o hs') ([.ref a0, .int p1, .int p2] : List Value).toArray s 2 12 (gA G)) hs [(0, va_rf (some a0)), (1, .int p1), (2, .int p2)] [] 0 := by
    unfold f_X8_merge at h
    refine q_aload_n C 0 dX8_merge_0 rfl ?_
    refine q_iload_n C 1 dX8_merge_1 rfl ?_
    refine q_callVX C (CN := RX8) (T := TX8) (N := 10) [.int p1] [] C2 ⟨(Nat.le_of_ble_eq_true rfl), (Nat.le_of_ble_eq_true rfl)⟩ (fun a0 o2 hs1 hm => m_X8_versionNumbered hm) lk_X8_395 im_X8_versionNumbered se_X8_X8_versionNumbered rfl ⟨(Nat.le_of_ble_eq_true rfl), (Nat.le_of_ble_eq_true rfl)⟩ ⟨(Nat.le_of_ble_eq_true rfl), (Nat.le_of_ble_eq_true rfl)⟩ rfl rfl (by decide) dX8_merge_2 h (fun v1 hs h => WG_st (st' := [va_rf v1]) rfl ?_)
    refine q_astore_n C (fun v2 => [(3, va_rf v2), (0, va_rf (some a0)), (1, .int p1), (2, .int p2)]) dX8_merge_5 (by decide) (fun _ => rfl) h (fun v2 h => ?_)
    refine q_aload_n C 1 dX8_merge_6 rfl ?_
    refine q_iload_n C 3 dX8_merge_7 rfl ?_
    refine q_callVX C (CN := RX8) (T := TX8) (N := 10) [.int p2] [] C2 ⟨(Nat.le_of_ble_eq_true rfl), (Nat.le_of_ble_eq_true rfl)⟩ (fun a0 o2 hs1 hm => m_X8_versionNumbered hm) lk_X8_395 im_X8_versionNumbered se_X8_X8_versionNumbered rfl ⟨(Nat.le_of_ble_eq_true rfl), (Nat.le_of_ble_eq_true rfl)⟩ ⟨(Nat.le_of_ble_eq_true rfl), (Nat.le_of_ble_eq_true rfl)⟩ rfl rfl (by decide) dX8_merge_8 h (fun v3 hs h => WG_st (st' := [va_rf v3]) rfl ?_)
    refine q_astore C (fun v4 => [(4, va_rf v4), (3, va_rf v2), (0, va_rf (some a0)), (1, .int p1), (2, .int p2)]) dX8_merge_11 (by decide) (fun _ => rfl) h (fun v4 h => ?_)
    refine q_aload_n C 2 dX8_merge_13 rfl ?_
    refine q_gR C fl_X8_19 dX8_merge_14 h (fun v5 h => ?_)
    refine q_aload_n C 2 dX8_merge_17 rfl ?_
    refine q_gR C fl_X8_49 dX8_merge_18 h (fun v6 h => ?_)
    refine q_callV C (CN := RX6) (T := TX6) (N := 6) [va_rf v6] [] (fun a0 o2 hs1 hm => m_X6_copyPlaces hm) lk_X8_391 im_X6_copyPlaces se_X6_X6_copyPlaces rfl ⟨(Nat.le_of_ble_eq_true rfl), (Nat.le_of_ble_eq_true rfl)⟩ ⟨(Nat.le_of_ble_eq_true rfl), (Nat.le_of_ble_eq_true rfl)⟩ rfl rfl (by decide) dX8_merge_21 h (fun v7 hs h => WG_st (st' := []) rfl ?_)
    refine q_iconst C (0 : Int32) dX8_merge_24 (by decide) ?_
    refine q_istore C (fun v8 => [(5, .int v8), (4, va_rf v4), (3, va_rf v2), (0, va_rf (some a0)), (1, .int p1), (2, .int p2)]) dX8_merge_25 (by decide) (fun _ => rfl) h (fun v8 h => ?_)
    refine q_iconst C (0 : Int32) dX8_merge_27 (by decide) ?_
    refine q_istore C (fun v9 => [(6, .int v9), (5, .int v8), (4, va_rf v4), (3, va_rf v2), (0, va_rf (some a0)), (1, .int p1), (2, .int p2)]) dX8_merge_28 (by decide) (fun _ => rfl) h (fun v9 h => ?_)
    refine WG.sub [4, 3, 2, 1, 0] rfl ?_
    refine w_L_X8_merge_30 C C2 _ _ _ _ ?_ _ _ _ _ h
    · intro v30 hs h
      exact w_j_X8_merge_159 C C2 _ _   h
  rw [lg_entry_eq]
  exact key _ _ _ hR va_S.rf ⟨lv_entry _ (n := 9) (Nat.le_of_ble_eq_true rfl), (c1_r (c1_i (c1_i c1_n)))⟩

theorem cd_X8_placedShare : Cond.code yX8_placedShare cX8_placedShare 3 (some .float) ∈ Tg := Tg_of (i := 1472) (by decide +kernel) (by decide +kernel)
theorem wc_X8_x404 : Cond.classLink RX8 404 "java/lang/ArithmeticException" ∈ Tg := Tg_of (i := 1473) (by decide +kernel) (by decide +kernel)
theorem iw_x5 : Cond.initialized "java/lang/ArithmeticException" ∈ Tg := Tg_of (i := 112) (by decide +kernel) (by decide +kernel)
set_option maxRecDepth 100000 in
theorem at_X8_408 : ThrA RX8 408 5 := ⟨by decide +kernel, by decide +kernel, by decide +kernel, by decide +kernel, by decide +kernel, by decide⟩
section M_X8_placedShare
variable {p : Program} {l : Launch} {e : Env} {s : State} {m : MethodId} {args : Array Value} {below : List Frame} {meth : Method} {c : Code} {G : GG} {o : Except Nat UInt32} {hs' : Hs}
end M_X8_placedShare
def f_X8_placedShare (a0 : Nat) : OO UInt32 :=
    gR (some a0) 11 1 fun v1 =>
    gR v1 9 2 fun v2 =>
    rcv v2 2 fun r11 => call (f_Jx4a65c_size_8abf5 r11 ) (fun (v3 : Int32) =>
    lets v3 fun (v4 : Int32) =>
    (if ¬ v4 = 0 then
    gR (some a0) 11 1 fun v5 =>
    rcv v5 9 fun r10 => call (f_X6_unplaced r10 ) (fun (v6 : Int32) =>
    call (f_J6_bitCount_0f7a4 v6) (fun (v7 : Int32) =>
    lets (v4 - v7) fun (v8 : Int32) =>
    fdv (FP.i2f v8) (FP.i2f v4) fun v9 =>
    rtn v9) nox) nox
    else
    nthrow 5)) nox
set_option maxRecDepth 100000 in
set_option maxHeartbeats 4000000 in
theorem m_X8_placedShare {G : GG} {l : Launch} {a0 : Nat} {hs hs' : Hs} {o : Except Nat UInt32} (h : f_X8_placedShare a0 hs = some (o, hs')) : CT G l yX8_placedShare cX8_placedShare 3 (some .float) 6 200 1 6 [.ref a0] hs o hs' tvF := by
  refine vx_ofW (cc := cX8_placedShare) (maxL := 3) (ret := (some .float)) (by decide +kernel) rfl ?_
  intro p e s m args below meth c s₁ B hml hxt hv
  obtain ⟨hav, hR, hKn⟩ := hv
  subst hav
  have hts := atoms_spec (ws := .code yX8_placedShare cX8_placedShare 3 (some .float) :: Tg) B.pre
  have C : Cx G l p s m _ c RX8 cX8_placedShare 3 := ⟨B.exec, B.bytes, hml, findClass_of_methodNamed B.named, fun w hw => hts w (List.mem_cons_of_mem _ hw), hKn, fun q hq => Nat.le_trans hR.2.2.1 hq⟩
  have C2 : Cy meth c (some .float) := ⟨B.returns, B.notSynchronized, hxt⟩
  have key : WG G p l e { frames := 6, cells := 1, slots := 6, locals := 200 } s m ([.ref a0] : List Value).toArray below meth c 3 0 0 (vx_MQ below (QcT G o hs' tvF) (XCT G o hs') ([.ref a0] : List Value).toArray s 1 6 (gA G)) hs [(0, va_rf (some a0))] [] 0 := by
    unfold f_X8_placedShare at h
    refine q_aload_n C 0 dX8_placedShare_0 rfl ?_
    refine q_gR C fl_X8_19 dX8_placedShare_1 h (fun v1 h => ?_)
    refine q_gR C fl_X8_121 dX8_placedShare_4 h (fun v2 h => ?_)
    refine q_callV C (CN := RJx4a65c) (T := TJx4a65c) (N := 3) [] [] (fun a0 o2 hs1 hm => m_Jx4a65c_size_8abf5 hm) lk_X8_70 im_Jx4a65c_size_8abf5 se_Jx4a65c_Jx4a65c_size_8abf5 rfl ⟨(Nat.le_of_ble_eq_true rfl), (Nat.le_of_ble_eq_true rfl)⟩ ⟨(Nat.le_of_ble_eq_true rfl), (Nat.le_of_ble_eq_true rfl)⟩ rfl rfl (by decide) dX8_placedShare_7 h (fun v3 hs h => WG_st (st' := [.int v3]) rfl ?_)
    refine q_istore_n C (fun v4 => [(1, .int v4), (0, va_rf (some a0))]) dX8_placedShare_10 (by decide) (fun _ => rfl) h (fun v4 h => ?_)
    refine q_iload_n C 0 dX8_placedShare_11 rfl ?_
    refine q_if_ne C 26 dX8_placedShare_12 (by decide) h (fun h => ?_) (fun h => ?_)
    · refine q_iload_n C 0 dX8_placedShare_26 rfl ?_
      refine q_aload_n C 1 dX8_placedShare_27 rfl ?_
      refine q_gR C fl_X8_19 dX8_placedShare_28 h (fun v5 h => ?_)
      refine q_callV C (CN := RX6) (T := TX6) (N := 6) [] [.int v4] (fun a0 o2 hs1 hm => m_X6_unplaced hm) lk_X8_281 im_X6_unplaced se_X6_X6_unplaced rfl ⟨(Nat.le_of_ble_eq_true rfl), (Nat.le_of_ble_eq_true rfl)⟩ ⟨(Nat.le_of_ble_eq_true rfl), (Nat.le_of_ble_eq_true rfl)⟩ rfl rfl (by simp only [List.map, cat_rf, cat_i, cat_a]; decide) dX8_placedShare_31 h (fun v6 hs h => WG_st (st' := [.int v6, .int v4]) rfl ?_)
      refine q_callS C [.int v6] [.int v4] (fun o2 hs1 hm => m_J6_bitCount_0f7a4 hm) lk_X8_202 sm_J6_bitCount_0f7a4 ⟨(Nat.le_of_ble_eq_true rfl), (Nat.le_of_ble_eq_true rfl)⟩ ⟨(Nat.le_of_ble_eq_true rfl), (Nat.le_of_ble_eq_true rfl)⟩ rfl rfl (by simp only [List.map, cat_rf, cat_i, cat_a]; decide) dX8_placedShare_34 h (fun v7 hs h => WG_st (st' := [.int v7, .int v4]) rfl ?_)
      refine q_isub C dX8_placedShare_37 ?_
      refine q_istore_n C (fun v8 => [(2, .int v8), (1, .int v4), (0, va_rf (some a0))]) dX8_placedShare_38 (by decide) (fun _ => rfl) h (fun v8 h => ?_)
      refine q_iload_n C 0 dX8_placedShare_39 rfl ?_
      refine q_i2f C dX8_placedShare_40 ?_
      refine q_iload_n C 1 dX8_placedShare_41 rfl ?_
      refine q_i2f C dX8_placedShare_42 ?_
      refine q_fdiv C dX8_placedShare_43 h (fun v9 h => ?_)
      exact q_fret C C2 rfl (Nat.le_of_ble_eq_true rfl) (Nat.le_of_ble_eq_true rfl) dX8_placedShare_44 h
    · exact q_throw C C2 (k := 5) (tx := "there are no lessons") wc_X8_x404 iw_x5 at_X8_408 (by decide +kernel) (Nat.le_of_ble_eq_true rfl) (Nat.le_of_ble_eq_true rfl) (Nat.le_of_ble_eq_true rfl) (Nat.le_of_ble_eq_true rfl) (Nat.le_of_ble_eq_true rfl) (Nat.le_of_ble_eq_true rfl) (by decide) dX8_placedShare_15 dX8_placedShare_18 (Or.inr ⟨rfl, dX8_placedShare_19⟩) dX8_placedShare_22 dX8_placedShare_25 h
  rw [lg_entry_eq]
  exact key _ _ _ hR va_S.rf ⟨lv_entry _ (n := 3) (Nat.le_of_ble_eq_true rfl), (c1_r c1_n)⟩

theorem cd_X8_meanPossible : Cond.code yX8_meanPossible cX8_meanPossible 4 (some .double) ∈ Tg := Tg_of (i := 1482) (by decide +kernel) (by decide +kernel)
section M_X8_meanPossible
variable {p : Program} {l : Launch} {e : Env} {s : State} {m : MethodId} {args : Array Value} {below : List Frame} {meth : Method} {c : Code} {G : GG} {o : Except Nat UInt64} {hs' : Hs}
def L_X8_meanPossible_30 (a0 : Option Nat) (a1 : Int32) (k_30_65 : Int32 → OO UInt64) : Nat → Int32 → Int32 → OO UInt64
  | 0, _, _ => failO
  | n + 1, x2, x3 =>
    (if a1 ≤ x3 then
    k_30_65 x2
    else
    gR a0 11 1 fun v7 =>
    gR a0 11 1 fun v8 =>
    gR v8 9 2 fun v9 =>
    rcv v9 2 fun r15 => call (f_Jx4a65c_get_915e3 r15 x3) (fun (v10 : Option Nat) =>
    cst v10 7 (
    rcv v7 9 fun r14 => call (f_X6_countPossible r14 v10) (fun (v11 : Int32) =>
    lets (x2 + v11) fun (v12 : Int32) =>
    lets (x3 + (1 : Int32)) fun (v13 : Int32) =>
    (L_X8_meanPossible_30 a0 a1 k_30_65 n) v12 v13) nox)) nox)
set_option maxRecDepth 100000 in
set_option maxHeartbeats 4000000 in
theorem w_L_X8_meanPossible_30 (C : Cx G l p s m args c RX8 cX8_meanPossible 4) (C2 : Cy meth c (some .double)) (a0 : Option Nat) (a1 : Int32) (k_30_65 : Int32 → OO UInt64) (hk_30_65 : ∀ (y2 : Int32) hs, k_30_65 y2 hs = some (o, hs') → WG G p l e { frames := 11, cells := 1, slots := 6, locals := 405 } s m args below meth c 4 0 0 (vx_MQ below (QcT G o hs' tvD) (XCT G o hs') args s 1 6 (gA G)) hs [(1, .int a1), (2, .int y2)] [] 65) : ∀ (n : Nat) (x2 : Int32) (x3 : Int32) (hs : Hs), L_X8_meanPossible_30 a0 a1 k_30_65 n x2 x3 hs = some (o, hs') → WG G p l e { frames := 11, cells := 1, slots := 6, locals := 405 } s m args below meth c 4 0 0 (vx_MQ below (QcT G o hs' tvD) (XCT G o hs') args s 1 6 (gA G)) hs [(0, va_rf a0), (1, .int a1), (2, .int x2), (3, .int x3)] [] 30 := by
  intro n
  induction n with
  | zero =>
    intro x2 x3 hs h
    rw [L_X8_meanPossible_30] at h
    exact absurd h failO_e
  | succ n hrec_30 =>
    intro x2 x3 hs h
    rw [L_X8_meanPossible_30] at h
    refine q_iload_n C 3 dX8_meanPossible_30 rfl ?_
    refine q_iload_n C 1 dX8_meanPossible_31 rfl ?_
    refine q_icmp_ge C 65 dX8_meanPossible_32 (by decide) h (fun h => ?_) (fun h => ?_)
    · refine WG.sub [1, 2] rfl ?_
      exact hk_30_65 _ _ h
    · refine q_iload_n C 2 dX8_meanPossible_35 rfl ?_
      refine q_aload_n C 0 dX8_meanPossible_36 rfl ?_
      refine q_gR C fl_X8_19 dX8_meanPossible_37 h (fun v7 h => ?_)
      refine q_aload_n C 0 dX8_meanPossible_40 rfl ?_
      refine q_gR C fl_X8_19 dX8_meanPossible_41 h (fun v8 h => ?_)
      refine q_gR C fl_X8_121 dX8_meanPossible_44 h (fun v9 h => ?_)
      refine q_iload_n C 3 dX8_meanPossible_47 rfl ?_
      refine q_callV C (CN := RJx4a65c) (T := TJx4a65c) (N := 3) [.int x3] [va_rf v7, .int x2] (fun a0 o2 hs1 hm => m_Jx4a65c_get_915e3 hm) lk_X8_186 im_Jx4a65c_get_915e3 se_Jx4a65c_Jx4a65c_get_915e3 rfl ⟨(Nat.le_of_ble_eq_true rfl), (Nat.le_of_ble_eq_true rfl)⟩ ⟨(Nat.le_of_ble_eq_true rfl), (Nat.le_of_ble_eq_true rfl)⟩ rfl rfl (by simp only [List.map, cat_rf, cat_i, cat_a]; decide) dX8_meanPossible_48 h (fun v10 hs h => WG_st (st' := [va_rf v10, va_rf v7, .int x2]) rfl ?_)
      refine q_castS C (nm := RX4) (T := TX4) (N := 18) rfl wc_X8_126 dX8_meanPossible_51 h (fun h => ?_)
      refine q_callV C (CN := RX6) (T := TX6) (N := 6) [va_rf v10] [.int x2] (fun a0 o2 hs1 hm => m_X6_countPossible hm) lk_X8_263 im_X6_countPossible se_X6_X6_countPossible rfl ⟨(Nat.le_of_ble_eq_true rfl), (Nat.le_of_ble_eq_true rfl)⟩ ⟨(Nat.le_of_ble_eq_true rfl), (Nat.le_of_ble_eq_true rfl)⟩ rfl rfl (by simp only [List.map, cat_rf, cat_i, cat_a]; decide) dX8_meanPossible_54 h (fun v11 hs h => WG_st (st' := [.int v11, .int x2]) rfl ?_)
      refine q_iadd C dX8_meanPossible_57 ?_
      refine q_istore_n C (fun v12 => [(2, .int v12), (0, va_rf a0), (1, .int a1), (3, .int x3)]) dX8_meanPossible_58 (by decide) (fun _ => rfl) h (fun v12 h => ?_)
      refine q_iinc C 3 (1 : Int32) (fun v13 => [(3, .int v13), (2, .int v12), (0, va_rf a0), (1, .int a1)]) dX8_meanPossible_59 rfl (by decide) (by decide) (fun _ => rfl) h (fun v13 h => ?_)
      refine q_goto C 30 dX8_meanPossible_62 (by decide) ?_
      refine WG.sub [2, 3, 1, 0] rfl ?_
      exact hrec_30 _ _ _ h
end M_X8_meanPossible
def f_X8_meanPossible (a0 : Nat) : OO UInt64 :=
    gR (some a0) 11 1 fun v1 =>
    gR v1 9 2 fun v2 =>
    rcv v2 2 fun r18 => call (f_Jx4a65c_size_8abf5 r18 ) (fun (v3 : Int32) =>
    lets v3 fun (v4 : Int32) =>
    (if ¬ v4 = 0 then
    lets (0 : Int32) fun (v5 : Int32) =>
    lets (0 : Int32) fun (v6 : Int32) =>
    L_X8_meanPossible_30 (some a0) v4 (fun (v16 : Int32) => ddv (FP.i2d v16) (FP.i2d v4) fun v17 =>
    rtn v17) 100000 v5 v6
    else
    nthrow 5)) nox
set_option maxRecDepth 100000 in
set_option maxHeartbeats 4000000 in
theorem m_X8_meanPossible {G : GG} {l : Launch} {a0 : Nat} {hs hs' : Hs} {o : Except Nat UInt64} (h : f_X8_meanPossible a0 hs = some (o, hs')) : CT G l yX8_meanPossible cX8_meanPossible 4 (some .double) 11 405 1 6 [.ref a0] hs o hs' tvD := by
  refine vx_ofW (cc := cX8_meanPossible) (maxL := 4) (ret := (some .double)) (by decide +kernel) rfl ?_
  intro p e s m args below meth c s₁ B hml hxt hv
  obtain ⟨hav, hR, hKn⟩ := hv
  subst hav
  have hts := atoms_spec (ws := .code yX8_meanPossible cX8_meanPossible 4 (some .double) :: Tg) B.pre
  have C : Cx G l p s m _ c RX8 cX8_meanPossible 4 := ⟨B.exec, B.bytes, hml, findClass_of_methodNamed B.named, fun w hw => hts w (List.mem_cons_of_mem _ hw), hKn, fun q hq => Nat.le_trans hR.2.2.1 hq⟩
  have C2 : Cy meth c (some .double) := ⟨B.returns, B.notSynchronized, hxt⟩
  have key : WG G p l e { frames := 11, cells := 1, slots := 6, locals := 405 } s m ([.ref a0] : List Value).toArray below meth c 4 0 0 (vx_MQ below (QcT G o hs' tvD) (XCT G o hs') ([.ref a0] : List Value).toArray s 1 6 (gA G)) hs [(0, va_rf (some a0))] [] 0 := by
    unfold f_X8_meanPossible at h
    refine q_aload_n C 0 dX8_meanPossible_0 rfl ?_
    refine q_gR C fl_X8_19 dX8_meanPossible_1 h (fun v1 h => ?_)
    refine q_gR C fl_X8_121 dX8_meanPossible_4 h (fun v2 h => ?_)
    refine q_callV C (CN := RJx4a65c) (T := TJx4a65c) (N := 3) [] [] (fun a0 o2 hs1 hm => m_Jx4a65c_size_8abf5 hm) lk_X8_70 im_Jx4a65c_size_8abf5 se_Jx4a65c_Jx4a65c_size_8abf5 rfl ⟨(Nat.le_of_ble_eq_true rfl), (Nat.le_of_ble_eq_true rfl)⟩ ⟨(Nat.le_of_ble_eq_true rfl), (Nat.le_of_ble_eq_true rfl)⟩ rfl rfl (by decide) dX8_meanPossible_7 h (fun v3 hs h => WG_st (st' := [.int v3]) rfl ?_)
    refine q_istore_n C (fun v4 => [(1, .int v4), (0, va_rf (some a0))]) dX8_meanPossible_10 (by decide) (fun _ => rfl) h (fun v4 h => ?_)
    refine q_iload_n C 0 dX8_meanPossible_11 rfl ?_
    refine q_if_ne C 26 dX8_meanPossible_12 (by decide) h (fun h => ?_) (fun h => ?_)
    · refine q_iconst C (0 : Int32) dX8_meanPossible_26 (by decide) ?_
      refine q_istore_n C (fun v5 => [(2, .int v5), (1, .int v4), (0, va_rf (some a0))]) dX8_meanPossible_27 (by decide) (fun _ => rfl) h (fun v5 h => ?_)
      refine q_iconst C (0 : Int32) dX8_meanPossible_28 (by decide) ?_
      refine q_istore_n C (fun v6 => [(3, .int v6), (2, .int v5), (1, .int v4), (0, va_rf (some a0))]) dX8_meanPossible_29 (by decide) (fun _ => rfl) h (fun v6 h => ?_)
      refine WG.sub [3, 2, 1, 0] rfl ?_
      refine w_L_X8_meanPossible_30 C C2 _ _ _ ?_ _ _ _ _ h
      · intro v16 hs h
        refine q_iload_n C 1 dX8_meanPossible_65 rfl ?_
        refine q_i2d C dX8_meanPossible_66 ?_
        refine q_iload_n C 0 dX8_meanPossible_67 rfl ?_
        refine q_i2d C dX8_meanPossible_68 ?_
        refine q_ddiv C dX8_meanPossible_69 h (fun v17 h => ?_)
        exact q_dret C C2 rfl (Nat.le_of_ble_eq_true rfl) (Nat.le_of_ble_eq_true rfl) dX8_meanPossible_70 h
    · exact q_throw C C2 (k := 5) (tx := "there are no lessons") wc_X8_x404 iw_x5 at_X8_408 (by decide +kernel) (Nat.le_of_ble_eq_true rfl) (Nat.le_of_ble_eq_true rfl) (Nat.le_of_ble_eq_true rfl) (Nat.le_of_ble_eq_true rfl) (Nat.le_of_ble_eq_true rfl) (Nat.le_of_ble_eq_true rfl) (by decide) dX8_meanPossible_15 dX8_meanPossible_18 (Or.inr ⟨rfl, dX8_meanPossible_19⟩) dX8_meanPossible_22 dX8_meanPossible_25 h
  rw [lg_entry_eq]
  exact key _ _ _ hR va_S.rf ⟨lv_entry _ (n := 4) (Nat.le_of_ble_eq_true rfl), (c1_r c1_n)⟩

