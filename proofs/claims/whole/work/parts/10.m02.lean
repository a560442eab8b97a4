theorem cd_X6_countPossible : Cond.code yX6_countPossible cX6_countPossible 2 (some .int) ∈ Tg := Tg_of (i := 294) (by decide +kernel) (by decide +kernel)
theorem ml_X6_138 : Cond.methodLink RX6 138 yX6_judgePlaces ∈ Tg := Tg_of (i := 295) (by decide +kernel) (by decide +kernel)
theorem lk_X6_138 : Lk RX6 138 yX6_judgePlaces cX6_judgePlaces 2 none 1 := ⟨ml_X6_138, cd_X6_judgePlaces, iw_X6, by decide +kernel⟩
theorem ml_X6_168 : Cond.methodLink RX6 168 yX4_countPossiblePlaces ∈ Tg := Tg_of (i := 364) (by decide +kernel) (by decide +kernel)
theorem lk_X6_168 : Lk RX6 168 yX4_countPossiblePlaces cX4_countPossiblePlaces 3 (some .int) 0 := ⟨ml_X6_168, cd_X4_countPossiblePlaces, iw_X4, by decide +kernel⟩
theorem im_X4_countPossiblePlaces : Cond.instanceMethod yX4_countPossiblePlaces ∈ Tg := Tg_of (i := 365) (by decide +kernel) (by decide +kernel)
theorem se_X4_X4_countPossiblePlaces : Cond.selects RX4 yX4_countPossiblePlaces yX4_countPossiblePlaces ∈ Tg := Tg_of (i := 366) (by decide +kernel) (by decide +kernel)
theorem im_X6_judgePlaces : Cond.instanceMethod yX6_judgePlaces ∈ Tg := Tg_of (i := 296) (by decide +kernel) (by decide +kernel)
theorem se_X6_X6_judgePlaces : Cond.selects RX6 yX6_judgePlaces yX6_judgePlaces ∈ Tg := Tg_of (i := 297) (by decide +kernel) (by decide +kernel)
section M_X6_countPossible
variable {p : Program} {l : Launch} {e : Env} {s : State} {m : MethodId} {args : Array Value} {below : List Frame} {meth : Method} {c : Code} {G : GG} {o : Except Nat Int32} {hs' : Hs}
end M_X6_countPossible
def f_X6_countPossible (a0 : Nat) (p1 : Option Nat) : OO Int32 :=
    rcv (some a0) 9 fun r4 => call (f_X6_judgePlaces r4 p1) (fun (v1 : Unit) =>
    rcv p1 7 fun r3 => call (f_X4_countPossiblePlaces r3 ) (fun (v2 : Int32) =>
    rtn v2) nox) nox
set_option maxRecDepth 100000 in
set_option maxHeartbeats 4000000 in
theorem m_X6_countPossible {G : GG} {l : Launch} {a0 : Nat} {p1 : Option Nat} {hs hs' : Hs} {o : Except Nat Int32} (h : f_X6_countPossible a0 p1 hs = some (o, hs')) : CT G l yX6_countPossible cX6_countPossible 2 (some .int) 10 384 0 0 [.ref a0, va_rf p1] hs o hs' tvI := by
  refine vx_ofW (cc := cX6_countPossible) (maxL := 2) (ret := (some .int)) (by decide +kernel) rfl ?_
  intro p e s m args below meth c s₁ B hml hxt hv
  obtain ⟨hav, hR, hKn⟩ := hv
  subst hav
  have hts := atoms_spec (ws := .code yX6_countPossible cX6_countPossible 2 (some .int) :: Tg) B.pre
  have C : Cx G l p s m _ c RX6 cX6_countPossible 2 := ⟨B.exec, B.bytes, hml, findClass_of_methodNamed B.named, fun w hw => hts w (List.mem_cons_of_mem _ hw), hKn, fun q hq => Nat.le_trans hR.2.2.1 hq⟩
  have C2 : Cy meth c (some .int) := ⟨B.returns, B.notSynchronized, hxt⟩
  have key : WG G p l e { frames := 10, cells := 0, slots := 0, locals := 384 } s m ([.ref a0, va_rf p1] : List Value).toArray below meth c 2 0 0 (vx_MQ below (QcT G o hs' tvI) (XCT G o hs') ([.ref a0, va_rf p1] : List Value).toArray s 0 0 (gA G)) hs [(0, va_rf (some a0)), (1, va_rf p1)] [] 0 := by
    unfold f_X6_countPossible at h
    refine q_aload_n C 0 dX6_countPossible_0 rfl ?_
    refine q_aload_n C 1 dX6_countPossible_1 rfl ?_
    refine q_callV C (CN := RX6) (T := TX6) (N := 6) [va_rf p1] [] (fun a0 o2 hs1 hm => m_X6_judgePlaces hm) lk_X6_138 im_X6_judgePlaces se_X6_X6_judgePlaces rfl ⟨(Nat.le_of_ble_eq_true rfl), (Nat.le_of_ble_eq_true rfl)⟩ ⟨(Nat.le_of_ble_eq_true rfl), (Nat.le_of_ble_eq_true rfl)⟩ rfl rfl (by decide) dX6_countPossible_2 h (fun v1 hs h => WG_st (st' := []) rfl ?_)
    refine q_aload_n C 1 dX6_countPossible_5 rfl ?_
    refine q_callV C (CN := RX4) (T := TX4) (N := 18) [] [] (fun a0 o2 hs1 hm => m_X4_countPossiblePlaces hm) lk_X6_168 im_X4_countPossiblePlaces se_X4_X4_countPossiblePlaces rfl ⟨(Nat.le_of_ble_eq_true rfl), (Nat.le_of_ble_eq_true rfl)⟩ ⟨(Nat.le_of_ble_eq_true rfl), (Nat.le_of_ble_eq_true rfl)⟩ rfl rfl (by decide) dX6_countPossible_6 h (fun v2 hs h => WG_st (st' := [.int v2]) rfl ?_)
    exact q_iret C C2 rfl (Nat.le_of_ble_eq_true rfl) (Nat.le_of_ble_eq_true rfl) dX6_countPossible_9 h
  rw [lg_entry_eq]
  cases p1 <;> exact key _ _ _ hR va_S.rf ⟨lv_entry _ (n := 2) (Nat.le_of_ble_eq_true rfl), (c1_r (c1_r c1_n))⟩

theorem cd_X6_findHardest : Cond.code yX6_findHardest cX6_findHardest 6 (some (.object "Termgrid$Lesson")) ∈ Tg := Tg_of (i := 287) (by decide +kernel) (by decide +kernel)
theorem lk_X6_89 : LkN RX6 89 yX8_has "Termgrid" cX8_has 2 (some .boolean) 2 := ⟨by decide +kernel, cd_X8_has, iw_X8, by decide +kernel⟩
theorem ml_X6_184 : Cond.methodLink RX6 184 yX6_countPossible ∈ Tg := Tg_of (i := 291) (by decide +kernel) (by decide +kernel)
theorem lk_X6_184 : Lk RX6 184 yX6_countPossible cX6_countPossible 2 (some .int) 1 := ⟨ml_X6_184, cd_X6_countPossible, iw_X6, by decide +kernel⟩
theorem im_X6_countPossible : Cond.instanceMethod yX6_countPossible ∈ Tg := Tg_of (i := 292) (by decide +kernel) (by decide +kernel)
theorem se_X6_X6_countPossible : Cond.selects RX6 yX6_countPossible yX6_countPossible ∈ Tg := Tg_of (i := 293) (by decide +kernel) (by decide +kernel)
section M_X6_findHardest
variable {p : Program} {l : Launch} {e : Env} {s : State} {m : MethodId} {args : Array Value} {below : List Frame} {meth : Method} {c : Code} {G : GG} {o : Except Nat (Option Nat)} {hs' : Hs}
def j_X6_findHardest_72 (a0 : Option Nat) (a1 : Int32) (a2 : Option Nat) (a3 : Int32) (a4 : Int32)  (rec_7 : Option Nat → Int32 → Int32 → OO (Option Nat)) : OO (Option Nat) :=
  lets (a4 + (1 : Int32)) fun (v7 : Int32) =>
    rec_7 a2 a3 v7
set_option maxRecDepth 100000 in
set_option maxHeartbeats 4000000 in
theorem w_j_X6_findHardest_72 (C : Cx G l p s m args c RX6 cX6_findHardest 6) (C2 : Cy meth c (some (.object "Termgrid$Lesson"))) {hs : Hs} (a0 : Option Nat) (a1 : Int32) (a2 : Option Nat) (a3 : Int32) (a4 : Int32)  (rec_7 : Option Nat → Int32 → Int32 → OO (Option Nat)) (hrec_7 : ∀ (y2 : Option Nat) (y3 : Int32) (y4 : Int32) hs, rec_7 y2 y3 y4 hs = some (o, hs') → WG G p l e { frames := 11, cells := 0, slots := 0, locals := 405 } s m args below meth c 6 0 0 (vx_MQ below (QcT G o hs' tvR) (XCT G o hs') args s 0 0 (gA G)) hs [(0, va_rf a0), (1, .int a1), (2, va_rf y2), (3, .int y3), (4, .int y4)] [] 7) (h : j_X6_findHardest_72 a0 a1 a2 a3 a4 rec_7 hs = some (o, hs')) : WG G p l e { frames := 11, cells := 0, slots := 0, locals := 405 } s m args below meth c 6 0 0 (vx_MQ below (QcT G o hs' tvR) (XCT G o hs') args s 0 0 (gA G)) hs [(0, va_rf a0), (1, .int a1), (2, va_rf a2), (3, .int a3), (4, .int a4)] [] 72 := by
  unfold j_X6_findHardest_72 at h
  refine q_iinc C 4 (1 : Int32) (fun v7 => [(4, .int v7), (0, va_rf a0), (1, .int a1), (2, va_rf a2), (3, .int a3)]) dX6_findHardest_72 rfl (by decide) (by decide) (fun _ => rfl) h (fun v7 h => ?_)
  refine q_goto C 7 dX6_findHardest_75 (by decide) ?_
  refine WG.sub [1, 2, 3, 4, 0] rfl ?_
  exact hrec_7 _ _ _ _ h
def j_X6_findHardest_56 (a0 : Option Nat) (a1 : Int32) (a4 : Int32) (a5 : Int32)  (rec_7 : Option Nat → Int32 → Int32 → OO (Option Nat)) : OO (Option Nat) :=
  gR a0 9 2 fun v12 =>
    rcv v12 2 fun r16 => call (f_Jx4a65c_get_915e3 r16 a4) (fun (v13 : Option Nat) =>
    cst v13 7 (
    lets v13 fun (v14 : Option Nat) =>
    lets a5 fun (v15 : Int32) =>
    j_X6_findHardest_72 a0 a1 v14 v15 a4 rec_7)) nox
set_option maxRecDepth 100000 in
set_option maxHeartbeats 4000000 in
theorem w_j_X6_findHardest_56 (C : Cx G l p s m args c RX6 cX6_findHardest 6) (C2 : Cy meth c (some (.object "Termgrid$Lesson"))) {hs : Hs} (a0 : Option Nat) (a1 : Int32) (a4 : Int32) (a5 : Int32)  (rec_7 : Option Nat → Int32 → Int32 → OO (Option Nat)) (hrec_7 : ∀ (y2 : Option Nat) (y3 : Int32) (y4 : Int32) hs, rec_7 y2 y3 y4 hs = some (o, hs') → WG G p l e { frames := 11, cells := 0, slots := 0, locals := 405 } s m args below meth c 6 0 0 (vx_MQ below (QcT G o hs' tvR) (XCT G o hs') args s 0 0 (gA G)) hs [(0, va_rf a0), (1, .int a1), (2, va_rf y2), (3, .int y3), (4, .int y4)] [] 7) (h : j_X6_findHardest_56 a0 a1 a4 a5 rec_7 hs = some (o, hs')) : WG G p l e { frames := 11, cells := 0, slots := 0, locals := 405 } s m args below meth c 6 0 0 (vx_MQ below (QcT G o hs' tvR) (XCT G o hs') args s 0 0 (gA G)) hs [(0, va_rf a0), (1, .int a1), (4, .int a4), (5, .int a5)] [] 56 := by
  unfold j_X6_findHardest_56 at h
  refine q_aload_n C 0 dX6_findHardest_56 rfl ?_
  refine q_gR C fl_X6_21 dX6_findHardest_57 h (fun v12 h => ?_)
  refine q_iload C 2 dX6_findHardest_60 rfl ?_
  refine q_callV C (CN := RJx4a65c) (T := TJx4a65c) (N := 3) [.int a4] [] (fun a0 o2 hs1 hm => m_Jx4a65c_get_915e3 hm) lk_X6_56 im_Jx4a65c_get_915e3 se_Jx4a65c_Jx4a65c_get_915e3 rfl ⟨(Nat.le_of_ble_eq_true rfl), (Nat.le_of_ble_eq_true rfl)⟩ ⟨(Nat.le_of_ble_eq_true rfl), (Nat.le_of_ble_eq_true rfl)⟩ rfl rfl (by decide) dX6_findHardest_62 h (fun v13 hs h => WG_st (st' := [va_rf v13]) rfl ?_)
  refine q_castS C (nm := RX4) (T := TX4) (N := 18) rfl wc_X6_32 dX6_findHardest_65 h (fun h => ?_)
  refine q_astore_n C (fun v14 => [(2, va_rf v14), (0, va_rf a0), (1, .int a1), (4, .int a4), (5, .int a5)]) dX6_findHardest_68 (by decide) (fun _ => rfl) h (fun v14 h => ?_)
  refine q_iload C 4 dX6_findHardest_69 rfl ?_
  refine q_istore_n C (fun v15 => [(3, .int v15), (2, va_rf v14), (0, va_rf a0), (1, .int a1), (4, .int a4), (5, .int a5)]) dX6_findHardest_71 (by decide) (fun _ => rfl) h (fun v15 h => ?_)
  refine WG.sub [2, 3, 1, 0, 4] rfl ?_
  exact w_j_X6_findHardest_72 C C2 _ _ _ _ _ _ hrec_7 h
def L_X6_findHardest_7 (a0 : Option Nat) (a1 : Int32) (k_7_78 : Option Nat → OO (Option Nat)) : Nat → Option Nat → Int32 → Int32 → OO (Option Nat)
  | 0, _, _, _ => failO
  | n + 1, x2, x3, x4 =>
    gR a0 9 2 fun v4 =>
    rcv v4 2 fun r19 => call (f_Jx4a65c_size_8abf5 r19 ) (fun (v5 : Int32) =>
    (if v5 ≤ x4 then
    k_7_78 x2
    else
    call (f_X8_has a1 x4) (fun (v6 : Int32) =>
    (if v6 = 0 then
    j_X6_findHardest_72 a0 a1 x2 x3 x4 (L_X6_findHardest_7 a0 a1 k_7_78 n)
    else
    gR a0 9 2 fun v8 =>
    rcv v8 2 fun r18 => call (f_Jx4a65c_get_915e3 r18 x4) (fun (v9 : Option Nat) =>
    cst v9 7 (
    rcv a0 9 fun r17 => call (f_X6_countPossible r17 v9) (fun (v10 : Int32) =>
    lets v10 fun (v11 : Int32) =>
    (if x2 = none then
    j_X6_findHardest_56 a0 a1 x4 v11 (L_X6_findHardest_7 a0 a1 k_7_78 n)
    else
    (if x3 ≤ v11 then
    j_X6_findHardest_72 a0 a1 x2 x3 x4 (L_X6_findHardest_7 a0 a1 k_7_78 n)
    else
    j_X6_findHardest_56 a0 a1 x4 v11 (L_X6_findHardest_7 a0 a1 k_7_78 n)))) nox)) nox)) nox)) nox
set_option maxRecDepth 100000 in
set_option maxHeartbeats 4000000 in
theorem w_L_X6_findHardest_7 (C : Cx G l p s m args c RX6 cX6_findHardest 6) (C2 : Cy meth c (some (.object "Termgrid$Lesson"))) (a0 : Option Nat) (a1 : Int32) (k_7_78 : Option Nat → OO (Option Nat)) (hk_7_78 : ∀ (y2 : Option Nat) hs, k_7_78 y2 hs = some (o, hs') → WG G p l e { frames := 11, cells := 0, slots := 0, locals := 405 } s m args below meth c 6 0 0 (vx_MQ below (QcT G o hs' tvR) (XCT G o hs') args s 0 0 (gA G)) hs [(2, va_rf y2)] [] 78) : ∀ (n : Nat) (x2 : Option Nat) (x3 : Int32) (x4 : Int32) (hs : Hs), L_X6_findHardest_7 a0 a1 k_7_78 n x2 x3 x4 hs = some (o, hs') → WG G p l e { frames := 11, cells := 0, slots := 0, locals := 405 } s m args below meth c 6 0 0 (vx_MQ below (QcT G o hs' tvR) (XCT G o hs') args s 0 0 (gA G)) hs [(0, va_rf a0), (1, .int a1), (2, va_rf x2), (3, .int x3), (4, .int x4)] [] 7 := by
  intro n
  induction n with
  | zero =>
    intro x2 x3 x4 hs h
    rw [L_X6_findHardest_7] at h
    exact absurd h failO_e
  | succ n hrec_7 =>
    intro x2 x3 x4 hs h
    rw [L_X6_findHardest_7] at h
    refine q_iload C 4 dX6_findHardest_7 rfl ?_
    refine q_aload_n C 0 dX6_findHardest_9 rfl ?_
    refine q_gR C fl_X6_21 dX6_findHardest_10 h (fun v4 h => ?_)
    refine q_callV C (CN := RJx4a65c) (T := TJx4a65c) (N := 3) [] [.int x4] (fun a0 o2 hs1 hm => m_Jx4a65c_size_8abf5 hm) lk_X6_52 im_Jx4a65c_size_8abf5 se_Jx4a65c_Jx4a65c_size_8abf5 rfl ⟨(Nat.le_of_ble_eq_true rfl), (Nat.le_of_ble_eq_true rfl)⟩ ⟨(Nat.le_of_ble_eq_true rfl), (Nat.le_of_ble_eq_true rfl)⟩ rfl rfl (by simp only [List.map, cat_rf, cat_i, cat_a]; decide) dX6_findHardest_13 h (fun v5 hs h => WG_st (st' := [.int v5, .int x4]) rfl ?_)
    refine q_icmp_ge C 78 dX6_findHardest_16 (by decide) h (fun h => ?_) (fun h => ?_)
    · refine WG.sub [2] rfl ?_
      exact hk_7_78 _ _ h
    · refine q_iload_n C 1 dX6_findHardest_19 rfl ?_
      refine q_iload C 4 dX6_findHardest_20 rfl ?_
      refine q_callSN C [.int a1, .int x4] [] (fun o2 hs1 hm => m_X8_has hm) lk_X6_89 sm_X8_has ⟨(Nat.le_of_ble_eq_true rfl), (Nat.le_of_ble_eq_true rfl)⟩ ⟨(Nat.le_of_ble_eq_true rfl), (Nat.le_of_ble_eq_true rfl)⟩ rfl rfl (by decide) dX6_findHardest_22 h (fun v6 hs h => WG_st (st' := [.int v6]) rfl ?_)
      refine q_if_eq C 72 dX6_findHardest_25 (by decide) h (fun h => ?_) (fun h => ?_)
      · exact w_j_X6_findHardest_72 C C2 _ _ _ _ _ _ hrec_7 h
      · refine q_aload_n C 0 dX6_findHardest_28 rfl ?_
        refine q_aload_n C 0 dX6_findHardest_29 rfl ?_
        refine q_gR C fl_X6_21 dX6_findHardest_30 h (fun v8 h => ?_)
        refine q_iload C 4 dX6_findHardest_33 rfl ?_
        refine q_callV C (CN := RJx4a65c) (T := TJx4a65c) (N := 3) [.int x4] [va_rf a0] (fun a0 o2 hs1 hm => m_Jx4a65c_get_915e3 hm) lk_X6_56 im_Jx4a65c_get_915e3 se_Jx4a65c_Jx4a65c_get_915e3 rfl ⟨(Nat.le_of_ble_eq_true rfl), (Nat.le_of_ble_eq_true rfl)⟩ ⟨(Nat.le_of_ble_eq_true rfl), (Nat.le_of_ble_eq_true rfl)⟩ rfl rfl (by simp only [List.map, cat_rf, cat_i, cat_a]; decide) dX6_findHardest_35 h (fun v9 hs h => WG_st (st' := [va_rf v9, va_rf a0]) rfl ?_)
        refine q_castS C (nm := RX4) (T := TX4) (N := 18) rfl wc_X6_32 dX6_findHardest_38 h (fun h => ?_)
        refine q_callV C (CN := RX6) (T := TX6) (N := 6) [va_rf v9] [] (fun a0 o2 hs1 hm => m_X6_countPossible hm) lk_X6_184 im_X6_countPossible se_X6_X6_countPossible rfl ⟨(Nat.le_of_ble_eq_true rfl), (Nat.le_of_ble_eq_true rfl)⟩ ⟨(Nat.le_of_ble_eq_true rfl), (Nat.le_of_ble_eq_true rfl)⟩ rfl rfl (by decide) dX6_findHardest_41 h (fun v10 hs h => WG_st (st' := [.int v10]) rfl ?_)
        refine q_istore C (fun v11 => [(5, .int v11), (0, va_rf a0), (1, .int a1), (2, va_rf x2), (3, .int x3), (4, .int x4)]) dX6_findHardest_44 (by decide) (fun _ => rfl) h (fun v11 h => ?_)
        refine q_aload_n C 3 dX6_findHardest_46 rfl ?_
        refine q_ifnull C 56 dX6_findHardest_47 (by decide) h (fun h => ?_) (fun h => ?_)
        · refine WG.sub [1, 2, 5, 0] rfl ?_
          exact w_j_X6_findHardest_56 C C2 _ _ _ _ _ hrec_7 h
        · refine q_iload C 0 dX6_findHardest_50 rfl ?_
          refine q_iload_n C 4 dX6_findHardest_52 rfl ?_
          refine q_icmp_ge C 72 dX6_findHardest_53 (by decide) h (fun h => ?_) (fun h => ?_)
          · refine WG.sub [1, 2, 3, 4, 5] rfl ?_
            exact w_j_X6_findHardest_72 C C2 _ _ _ _ _ _ hrec_7 h
          · refine WG.sub [1, 2, 5, 0] rfl ?_
            exact w_j_X6_findHardest_56 C C2 _ _ _ _ _ hrec_7 h
end M_X6_findHardest
def f_X6_findHardest (a0 : Nat) (p1 : Int32) : OO (Option Nat) :=
    lets none fun (v1 : Option Nat) =>
    lets (0 : Int32) fun (v2 : Int32) =>
    lets (0 : Int32) fun (v3 : Int32) =>
    L_X6_findHardest_7 (some a0) p1 (fun (v20 : Option Nat) => rtn v20) 100000 v1 v2 v3
set_option maxRecDepth 100000 in
set_option maxHeartbeats 4000000 in
theorem m_X6_findHardest {G : GG} {l : Launch} {a0 : Nat} {p1 : Int32} {hs hs' : Hs} {o : Except Nat (Option Nat)} (h : f_X6_findHardest a0 p1 hs = some (o, hs')) : CT G l yX6_findHardest cX6_findHardest 6 (some (.object "Termgrid$Lesson")) 11 405 0 0 [.ref a0, .int p1] hs o hs' tvR := by
  refine vx_ofW (cc := cX6_findHardest) (maxL := 6) (ret := (some (.object "Termgrid$Lesson"))) (by decide +kernel) rfl ?_
  intro p e s m args below meth c s₁ B hml hxt hv
  obtain ⟨hav, hR, hKn⟩ := hv
  subst hav
  have hts := atoms_spec (ws := .code yX6_findHardest cX6_findHardest 6 (some (.object "Termgrid$Lesson")) :: Tg) B.pre
  have C : Cx G l p s m _ c RX6 cX6_findHardest 6 := ⟨B.exec, B.bytes, hml, findClass_of_methodNamed B.named, fun w hw => hts w (List.mem_cons_of_mem _ hw), hKn, fun q hq => Nat.le_trans hR.2.2.1 hq⟩
  have C2 : Cy meth c (some (.object "Termgrid$Lesson")) := ⟨B.returns, B.notSynchronized, hxt⟩
  have key : WG G p l e { frames := 11, cells := 0, slots := 0, locals := 405 } s m ([.ref a0, .int p1] : List Value).toArray below meth c 6 0 0 (vx_MQ below (QcT G o hs' tvR) (XCT G o hs') ([.ref a0, .int p1] : List Value).toArray s 0 0 (gA G)) hs [(0, va_rf (some a0)), (1, .int p1)] [] 0 := by
    unfold f_X6_findHardest at h
    refine q_null C dX6_findHardest_0 ?_
    refine q_astore_n C (fun v1 => [(2, va_rf v1), (0, va_rf (some a0)), (1, .int p1)]) dX6_findHardest_1 (by decide) (fun _ => rfl) h (fun v1 h => ?_)
    refine q_iconst C (0 : Int32) dX6_findHardest_2 (by decide) ?_
    refine q_istore_n C (fun v2 => [(3, .int v2), (2, va_rf v1), (0, va_rf (some a0)), (1, .int p1)]) dX6_findHardest_3 (by decide) (fun _ => rfl) h (fun v2 h => ?_)
    refine q_iconst C (0 : Int32) dX6_findHardest_4 (by decide) ?_
    refine q_istore C (fun v3 => [(4, .int v3), (3, .int v2), (2, va_rf v1), (0, va_rf (some a0)), (1, .int p1)]) dX6_findHardest_5 (by decide) (fun _ => rfl) h (fun v3 h => ?_)
    refine WG.sub [3, 4, 2, 1, 0] rfl ?_
    refine w_L_X6_findHardest_7 C C2 _ _ _ ?_ _ _ _ _ _ h
    · intro v20 hs h
      refine q_aload_n C 0 dX6_findHardest_78 rfl ?_
      exact q_aret C C2 rfl (Or.inl ⟨_, rfl⟩) (Nat.le_of_ble_eq_true rfl) (Nat.le_of_ble_eq_true rfl) dX6_findHardest_79 h
  rw [lg_entry_eq]
  exact key _ _ _ hR va_S.rf ⟨lv_entry _ (n := 6) (Nat.le_of_ble_eq_true rfl), (c1_r (c1_i c1_n))⟩

theorem cd_X4_firstRoomAt : Cond.code yX4_firstRoomAt cX4_firstRoomAt 3 (some .int) ∈ Tg := Tg_of (i := 385) (by decide +kernel) (by decide +kernel)
theorem lk_X4_138 : LkN RX4 138 yX8_has "Termgrid" cX8_has 2 (some .boolean) 2 := ⟨by decide +kernel, cd_X8_has, iw_X8, by decide +kernel⟩
section M_X4_firstRoomAt
variable {p : Program} {l : Launch} {e : Env} {s : State} {m : MethodId} {args : Array Value} {below : List Frame} {meth : Method} {c : Code} {G : GG} {o : Except Nat Int32} {hs' : Hs}
def L_X4_firstRoomAt_2 (a0 : Option Nat) (a1 : Int32) (k_2_24 : Int32 → OO Int32) (k_2_32 : OO Int32) : Nat → Int32 → OO Int32
  | 0, _ => failO
  | n + 1, x2 =>
    gR a0 7 10 fun v2 =>
    alen v2 fun v3 =>
    (if v3 ≤ x2 then
    k_2_32
    else
    gR a0 7 10 fun v4 =>
    ldI 0 v4 x2 fun v5 =>
    call (f_X8_has v5 a1) (fun (v6 : Int32) =>
    (if v6 = 0 then
    lets (x2 + (1 : Int32)) fun (v7 : Int32) =>
    (L_X4_firstRoomAt_2 a0 a1 k_2_24 k_2_32 n) v7
    else
    k_2_24 x2)) nox)
set_option maxRecDepth 100000 in
set_option maxHeartbeats 4000000 in
theorem w_L_X4_firstRoomAt_2 (C : Cx G l p s m args c RX4 cX4_firstRoomAt 3) (C2 : Cy meth c (some .int)) (a0 : Option Nat) (a1 : Int32) (k_2_24 : Int32 → OO Int32) (k_2_32 : OO Int32) (hk_2_24 : ∀ (y2 : Int32) hs, k_2_24 y2 hs = some (o, hs') → WG G p l e { frames := 1, cells := 0, slots := 0, locals := 21 } s m args below meth c 3 0 0 (vx_MQ below (QcT G o hs' tvI) (XCT G o hs') args s 0 0 (gA G)) hs [(2, .int y2)] [] 24) (hk_2_32 : ∀ hs, k_2_32  hs = some (o, hs') → WG G p l e { frames := 1, cells := 0, slots := 0, locals := 21 } s m args below meth c 3 0 0 (vx_MQ below (QcT G o hs' tvI) (XCT G o hs') args s 0 0 (gA G)) hs [] [] 32) : ∀ (n : Nat) (x2 : Int32) (hs : Hs), L_X4_firstRoomAt_2 a0 a1 k_2_24 k_2_32 n x2 hs = some (o, hs') → WG G p l e { frames := 1, cells := 0, slots := 0, locals := 21 } s m args below meth c 3 0 0 (vx_MQ below (QcT G o hs' tvI) (XCT G o hs') args s 0 0 (gA G)) hs [(0, va_rf a0), (1, .int a1), (2, .int x2)] [] 2 := by
  intro n
  induction n with
  | zero =>
    intro x2 hs h
    rw [L_X4_firstRoomAt_2] at h
    exact absurd h failO_e
  | succ n hrec_2 =>
    intro x2 hs h
    rw [L_X4_firstRoomAt_2] at h
    refine q_iload_n C 2 dX4_firstRoomAt_2 rfl ?_
    refine q_aload_n C 0 dX4_firstRoomAt_3 rfl ?_
    refine q_gR C fl_X4_15 dX4_firstRoomAt_4 h (fun v2 h => ?_)
    refine q_alen C dX4_firstRoomAt_7 h (fun v3 h => ?_)
    refine q_icmp_ge C 32 dX4_firstRoomAt_8 (by decide) h (fun h => ?_) (fun h => ?_)
    · refine WG.sub [] rfl ?_
      exact hk_2_32 _ h
    · refine q_aload_n C 0 dX4_firstRoomAt_11 rfl ?_
      refine q_gR C fl_X4_15 dX4_firstRoomAt_12 h (fun v4 h => ?_)
      refine q_iload_n C 2 dX4_firstRoomAt_15 rfl ?_
      refine q_iald C dX4_firstRoomAt_16 h (fun v5 h => ?_)
      refine q_iload_n C 1 dX4_firstRoomAt_17 rfl ?_
      refine q_callSN C [.int v5, .int a1] [] (fun o2 hs1 hm => m_X8_has hm) lk_X4_138 sm_X8_has ⟨(Nat.le_of_ble_eq_true rfl), (Nat.le_of_ble_eq_true rfl)⟩ ⟨(Nat.le_of_ble_eq_true rfl), (Nat.le_of_ble_eq_true rfl)⟩ rfl rfl (by decide) dX4_firstRoomAt_18 h (fun v6 hs h => WG_st (st' := [.int v6]) rfl ?_)
      refine q_if_eq C 26 dX4_firstRoomAt_21 (by decide) h (fun h => ?_) (fun h => ?_)
      · refine q_iinc C 2 (1 : Int32) (fun v7 => [(2, .int v7), (0, va_rf a0), (1, .int a1)]) dX4_firstRoomAt_26 rfl (by decide) (by decide) (fun _ => rfl) h (fun v7 h => ?_)
        refine q_goto C 2 dX4_firstRoomAt_29 (by decide) ?_
        refine WG.sub [1, 2, 0] rfl ?_
        exact hrec_2 _ _ h
      · refine WG.sub [2] rfl ?_
        exact hk_2_24 _ _ h
end M_X4_firstRoomAt
def f_X4_firstRoomAt (a0 : Nat) (p1 : Int32) : OO Int32 :=
    lets (0 : Int32) fun (v1 : Int32) =>
    L_X4_firstRoomAt_2 (some a0) p1 (fun (v8 : Int32) => rtn v8) (rtn (-1 : Int32)) 100000 v1
set_option maxRecDepth 100000 in
set_option maxHeartbeats 4000000 in
theorem m_X4_firstRoomAt {G : GG} {l : Launch} {a0 : Nat} {p1 : Int32} {hs hs' : Hs} {o : Except Nat Int32} (h : f_X4_firstRoomAt a0 p1 hs = some (o, hs')) : CT G l yX4_firstRoomAt cX4_firstRoomAt 3 (some .int) 1 21 0 0 [.ref a0, .int p1] hs o hs' tvI := by
  refine vx_ofW (cc := cX4_firstRoomAt) (maxL := 3) (ret := (some .int)) (by decide +kernel) rfl ?_
  intro p e s m args below meth c s₁ B hml hxt hv
  obtain ⟨hav, hR, hKn⟩ := hv
  subst hav
  have hts := atoms_spec (ws := .code yX4_firstRoomAt cX4_firstRoomAt 3 (some .int) :: Tg) B.pre
  have C : Cx G l p s m _ c RX4 cX4_firstRoomAt 3 := ⟨B.exec, B.bytes, hml, findClass_of_methodNamed B.named, fun w hw => hts w (List.mem_cons_of_mem _ hw), hKn, fun q hq => Nat.le_trans hR.2.2.1 hq⟩
  have C2 : Cy meth c (some .int) := ⟨B.returns, B.notSynchronized, hxt⟩
  have key : WG G p l e { frames := 1, cells := 0, slots := 0, locals := 21 } s m ([.ref a0, .int p1] : List Value).toArray below meth c 3 0 0 (vx_MQ below (QcT G o hs' tvI) (XCT G o hs') ([.ref a0, .int p1] : List Value).toArray s 0 0 (gA G)) hs [(0, va_rf (some a0)), (1, .int p1)] [] 0 := by
    unfold f_X4_firstRoomAt at h
    refine q_iconst C (0 : Int32) dX4_firstRoomAt_0 (by decide) ?_
    refine q_istore_n C (fun v1 => [(2, .int v1), (0, va_rf (some a0)), (1, .int p1)]) dX4_firstRoomAt_1 (by decide) (fun _ => rfl) h (fun v1 h => ?_)
    refine WG.sub [1, 2, 0] rfl ?_
    refine w_L_X4_firstRoomAt_2 C C2 _ _ _ _ ?_ ?_ _ _ _ h
    · intro v8 hs h
      refine q_iload_n C 0 dX4_firstRoomAt_24 rfl ?_
      exact q_iret C C2 rfl (Nat.le_of_ble_eq_true rfl) (Nat.le_of_ble_eq_true rfl) dX4_firstRoomAt_25 h
    · intro  hs h
      refine q_iconst C (-1 : Int32) dX4_firstRoomAt_32 (by decide) ?_
      exact q_iret C C2 rfl (Nat.le_of_ble_eq_true rfl) (Nat.le_of_ble_eq_true rfl) dX4_firstRoomAt_33 h
  rw [lg_entry_eq]
  exact key _ _ _ hR va_S.rf ⟨lv_entry _ (n := 3) (Nat.le_of_ble_eq_true rfl), (c1_r (c1_i c1_n))⟩

theorem cd_X8_slotsOfDay : Cond.code yX8_slotsOfDay cX8_slotsOfDay 1 (some .int) ∈ Tg := Tg_of (i := 397) (by decide +kernel) (by decide +kernel)
section M_X8_slotsOfDay
variable {p : Program} {l : Launch} {e : Env} {s : State} {m : MethodId} {args : Array Value} {below : List Frame} {meth : Method} {c : Code} {G : GG} {o : Except Nat Int32} {hs' : Hs}
end M_X8_slotsOfDay
def f_X8_slotsOfDay (p0 : Int32) : OO Int32 :=
    rtn (((63 : Int32) <<< (((6 : Int32) * p0) &&& 31)))
set_option maxRecDepth 100000 in
set_option maxHeartbeats 4000000 in
theorem m_X8_slotsOfDay {G : GG} {l : Launch} {p0 : Int32} {hs hs' : Hs} {o : Except Nat Int32} (h : f_X8_slotsOfDay p0 hs = some (o, hs')) : CT G l yX8_slotsOfDay cX8_slotsOfDay 1 (some .int) 0 0 0 0 [.int p0] hs o hs' tvI := by
  refine vx_ofW (cc := cX8_slotsOfDay) (maxL := 1) (ret := (some .int)) (by decide +kernel) rfl ?_
  intro p e s m args below meth c s₁ B hml hxt hv
  obtain ⟨hav, hR, hKn⟩ := hv
  subst hav
  have hts := atoms_spec (ws := .code yX8_slotsOfDay cX8_slotsOfDay 1 (some .int) :: Tg) B.pre
  have C : Cx G l p s m _ c RX8 cX8_slotsOfDay 1 := ⟨B.exec, B.bytes, hml, findClass_of_methodNamed B.named, fun w hw => hts w (List.mem_cons_of_mem _ hw), hKn, fun q hq => Nat.le_trans hR.2.2.1 hq⟩
  have C2 : Cy meth c (some .int) := ⟨B.returns, B.notSynchronized, hxt⟩
  have key : WG G p l e { frames := 0, cells := 0, slots := 0, locals := 0 } s m ([.int p0] : List Value).toArray below meth c 1 0 0 (vx_MQ below (QcT G o hs' tvI) (XCT G o hs') ([.int p0] : List Value).toArray s 0 0 (gA G)) hs [(0, .int p0)] [] 0 := by
    unfold f_X8_slotsOfDay at h
    refine q_bipush C (63 : Int32) dX8_slotsOfDay_0 (by decide) ?_
    refine q_bipush C (6 : Int32) dX8_slotsOfDay_2 (by decide) ?_
    refine q_iload_n C 0 dX8_slotsOfDay_4 rfl ?_
    refine q_imul C dX8_slotsOfDay_5 ?_
    refine q_ishl C dX8_slotsOfDay_6 ?_
    exact q_iret C C2 rfl (Nat.le_of_ble_eq_true rfl) (Nat.le_of_ble_eq_true rfl) dX8_slotsOfDay_7 h
  rw [lg_entry_eq]
  exact key _ _ _ hR va_S.rf ⟨lv_entry _ (n := 1) (Nat.le_of_ble_eq_true rfl), (c1_i c1_n)⟩

theorem cd_X8_gapsAmong : Cond.code yX8_gapsAmong cX8_gapsAmong 3 (some .int) ∈ Tg := Tg_of (i := 400) (by decide +kernel) (by decide +kernel)
section M_X8_gapsAmong
variable {p : Program} {l : Launch} {e : Env} {s : State} {m : MethodId} {args : Array Value} {below : List Frame} {meth : Method} {c : Code} {G : GG} {o : Except Nat Int32} {hs' : Hs}
end M_X8_gapsAmong
def f_X8_gapsAmong (p0 : Int32) : OO Int32 :=
    lets (p0 ||| (p0 <<< ((1 : Int32) &&& 31))) fun (v1 : Int32) =>
    lets (v1 ||| (v1 <<< ((2 : Int32) &&& 31))) fun (v2 : Int32) =>
    lets (v2 ||| (v2 <<< ((4 : Int32) &&& 31))) fun (v3 : Int32) =>
    lets (p0 ||| (ushr p0 (1 : Int32))) fun (v4 : Int32) =>
    lets (v4 ||| (ushr v4 (2 : Int32))) fun (v5 : Int32) =>
    lets (v5 ||| (ushr v5 (4 : Int32))) fun (v6 : Int32) =>
    rtn (((v3 &&& v6) &&& (p0 ^^^ (-1 : Int32))))
set_option maxRecDepth 100000 in
set_option maxHeartbeats 4000000 in
theorem m_X8_gapsAmong {G : GG} {l : Launch} {p0 : Int32} {hs hs' : Hs} {o : Except Nat Int32} (h : f_X8_gapsAmong p0 hs = some (o, hs')) : CT G l yX8_gapsAmong cX8_gapsAmong 3 (some .int) 0 0 0 0 [.int p0] hs o hs' tvI := by
  refine vx_ofW (cc := cX8_gapsAmong) (maxL := 3) (ret := (some .int)) (by decide +kernel) rfl ?_
  intro p e s m args below meth c s₁ B hml hxt hv
  obtain ⟨hav, hR, hKn⟩ := hv
  subst hav
  have hts := atoms_spec (ws := .code yX8_gapsAmong cX8_gapsAmong 3 (some .int) :: Tg) B.pre
  have C : Cx G l p s m _ c RX8 cX8_gapsAmong 3 := ⟨B.exec, B.bytes, hml, findClass_of_methodNamed B.named, fun w hw => hts w (List.mem_cons_of_mem _ hw), hKn, fun q hq => Nat.le_trans hR.2.2.1 hq⟩
  have C2 : Cy meth c (some .int) := ⟨B.returns, B.notSynchronized, hxt⟩
  have key : WG G p l e { frames := 0, cells := 0, slots := 0, locals := 0 } s m ([.int p0] : List Value).toArray below meth c 3 0 0 (vx_MQ below (QcT G o hs' tvI) (XCT G o hs') ([.int p0] : List Value).toArray s 0 0 (gA G)) hs [(0, .int p0)] [] 0 := by
    unfold f_X8_gapsAmong at h
    refine q_iload_n C 0 dX8_gapsAmong_0 rfl ?_
    refine q_iload_n C 0 dX8_gapsAmong_1 rfl ?_
    refine q_iconst C (1 : Int32) dX8_gapsAmong_2 (by decide) ?_
    refine q_ishl C dX8_gapsAmong_3 ?_
    refine q_ior C dX8_gapsAmong_4 ?_
    refine q_istore_n C (fun v1 => [(1, .int v1), (0, .int p0)]) dX8_gapsAmong_5 (by decide) (fun _ => rfl) h (fun v1 h => ?_)
    refine q_iload_n C 0 dX8_gapsAmong_6 rfl ?_
    refine q_iload_n C 0 dX8_gapsAmong_7 rfl ?_
    refine q_iconst C (2 : Int32) dX8_gapsAmong_8 (by decide) ?_
    refine q_ishl C dX8_gapsAmong_9 ?_
    refine q_ior C dX8_gapsAmong_10 ?_
    refine q_istore_n C (fun v2 => [(1, .int v2), (0, .int p0)]) dX8_gapsAmong_11 (by decide) (fun _ => rfl) h (fun v2 h => ?_)
    refine q_iload_n C 0 dX8_gapsAmong_12 rfl ?_
    refine q_iload_n C 0 dX8_gapsAmong_13 rfl ?_
    refine q_iconst C (4 : Int32) dX8_gapsAmong_14 (by decide) ?_
    refine q_ishl C dX8_gapsAmong_15 ?_
    refine q_ior C dX8_gapsAmong_16 ?_
    refine q_istore_n C (fun v3 => [(1, .int v3), (0, .int p0)]) dX8_gapsAmong_17 (by decide) (fun _ => rfl) h (fun v3 h => ?_)
    refine q_iload_n C 1 dX8_gapsAmong_18 rfl ?_
    refine q_iload_n C 1 dX8_gapsAmong_19 rfl ?_
    refine q_iconst C (1 : Int32) dX8_gapsAmong_20 (by decide) ?_
    refine q_iushr C dX8_gapsAmong_21 ?_
    refine q_ior C dX8_gapsAmong_22 ?_
    refine q_istore_n C (fun v4 => [(2, .int v4), (1, .int v3), (0, .int p0)]) dX8_gapsAmong_23 (by decide) (fun _ => rfl) h (fun v4 h => ?_)
    refine q_iload_n C 0 dX8_gapsAmong_24 rfl ?_
    refine q_iload_n C 0 dX8_gapsAmong_25 rfl ?_
    refine q_iconst C (2 : Int32) dX8_gapsAmong_26 (by decide) ?_
    refine q_iushr C dX8_gapsAmong_27 ?_
    refine q_ior C dX8_gapsAmong_28 ?_
    refine q_istore_n C (fun v5 => [(2, .int v5), (1, .int v3), (0, .int p0)]) dX8_gapsAmong_29 (by decide) (fun _ => rfl) h (fun v5 h => ?_)
    refine q_iload_n C 0 dX8_gapsAmong_30 rfl ?_
    refine q_iload_n C 0 dX8_gapsAmong_31 rfl ?_
    refine q_iconst C (4 : Int32) dX8_gapsAmong_32 (by decide) ?_
    refine q_iushr C dX8_gapsAmong_33 ?_
    refine q_ior C dX8_gapsAmong_34 ?_
    refine q_istore_n C (fun v6 => [(2, .int v6), (1, .int v3), (0, .int p0)]) dX8_gapsAmong_35 (by decide) (fun _ => rfl) h (fun v6 h => ?_)
    refine q_iload_n C 1 dX8_gapsAmong_36 rfl ?_
    refine q_iload_n C 0 dX8_gapsAmong_37 rfl ?_
    refine q_iand C dX8_gapsAmong_38 ?_
    refine q_iload_n C 2 dX8_gapsAmong_39 rfl ?_
    refine q_iconst C (-1 : Int32) dX8_gapsAmong_40 (by decide) ?_
    refine q_ixor C dX8_gapsAmong_41 ?_
    refine q_iand C dX8_gapsAmong_42 ?_
    exact q_iret C C2 rfl (Nat.le_of_ble_eq_true rfl) (Nat.le_of_ble_eq_true rfl) dX8_gapsAmong_43 h
  rw [lg_entry_eq]
  exact key _ _ _ hR va_S.rf ⟨lv_entry _ (n := 3) (Nat.le_of_ble_eq_true rfl), (c1_i c1_n)⟩

theorem cd_X4_wishesIn : Cond.code yX4_wishesIn cX4_wishesIn 5 (some .int) ∈ Tg := Tg_of (i := 405) (by decide +kernel) (by decide +kernel)
theorem wf_X4_168 : Cond.fieldLink RX4 168 RX7 (TX7 0).2.1 (TX7 0).2.2.1 ∈ Tg := Tg_of (i := 791) (by decide +kernel) (by decide +kernel)
theorem fl_X4_168 : Fld RX4 168 10 0 (.array .int) := ⟨RX7, TX7, 3, RX7, rfl, by decide, wf_X4_168, (Or.inl rfl), gu_X7, tyX7_ok _ (by decide), ⟨tyX7, tyX7_ok⟩, nmX7⟩
section M_X4_wishesIn
variable {p : Program} {l : Launch} {e : Env} {s : State} {m : MethodId} {args : Array Value} {below : List Frame} {meth : Method} {c : Code} {G : GG} {o : Except Nat Int32} {hs' : Hs}
def j_X4_wishesIn_45 (a0 : Option Nat) (a3 : Int32) (a4 : Int32) (s0 : Int32) (s1 : Int32) (rec_7 : Int32 → Int32 → Int32 → OO Int32) : OO Int32 :=
  lets (s1 + s0) fun (v7 : Int32) =>
    lets (ushr a3 (1 : Int32)) fun (v8 : Int32) =>
    lets (a4 + (1 : Int32)) fun (v9 : Int32) =>
    rec_7 v7 v8 v9
set_option maxRecDepth 100000 in
set_option maxHeartbeats 4000000 in
theorem w_j_X4_wishesIn_45 (C : Cx G l p s m args c RX4 cX4_wishesIn 5) (C2 : Cy meth c (some .int)) {hs : Hs} (a0 : Option Nat) (a3 : Int32) (a4 : Int32) (s0 : Int32) (s1 : Int32) (rec_7 : Int32 → Int32 → Int32 → OO Int32) (hrec_7 : ∀ (y2 : Int32) (y3 : Int32) (y4 : Int32) hs, rec_7 y2 y3 y4 hs = some (o, hs') → WG G p l e { frames := 0, cells := 0, slots := 0, locals := 0 } s m args below meth c 5 0 0 (vx_MQ below (QcT G o hs' tvI) (XCT G o hs') args s 0 0 (gA G)) hs [(0, va_rf a0), (2, .int y2), (3, .int y3), (4, .int y4)] [] 7) (h : j_X4_wishesIn_45 a0 a3 a4 s0 s1 rec_7 hs = some (o, hs')) : WG G p l e { frames := 0, cells := 0, slots := 0, locals := 0 } s m args below meth c 5 0 0 (vx_MQ below (QcT G o hs' tvI) (XCT G o hs') args s 0 0 (gA G)) hs [(0, va_rf a0), (3, .int a3), (4, .int a4)] [.int s0, .int s1] 45 := by
  unfold j_X4_wishesIn_45 at h
  refine q_iadd C dX4_wishesIn_45 ?_
  refine q_istore_n C (fun v7 => [(2, .int v7), (0, va_rf a0), (3, .int a3), (4, .int a4)]) dX4_wishesIn_46 (by decide) (fun _ => rfl) h (fun v7 h => ?_)
  refine q_iload_n C 2 dX4_wishesIn_47 rfl ?_
  refine q_iconst C (1 : Int32) dX4_wishesIn_48 (by decide) ?_
  refine q_iushr C dX4_wishesIn_49 ?_
  refine q_istore_n C (fun v8 => [(3, .int v8), (2, .int v7), (0, va_rf a0), (4, .int a4)]) dX4_wishesIn_50 (by decide) (fun _ => rfl) h (fun v8 h => ?_)
  refine q_iinc C 3 (1 : Int32) (fun v9 => [(4, .int v9), (3, .int v8), (2, .int v7), (0, va_rf a0)]) dX4_wishesIn_51 rfl (by decide) (by decide) (fun _ => rfl) h (fun v9 h => ?_)
  refine q_goto C 7 dX4_wishesIn_54 (by decide) ?_
  refine WG.sub [3, 2, 1, 0] rfl ?_
  exact hrec_7 _ _ _ _ h
def L_X4_wishesIn_7 (a0 : Option Nat) (k_7_57 : Int32 → OO Int32) : Nat → Int32 → Int32 → Int32 → OO Int32
  | 0, _, _, _ => failO
  | n + 1, x2, x3, x4 =>
    gR a0 7 2 fun v4 =>
    gR v4 10 0 fun v5 =>
    alen v5 fun v6 =>
    (if v6 ≤ x4 then
    k_7_57 x2
    else
    (if x3 = 0 then
    k_7_57 x2
    else
    (if (x3 &&& (1 : Int32)) = 0 then
    j_X4_wishesIn_45 a0 x3 x4 (0 : Int32) x2 (L_X4_wishesIn_7 a0 k_7_57 n)
    else
    gR a0 7 2 fun v10 =>
    gR v10 10 0 fun v11 =>
    ldI 0 v11 x4 fun v12 =>
    j_X4_wishesIn_45 a0 x3 x4 v12 x2 (L_X4_wishesIn_7 a0 k_7_57 n))))
set_option maxRecDepth 100000 in
set_option maxHeartbeats 4000000 in
theorem w_L_X4_wishesIn_7 (C : Cx G l p s m args c RX4 cX4_wishesIn 5) (C2 : Cy meth c (some .int)) (a0 : Option Nat) (k_7_57 : Int32 → OO Int32) (hk_7_57 : ∀ (y2 : Int32) hs, k_7_57 y2 hs = some (o, hs') → WG G p l e { frames := 0, cells := 0, slots := 0, locals := 0 } s m args below meth c 5 0 0 (vx_MQ below (QcT G o hs' tvI) (XCT G o hs') args s 0 0 (gA G)) hs [(2, .int y2)] [] 57) : ∀ (n : Nat) (x2 : Int32) (x3 : Int32) (x4 : Int32) (hs : Hs), L_X4_wishesIn_7 a0 k_7_57 n x2 x3 x4 hs = some (o, hs') → WG G p l e { frames := 0, cells := 0, slots := 0, locals := 0 } s m args below meth c 5 0 0 (vx_MQ below (QcT G o hs' tvI) (XCT G o hs') args s 0 0 (gA G)) hs [(0, va_rf a0), (2, .int x2), (3, .int x3), (4, .int x4)] [] 7 := by
  intro n
  induction n with
  | zero =>
    intro x2 x3 x4 hs h
    rw [L_X4_wishesIn_7] at h
    exact absurd h failO_e
  | succ n hrec_7 =>
    intro x2 x3 x4 hs h
    rw [L_X4_wishesIn_7] at h
    refine q_iload C 3 dX4_wishesIn_7 rfl ?_
    refine q_aload_n C 0 dX4_wishesIn_9 rfl ?_
    refine q_gR C fl_X4_35 dX4_wishesIn_10 h (fun v4 h => ?_)
    refine q_gR C fl_X4_168 dX4_wishesIn_13 h (fun v5 h => ?_)
    refine q_alen C dX4_wishesIn_16 h (fun v6 h => ?_)
    refine q_icmp_ge C 57 dX4_wishesIn_17 (by decide) h (fun h => ?_) (fun h => ?_)
    · refine WG.sub [1] rfl ?_
      exact hk_7_57 _ _ h
    · refine q_iload_n C 2 dX4_wishesIn_20 rfl ?_
      refine q_if_eq C 57 dX4_wishesIn_21 (by decide) h (fun h => ?_) (fun h => ?_)
      · refine WG.sub [1] rfl ?_
        exact hk_7_57 _ _ h
      · refine q_iload_n C 1 dX4_wishesIn_24 rfl ?_
        refine q_iload_n C 2 dX4_wishesIn_25 rfl ?_
        refine q_iconst C (1 : Int32) dX4_wishesIn_26 (by decide) ?_
        refine q_iand C dX4_wishesIn_27 ?_
        refine q_if_eq C 44 dX4_wishesIn_28 (by decide) h (fun h => ?_) (fun h => ?_)
        · refine q_iconst C (0 : Int32) dX4_wishesIn_44 (by decide) ?_
          refine WG.sub [0, 2, 3] rfl ?_
          exact w_j_X4_wishesIn_45 C C2 _ _ _ _ _ _ hrec_7 h
        · refine q_aload_n C 0 dX4_wishesIn_31 rfl ?_
          refine q_gR C fl_X4_35 dX4_wishesIn_32 h (fun v10 h => ?_)
          refine q_gR C fl_X4_168 dX4_wishesIn_35 h (fun v11 h => ?_)
          refine q_iload C 3 dX4_wishesIn_38 rfl ?_
          refine q_iald C dX4_wishesIn_40 h (fun v12 h => ?_)
          refine q_goto C 45 dX4_wishesIn_41 (by decide) ?_
          refine WG.sub [0, 2, 3] rfl ?_
          exact w_j_X4_wishesIn_45 C C2 _ _ _ _ _ _ hrec_7 h
end M_X4_wishesIn
def f_X4_wishesIn (a0 : Nat) (p1 : Int32) : OO Int32 :=
    lets (0 : Int32) fun (v1 : Int32) =>
    lets p1 fun (v2 : Int32) =>
    lets (0 : Int32) fun (v3 : Int32) =>
    L_X4_wishesIn_7 (some a0) (fun (v13 : Int32) => rtn v13) 100000 v1 v2 v3
set_option maxRecDepth 100000 in
set_option maxHeartbeats 4000000 in
theorem m_X4_wishesIn {G : GG} {l : Launch} {a0 : Nat} {p1 : Int32} {hs hs' : Hs} {o : Except Nat Int32} (h : f_X4_wishesIn a0 p1 hs = some (o, hs')) : CT G l yX4_wishesIn cX4_wishesIn 5 (some .int) 0 0 0 0 [.ref a0, .int p1] hs o hs' tvI := by
  refine vx_ofW (cc := cX4_wishesIn) (maxL := 5) (ret := (some .int)) (by decide +kernel) rfl ?_
  intro p e s m args below meth c s₁ B hml hxt hv
  obtain ⟨hav, hR, hKn⟩ := hv
  subst hav
  have hts := atoms_spec (ws := .code yX4_wishesIn cX4_wishesIn 5 (some .int) :: Tg) B.pre
  have C : Cx G l p s m _ c RX4 cX4_wishesIn 5 := ⟨B.exec, B.bytes, hml, findClass_of_methodNamed B.named, fun w hw => hts w (List.mem_cons_of_mem _ hw), hKn, fun q hq => Nat.le_trans hR.2.2.1 hq⟩
  have C2 : Cy meth c (some .int) := ⟨B.returns, B.notSynchronized, hxt⟩
  have key : WG G p l e { frames := 0, cells := 0, slots := 0, locals := 0 } s m ([.ref a0, .int p1] : List Value).toArray below meth c 5 0 0 (vx_MQ below (QcT G o hs' tvI) (XCT G o hs') ([.ref a0, .int p1] : List Value).toArray s 0 0 (gA G)) hs [(0, va_rf (some a0)), (1, .int p1)] [] 0 := by
    unfold f_X4_wishesIn at h
    refine q_iconst C (0 : Int32) dX4_wishesIn_0 (by decide) ?_
    refine q_istore_n C (fun v1 => [(2, .int v1), (0, va_rf (some a0)), (1, .int p1)]) dX4_wishesIn_1 (by decide) (fun _ => rfl) h (fun v1 h => ?_)
    refine q_iload_n C 2 dX4_wishesIn_2 rfl ?_
    refine q_istore_n C (fun v2 => [(3, .int v2), (2, .int v1), (0, va_rf (some a0)), (1, .int p1)]) dX4_wishesIn_3 (by decide) (fun _ => rfl) h (fun v2 h => ?_)
    refine q_iconst C (0 : Int32) dX4_wishesIn_4 (by decide) ?_
    refine q_istore C (fun v3 => [(4, .int v3), (3, .int v2), (2, .int v1), (0, va_rf (some a0)), (1, .int p1)]) dX4_wishesIn_5 (by decide) (fun _ => rfl) h (fun v3 h => ?_)
    refine WG.sub [3, 2, 1, 0] rfl ?_
    refine w_L_X4_wishesIn_7 C C2 _ _ ?_ _ _ _ _ _ h
    · intro v13 hs h
      refine q_iload_n C 0 dX4_wishesIn_57 rfl ?_
      exact q_iret C C2 rfl (Nat.le_of_ble_eq_true rfl) (Nat.le_of_ble_eq_true rfl) dX4_wishesIn_58 h
  rw [lg_entry_eq]
  exact key _ _ _ hR va_S.rf ⟨lv_entry _ (n := 5) (Nat.le_of_ble_eq_true rfl), (c1_r (c1_i c1_n))⟩

theorem cd_X4_addedTo : Cond.code yX4_addedTo cX4_addedTo 5 (some .int) ∈ Tg := Tg_of (i := 394) (by decide +kernel) (by decide +kernel)
theorem ml_X4_165 : Cond.methodLink RX4 165 yX4_wishesIn ∈ Tg := Tg_of (i := 402) (by decide +kernel) (by decide +kernel)
theorem lk_X4_165 : Lk RX4 165 yX4_wishesIn cX4_wishesIn 5 (some .int) 1 := ⟨ml_X4_165, cd_X4_wishesIn, iw_X4, by decide +kernel⟩
theorem im_X4_wishesIn : Cond.instanceMethod yX4_wishesIn ∈ Tg := Tg_of (i := 404) (by decide +kernel) (by decide +kernel)
theorem se_X4_X4_wishesIn : Cond.selects RX4 yX4_wishesIn yX4_wishesIn ∈ Tg := Tg_of (i := 5) (by decide +kernel) (by decide +kernel)
theorem kc_X4_48 : Cond.constant RX4 48 (545392672) ∈ Tg := Tg_of (i := 401) (by decide +kernel) (by decide +kernel)
theorem wf_X4_162 : Cond.fieldLink RX4 162 RX7 (TX7 2).2.1 (TX7 2).2.2.1 ∈ Tg := Tg_of (i := 796) (by decide +kernel) (by decide +kernel)
theorem fl_X4_162 : Fld RX4 162 10 2 .int := ⟨RX7, TX7, 3, RX7, rfl, by decide, wf_X4_162, (Or.inl rfl), gu_X7, tyX7_ok _ (by decide), ⟨tyX7, tyX7_ok⟩, nmX7⟩
theorem lk_X4_156 : LkN RX4 156 yX8_slotsOfDay "Termgrid" cX8_slotsOfDay 1 (some .int) 1 := ⟨by decide +kernel, cd_X8_slotsOfDay, iw_X8, by decide +kernel⟩
theorem lk_X4_159 : LkN RX4 159 yX8_gapsAmong "Termgrid" cX8_gapsAmong 3 (some .int) 1 := ⟨by decide +kernel, cd_X8_gapsAmong, iw_X8, by decide +kernel⟩
theorem sm_X8_gapsAmong : Cond.static yX8_gapsAmong ∈ Tg := Tg_of (i := 399) (by decide +kernel) (by decide +kernel)
theorem sm_X8_slotsOfDay : Cond.static yX8_slotsOfDay ∈ Tg := Tg_of (i := 396) (by decide +kernel) (by decide +kernel)
section M_X4_addedTo
variable {p : Program} {l : Launch} {e : Env} {s : State} {m : MethodId} {args : Array Value} {below : List Frame} {meth : Method} {c : Code} {G : GG} {o : Except Nat Int32} {hs' : Hs}
end M_X4_addedTo
def f_X4_addedTo (a0 : Nat) (p1 : Int32) (p2 : Int32) : OO Int32 :=
    rcv (some a0) 7 fun r16 => call (f_X4_hoursFrom r16 p2) (fun (v1 : Int32) =>
    lets v1 fun (v2 : Int32) =>
    (if p1 = (0 : Int32) then
    gI (some a0) 7 16 fun v9 =>
    dvz (6 : Int32) (
    call (f_X8_slotsOfDay (p2 / (6 : Int32))) (fun (v10 : Int32) =>
    lets (v9 &&& v10) fun (v11 : Int32) =>
    call (f_X8_gapsAmong (v11 ||| v2)) (fun (v12 : Int32) =>
    call (f_J6_bitCount_0f7a4 v12) (fun (v13 : Int32) =>
    call (f_X8_gapsAmong v11) (fun (v14 : Int32) =>
    call (f_J6_bitCount_0f7a4 v14) (fun (v15 : Int32) =>
    rtn (v13 - v15)) nox) nox) nox) nox) nox)
    else
    (if p1 = (1 : Int32) then
    (if (v2 &&& (545392672 : Int32)) = 0 then
    rtn (0 : Int32)
    else
    gR (some a0) 7 2 fun v7 =>
    gI v7 10 2 fun v8 =>
    rtn ((1 : Int32) + v8))
    else
    (if p1 = (2 : Int32) then
    rcv (some a0) 7 fun r6 => call (f_X4_wishesIn r6 v2) (fun (v5 : Int32) =>
    rtn v5) nox
    else
    (if p1 = (3 : Int32) then
    gR (some a0) 7 17 fun v3 =>
    dvz (6 : Int32) (
    call (f_X8_at v3 (p2 / (6 : Int32))) (fun (v4 : Int32) =>
    rtn v4) nox)
    else
    rtn (0 : Int32)))))) nox
set_option maxRecDepth 100000 in
set_option maxHeartbeats 4000000 in
theorem m_X4_addedTo {G : GG} {l : Launch} {a0 : Nat} {p1 : Int32} {p2 : Int32} {hs hs' : Hs} {o : Except Nat Int32} (h : f_X4_addedTo a0 p1 p2 hs = some (o, hs')) : CT G l yX4_addedTo cX4_addedTo 5 (some .int) 1 24 0 0 [.ref a0, .int p1, .int p2] hs o hs' tvI := by
  refine vx_ofW (cc := cX4_addedTo) (maxL := 5) (ret := (some .int)) (by decide +kernel) rfl ?_
  intro p e s m args below meth c s₁ B hml hxt hv
  obtain ⟨hav, hR, hKn⟩ := hv
  subst hav
  have hts := atoms_spec (ws := .code yX4_addedTo cX4_addedTo 5 (some .int) :: Tg) B.pre
  have C : Cx G l p s m _ c RX4 cX4_addedTo 5 := ⟨B.exec, B.bytes, hml, findClass_of_methodNamed B.named, fun w hw => hts w (List.mem_cons_of_mem _ hw), hKn, fun q hq => Nat.le_trans hR.2.2.1 hq⟩
  have C2 : Cy meth c (some .int) := ⟨B.returns, B.notSynchronized, hxt⟩
  have key : WG G p l e { frames := 1, cells := 0, slots := 0, locals := 24 } s m ([.ref a0, .int p1, .int p2] : List Value).toArray below meth c 5 0 0 (vx_MQ below (QcT G o hs' tvI) (XCT G o hs') ([.ref a0, .int p1, .int p2] : List Value).toArray s 0 0 (gA G)) hs [(0, va_rf (some a0)), (1, .int p1), (2, .int p2)] [] 0 := by
    unfold f_X4_addedTo at h
    refine q_aload_n C 0 dX4_addedTo_0 rfl ?_
    refine q_iload_n C 2 dX4_addedTo_1 rfl ?_
    refine q_callV C (CN := RX4) (T := TX4) (N := 18) [.int p2] [] (fun a0 o2 hs1 hm => m_X4_hoursFrom hm) lk_X4_63 im_X4_hoursFrom se_X4_X4_hoursFrom rfl ⟨(Nat.le_of_ble_eq_true rfl), (Nat.le_of_ble_eq_true rfl)⟩ ⟨(Nat.le_of_ble_eq_true rfl), (Nat.le_of_ble_eq_true rfl)⟩ rfl rfl (by decide) dX4_addedTo_2 h (fun v1 hs h => WG_st (st' := [.int v1]) rfl ?_)
    refine q_istore_n C (fun v2 => [(3, .int v2), (0, va_rf (some a0)), (1, .int p1), (2, .int p2)]) dX4_addedTo_5 (by decide) (fun _ => rfl) h (fun v2 h => ?_)
    refine q_iload_n C 2 dX4_addedTo_6 rfl ?_
    refine q_case h (fun c0 h => ?_) (fun c0 h => ?_)
    · refine q_tswI C (off := 29) 36 dX4_addedTo_7 c0 (by decide) (by decide) (by decide) (by decide) ?_
      refine q_aload_n C 1 dX4_addedTo_36 rfl ?_
      refine q_gI C fl_X4_82 dX4_addedTo_37 h (fun v9 h => ?_)
      refine q_iload_n C 3 dX4_addedTo_40 rfl ?_
      refine q_bipush C (6 : Int32) dX4_addedTo_41 (by decide) ?_
      refine q_idiv C dX4_addedTo_43 h (fun h => ?_)
      refine q_callSN C [.int (p2 / (6 : Int32))] [.int v9] (fun o2 hs1 hm => m_X8_slotsOfDay hm) lk_X4_156 sm_X8_slotsOfDay ⟨(Nat.le_of_ble_eq_true rfl), (Nat.le_of_ble_eq_true rfl)⟩ ⟨(Nat.le_of_ble_eq_true rfl), (Nat.le_of_ble_eq_true rfl)⟩ rfl rfl (by simp only [List.map, cat_rf, cat_i, cat_a]; decide) dX4_addedTo_44 h (fun v10 hs h => WG_st (st' := [.int v10, .int v9]) rfl ?_)
      refine q_iand C dX4_addedTo_47 ?_
      refine q_istore C (fun v11 => [(4, .int v11), (3, .int v2), (0, va_rf (some a0)), (1, .int p1), (2, .int p2)]) dX4_addedTo_48 (by decide) (fun _ => rfl) h (fun v11 h => ?_)
      refine q_iload C 0 dX4_addedTo_50 rfl ?_
      refine q_iload_n C 1 dX4_addedTo_52 rfl ?_
      refine q_ior C dX4_addedTo_53 ?_
      refine q_callSN C [.int (v11 ||| v2)] [] (fun o2 hs1 hm => m_X8_gapsAmong hm) lk_X4_159 sm_X8_gapsAmong ⟨(Nat.le_of_ble_eq_true rfl), (Nat.le_of_ble_eq_true rfl)⟩ ⟨(Nat.le_of_ble_eq_true rfl), (Nat.le_of_ble_eq_true rfl)⟩ rfl rfl (by decide) dX4_addedTo_54 h (fun v12 hs h => WG_st (st' := [.int v12]) rfl ?_)
      refine q_callS C [.int v12] [] (fun o2 hs1 hm => m_J6_bitCount_0f7a4 hm) lk_X4_151 sm_J6_bitCount_0f7a4 ⟨(Nat.le_of_ble_eq_true rfl), (Nat.le_of_ble_eq_true rfl)⟩ ⟨(Nat.le_of_ble_eq_true rfl), (Nat.le_of_ble_eq_true rfl)⟩ rfl rfl (by decide) dX4_addedTo_57 h (fun v13 hs h => WG_st (st' := [.int v13]) rfl ?_)
      refine q_iload C 0 dX4_addedTo_60 rfl ?_
      refine q_callSN C [.int v11] [.int v13] (fun o2 hs1 hm => m_X8_gapsAmong hm) lk_X4_159 sm_X8_gapsAmong ⟨(Nat.le_of_ble_eq_true rfl), (Nat.le_of_ble_eq_true rfl)⟩ ⟨(Nat.le_of_ble_eq_true rfl), (Nat.le_of_ble_eq_true rfl)⟩ rfl rfl (by simp only [List.map, cat_rf, cat_i, cat_a]; decide) dX4_addedTo_62 h (fun v14 hs h => WG_st (st' := [.int v14, .int v13]) rfl ?_)
      refine q_callS C [.int v14] [.int v13] (fun o2 hs1 hm => m_J6_bitCount_0f7a4 hm) lk_X4_151 sm_J6_bitCount_0f7a4 ⟨(Nat.le_of_ble_eq_true rfl), (Nat.le_of_ble_eq_true rfl)⟩ ⟨(Nat.le_of_ble_eq_true rfl), (Nat.le_of_ble_eq_true rfl)⟩ rfl rfl (by simp only [List.map, cat_rf, cat_i, cat_a]; decide) dX4_addedTo_65 h (fun v15 hs h => WG_st (st' := [.int v15, .int v13]) rfl ?_)
      refine q_isub C dX4_addedTo_68 ?_
      exact q_iret C C2 rfl (Nat.le_of_ble_eq_true rfl) (Nat.le_of_ble_eq_true rfl) dX4_addedTo_69 h
    · refine q_case h (fun c1 h => ?_) (fun c1 h => ?_)
      · refine q_tswI C (off := 63) 70 dX4_addedTo_7 c1 (by decide) (by decide) (by decide) (by decide) ?_
        refine q_iload_n C 0 dX4_addedTo_70 rfl ?_
        refine q_ldc C kc_X4_48 dX4_addedTo_71 ?_
        refine q_iand C dX4_addedTo_73 ?_
        refine q_if_eq C 89 dX4_addedTo_74 (by decide) h (fun h => ?_) (fun h => ?_)
        · refine q_iconst C (0 : Int32) dX4_addedTo_89 (by decide) ?_
          exact q_iret C C2 rfl (Nat.le_of_ble_eq_true rfl) (Nat.le_of_ble_eq_true rfl) dX4_addedTo_90 h
        · refine q_iconst C (1 : Int32) dX4_addedTo_77 (by decide) ?_
          refine q_aload_n C 1 dX4_addedTo_78 rfl ?_
          refine q_gR C fl_X4_35 dX4_addedTo_79 h (fun v7 h => ?_)
          refine q_gI C fl_X4_162 dX4_addedTo_82 h (fun v8 h => ?_)
          refine q_iadd C dX4_addedTo_85 ?_
          refine q_goto C 90 dX4_addedTo_86 (by decide) ?_
          exact q_iret C C2 rfl (Nat.le_of_ble_eq_true rfl) (Nat.le_of_ble_eq_true rfl) dX4_addedTo_90 h
      · refine q_case h (fun c2 h => ?_) (fun c2 h => ?_)
        · refine q_tswI C (off := 84) 91 dX4_addedTo_7 c2 (by decide) (by decide) (by decide) (by decide) ?_
          refine q_aload_n C 1 dX4_addedTo_91 rfl ?_
          refine q_iload_n C 0 dX4_addedTo_92 rfl ?_
          refine q_callV C (CN := RX4) (T := TX4) (N := 18) [.int v2] [] (fun a0 o2 hs1 hm => m_X4_wishesIn hm) lk_X4_165 im_X4_wishesIn se_X4_X4_wishesIn rfl ⟨(Nat.le_of_ble_eq_true rfl), (Nat.le_of_ble_eq_true rfl)⟩ ⟨(Nat.le_of_ble_eq_true rfl), (Nat.le_of_ble_eq_true rfl)⟩ rfl rfl (by decide) dX4_addedTo_93 h (fun v5 hs h => WG_st (st' := [.int v5]) rfl ?_)
          exact q_iret C C2 rfl (Nat.le_of_ble_eq_true rfl) (Nat.le_of_ble_eq_true rfl) dX4_addedTo_96 h
        · refine q_case h (fun c3 h => ?_) (fun c3 h => ?_)
          · refine q_tswI C (off := 90) 97 dX4_addedTo_7 c3 (by decide) (by decide) (by decide) (by decide) ?_
            refine q_aload_n C 1 dX4_addedTo_97 rfl ?_
            refine q_gR C fl_X4_25 dX4_addedTo_98 h (fun v3 h => ?_)
            refine q_iload_n C 3 dX4_addedTo_101 rfl ?_
            refine q_bipush C (6 : Int32) dX4_addedTo_102 (by decide) ?_
            refine q_idiv C dX4_addedTo_104 h (fun h => ?_)
            refine q_callSN C [va_rf v3, .int (p2 / (6 : Int32))] [] (fun o2 hs1 hm => m_X8_at hm) lk_X4_123 sm_X8_at ⟨(Nat.le_of_ble_eq_true rfl), (Nat.le_of_ble_eq_true rfl)⟩ ⟨(Nat.le_of_ble_eq_true rfl), (Nat.le_of_ble_eq_true rfl)⟩ rfl rfl (by decide) dX4_addedTo_105 h (fun v4 hs h => WG_st (st' := [.int v4]) rfl ?_)
            exact q_iret C C2 rfl (Nat.le_of_ble_eq_true rfl) (Nat.le_of_ble_eq_true rfl) dX4_addedTo_108 h
          · refine q_tswO C 109 dX4_addedTo_7 (by have z0 := tsw_ne (k := 0) (by decide) c0; have z1 := tsw_ne (k := 1) (by decide) c1; have z2 := tsw_ne (k := 2) (by decide) c2; have z3 := tsw_ne (k := 3) (by decide) c3; omega) (by decide) ?_
            refine q_iconst C (0 : Int32) dX4_addedTo_109 (by decide) ?_
            exact q_iret C C2 rfl (Nat.le_of_ble_eq_true rfl) (Nat.le_of_ble_eq_true rfl) dX4_addedTo_110 h
  rw [lg_entry_eq]
  exact key _ _ _ hR va_S.rf ⟨lv_entry _ (n := 5) (Nat.le_of_ble_eq_true rfl), (c1_r (c1_i (c1_i c1_n)))⟩

theorem cd_X6_addedCost : Cond.code yX6_addedCost cX6_addedCost 5 (some .int) ∈ Tg := Tg_of (i := 390) (by decide +kernel) (by decide +kernel)
theorem wf_X6_24 : Cond.fieldLink RX6 24 RX6 (TX6 3).2.1 (TX6 3).2.2.1 ∈ Tg := Tg_of (i := 166) (by decide +kernel) (by decide +kernel)
theorem fl_X6_24 : Fld RX6 24 9 3 (.array .int) := ⟨RX6, TX6, 6, RX6, rfl, by decide, wf_X6_24, (Or.inl rfl), gu_X6, tyX6_ok _ (by decide), ⟨tyX6, tyX6_ok⟩, nmX6⟩
theorem ml_X6_85 : Cond.methodLink RX6 85 yX4_addedTo ∈ Tg := Tg_of (i := 391) (by decide +kernel) (by decide +kernel)
theorem lk_X6_85 : Lk RX6 85 yX4_addedTo cX4_addedTo 5 (some .int) 2 := ⟨ml_X6_85, cd_X4_addedTo, iw_X4, by decide +kernel⟩
theorem im_X4_addedTo : Cond.instanceMethod yX4_addedTo ∈ Tg := Tg_of (i := 392) (by decide +kernel) (by decide +kernel)
theorem se_X4_X4_addedTo : Cond.selects RX4 yX4_addedTo yX4_addedTo ∈ Tg := Tg_of (i := 393) (by decide +kernel) (by decide +kernel)
section M_X6_addedCost
variable {p : Program} {l : Launch} {e : Env} {s : State} {m : MethodId} {args : Array Value} {below : List Frame} {meth : Method} {c : Code} {G : GG} {o : Except Nat Int32} {hs' : Hs}
def j_X6_addedCost_45 (a0 : Option Nat) (a1 : Option Nat) (a2 : Int32) (a4 : Int32) (s0 : Int32) (s1 : Int32) (rec_5 : Int32 → Int32 → OO Int32) : OO Int32 :=
  lets (s1 + s0) fun (v10 : Int32) =>
    lets (a4 + (1 : Int32)) fun (v11 : Int32) =>
    rec_5 v10 v11
set_option maxRecDepth 100000 in
set_option maxHeartbeats 4000000 in
theorem w_j_X6_addedCost_45 (C : Cx G l p s m args c RX6 cX6_addedCost 5) (C2 : Cy meth c (some .int)) {hs : Hs} (a0 : Option Nat) (a1 : Option Nat) (a2 : Int32) (a4 : Int32) (s0 : Int32) (s1 : Int32) (rec_5 : Int32 → Int32 → OO Int32) (hrec_5 : ∀ (y3 : Int32) (y4 : Int32) hs, rec_5 y3 y4 hs = some (o, hs') → WG G p l e { frames := 2, cells := 0, slots := 0, locals := 48 } s m args below meth c 5 0 0 (vx_MQ below (QcT G o hs' tvI) (XCT G o hs') args s 0 0 (gA G)) hs [(0, va_rf a0), (1, va_rf a1), (2, .int a2), (3, .int y3), (4, .int y4)] [] 5) (h : j_X6_addedCost_45 a0 a1 a2 a4 s0 s1 rec_5 hs = some (o, hs')) : WG G p l e { frames := 2, cells := 0, slots := 0, locals := 48 } s m args below meth c 5 0 0 (vx_MQ below (QcT G o hs' tvI) (XCT G o hs') args s 0 0 (gA G)) hs [(0, va_rf a0), (1, va_rf a1), (2, .int a2), (4, .int a4)] [.int s0, .int s1] 45 := by
  unfold j_X6_addedCost_45 at h
  refine q_iadd C dX6_addedCost_45 ?_
  refine q_istore_n C (fun v10 => [(3, .int v10), (0, va_rf a0), (1, va_rf a1), (2, .int a2), (4, .int a4)]) dX6_addedCost_46 (by decide) (fun _ => rfl) h (fun v10 h => ?_)
  refine q_iinc C 4 (1 : Int32) (fun v11 => [(4, .int v11), (3, .int v10), (0, va_rf a0), (1, va_rf a1), (2, .int a2)]) dX6_addedCost_47 rfl (by decide) (by decide) (fun _ => rfl) h (fun v11 h => ?_)
  refine q_goto C 5 dX6_addedCost_50 (by decide) ?_
  refine WG.sub [2, 3, 4, 1, 0] rfl ?_
  exact hrec_5 _ _ _ h
def L_X6_addedCost_5 (a0 : Option Nat) (a1 : Option Nat) (a2 : Int32) (k_5_53 : Int32 → OO Int32) : Nat → Int32 → Int32 → OO Int32
  | 0, _, _ => failO
  | n + 1, x3, x4 =>
    gR a0 9 3 fun v3 =>
    alen v3 fun v4 =>
    (if v4 ≤ x4 then
    k_5_53 x3
    else
    gR a0 9 3 fun v5 =>
    ldI 0 v5 x4 fun v6 =>
    (if ¬ v6 = 0 then
    gR a0 9 3 fun v7 =>
    ldI 0 v7 x4 fun v8 =>
    rcv a1 7 fun r12 => call (f_X4_addedTo r12 x4 a2) (fun (v9 : Int32) =>
    j_X6_addedCost_45 a0 a1 a2 x4 (v8 * v9) x3 (L_X6_addedCost_5 a0 a1 a2 k_5_53 n)) nox
    else
    j_X6_addedCost_45 a0 a1 a2 x4 (0 : Int32) x3 (L_X6_addedCost_5 a0 a1 a2 k_5_53 n)))
set_option maxRecDepth 100000 in
set_option maxHeartbeats 4000000 in
theorem w_L_X6_addedCost_5 (C : Cx G l p s m args c RX6 cX6_addedCost 5) (C2 : Cy meth c (some .int)) (a0 : Option Nat) (a1 : Option Nat) (a2 : Int32) (k_5_53 : Int32 → OO Int32) (hk_5_53 : ∀ (y3 : Int32) hs, k_5_53 y3 hs = some (o, hs') → WG G p l e { frames := 2, cells := 0, slots := 0, locals := 48 } s m args below meth c 5 0 0 (vx_MQ below (QcT G o hs' tvI) (XCT G o hs') args s 0 0 (gA G)) hs [(3, .int y3)] [] 53) : ∀ (n : Nat) (x3 : Int32) (x4 : Int32) (hs : Hs), L_X6_addedCost_5 a0 a1 a2 k_5_53 n x3 x4 hs = some (o, hs') → WG G p l e { frames := 2, cells := 0, slots := 0, locals := 48 } s m args below meth c 5 0 0 (vx_MQ below (QcT G o hs' tvI) (XCT G o hs') args s 0 0 (gA G)) hs [(0, va_rf a0), (1, va_rf a1), (2, .int a2), (3, .int x3), (4, .int x4)] [] 5 := by
  intro n
  induction n with
  | zero =>
    intro x3 x4 hs h
    rw [L_X6_addedCost_5] at h
    exact absurd h failO_e
  | succ n hrec_5 =>
    intro x3 x4 hs h
    rw [L_X6_addedCost_5] at h
    refine q_iload C 4 dX6_addedCost_5 rfl ?_
    refine q_aload_n C 0 dX6_addedCost_7 rfl ?_
    refine q_gR C fl_X6_24 dX6_addedCost_8 h (fun v3 h => ?_)
    refine q_alen C dX6_addedCost_11 h (fun v4 h => ?_)
    refine q_icmp_ge C 53 dX6_addedCost_12 (by decide) h (fun h => ?_) (fun h => ?_)
    · refine WG.sub [3] rfl ?_
      exact hk_5_53 _ _ h
    · refine q_iload_n C 3 dX6_addedCost_15 rfl ?_
      refine q_aload_n C 0 dX6_addedCost_16 rfl ?_
      refine q_gR C fl_X6_24 dX6_addedCost_17 h (fun v5 h => ?_)
      refine q_iload C 4 dX6_addedCost_20 rfl ?_
      refine q_iald C dX6_addedCost_22 h (fun v6 h => ?_)
      refine q_if_ne C 30 dX6_addedCost_23 (by decide) h (fun h => ?_) (fun h => ?_)
      · refine q_aload_n C 0 dX6_addedCost_30 rfl ?_
        refine q_gR C fl_X6_24 dX6_addedCost_31 h (fun v7 h => ?_)
        refine q_iload C 4 dX6_addedCost_34 rfl ?_
        refine q_iald C dX6_addedCost_36 h (fun v8 h => ?_)
        refine q_aload_n C 1 dX6_addedCost_37 rfl ?_
        refine q_iload C 4 dX6_addedCost_38 rfl ?_
        refine q_iload_n C 2 dX6_addedCost_40 rfl ?_
        refine q_callV C (CN := RX4) (T := TX4) (N := 18) [.int x4, .int a2] [.int v8, .int x3] (fun a0 o2 hs1 hm => m_X4_addedTo hm) lk_X6_85 im_X4_addedTo se_X4_X4_addedTo rfl ⟨(Nat.le_of_ble_eq_true rfl), (Nat.le_of_ble_eq_true rfl)⟩ ⟨(Nat.le_of_ble_eq_true rfl), (Nat.le_of_ble_eq_true rfl)⟩ rfl rfl (by simp only [List.map, cat_rf, cat_i, cat_a]; decide) dX6_addedCost_41 h (fun v9 hs h => WG_st (st' := [.int v9, .int v8, .int x3]) rfl ?_)
        refine q_imul C dX6_addedCost_44 ?_
        refine WG.sub [0, 1, 2, 4] rfl ?_
        exact w_j_X6_addedCost_45 C C2 _ _ _ _ _ _ _ hrec_5 h
      · refine q_iconst C (0 : Int32) dX6_addedCost_26 (by decide) ?_
        refine q_goto C 45 dX6_addedCost_27 (by decide) ?_
        refine WG.sub [0, 1, 2, 4] rfl ?_
        exact w_j_X6_addedCost_45 C C2 _ _ _ _ _ _ _ hrec_5 h
end M_X6_addedCost
def f_X6_addedCost (a0 : Nat) (p1 : Option Nat) (p2 : Int32) : OO Int32 :=
    lets (0 : Int32) fun (v1 : Int32) =>
    lets (0 : Int32) fun (v2 : Int32) =>
    L_X6_addedCost_5 (some a0) p1 p2 (fun (v13 : Int32) => rtn v13) 100000 v1 v2
set_option maxRecDepth 100000 in
set_option maxHeartbeats 4000000 in
theorem m_X6_addedCost {G : GG} {l : Launch} {a0 : Nat} {p1 : Option Nat} {p2 : Int32} {hs hs' : Hs} {o : Except Nat Int32} (h : f_X6_addedCost a0 p1 p2 hs = some (o, hs')) : CT G l yX6_addedCost cX6_addedCost 5 (some .int) 2 48 0 0 [.ref a0, va_rf p1, .int p2] hs o hs' tvI := by
  refine vx_ofW (cc := cX6_addedCost) (maxL := 5) (ret := (some .int)) (by decide +kernel) rfl ?_
  intro p e s m args below meth c s₁ B hml hxt hv
  obtain ⟨hav, hR, hKn⟩ := hv
  subst hav
  have hts := atoms_spec (ws := .code yX6_addedCost cX6_addedCost 5 (some .int) :: Tg) B.pre
  have C : Cx G l p s m _ c RX6 cX6_addedCost 5 := ⟨B.exec, B.bytes, hml, findClass_of_methodNamed B.named, fun w hw => hts w (List.mem_cons_of_mem _ hw), hKn, fun q hq => Nat.le_trans hR.2.2.1 hq⟩
  have C2 : Cy meth c (some .int) := ⟨B.returns, B.notSynchronized, hxt⟩
  have key : WG G p l e { frames := 2, cells := 0, slots := 0, locals := 48 } s m ([.ref a0, va_rf p1, .int p2] : List Value).toArray below meth c 5 0 0 (vx_MQ below (QcT G o hs' tvI) (XCT G o hs') ([.ref a0, va_rf p1, .int p2] : List Value).toArray s 0 0 (gA G)) hs [(0, va_rf (some a0)), (1, va_rf p1), (2, .int p2)] [] 0 := by
    unfold f_X6_addedCost at h
    refine q_iconst C (0 : Int32) dX6_addedCost_0 (by decide) ?_
    refine q_istore_n C (fun v1 => [(3, .int v1), (0, va_rf (some a0)), (1, va_rf p1), (2, .int p2)]) dX6_addedCost_1 (by decide) (fun _ => rfl) h (fun v1 h => ?_)
    refine q_iconst C (0 : Int32) dX6_addedCost_2 (by decide) ?_
    refine q_istore C (fun v2 => [(4, .int v2), (3, .int v1), (0, va_rf (some a0)), (1, va_rf p1), (2, .int p2)]) dX6_addedCost_3 (by decide) (fun _ => rfl) h (fun v2 h => ?_)
    refine WG.sub [2, 3, 4, 1, 0] rfl ?_
    refine w_L_X6_addedCost_5 C C2 _ _ _ _ ?_ _ _ _ _ h
    · intro v13 hs h
      refine q_iload_n C 0 dX6_addedCost_53 rfl ?_
      exact q_iret C C2 rfl (Nat.le_of_ble_eq_true rfl) (Nat.le_of_ble_eq_true rfl) dX6_addedCost_54 h
  rw [lg_entry_eq]
  cases p1 <;> exact key _ _ _ hR va_S.rf ⟨lv_entry _ (n := 5) (Nat.le_of_ble_eq_true rfl), (c1_r (c1_r (c1_i c1_n)))⟩

theorem cd_X6_cheapestAmongJudged : Cond.code yX6_cheapestAmongJudged cX6_cheapestAmongJudged 7 (some .int) ∈ Tg := Tg_of (i := 381) (by decide +kernel) (by decide +kernel)
theorem ml_X6_177 : Cond.methodLink RX6 177 yX4_firstRoomAt ∈ Tg := Tg_of (i := 382) (by decide +kernel) (by decide +kernel)
theorem lk_X6_177 : Lk RX6 177 yX4_firstRoomAt cX4_firstRoomAt 3 (some .int) 1 := ⟨ml_X6_177, cd_X4_firstRoomAt, iw_X4, by decide +kernel⟩
theorem ml_X6_180 : Cond.methodLink RX6 180 yX6_addedCost ∈ Tg := Tg_of (i := 387) (by decide +kernel) (by decide +kernel)
theorem lk_X6_180 : Lk RX6 180 yX6_addedCost cX6_addedCost 5 (some .int) 2 := ⟨ml_X6_180, cd_X6_addedCost, iw_X6, by decide +kernel⟩
theorem im_X6_addedCost : Cond.instanceMethod yX6_addedCost ∈ Tg := Tg_of (i := 389) (by decide +kernel) (by decide +kernel)
theorem se_X6_X6_addedCost : Cond.selects RX6 yX6_addedCost yX6_addedCost ∈ Tg := Tg_of (i := 4) (by decide +kernel) (by decide +kernel)
theorem im_X4_firstRoomAt : Cond.instanceMethod yX4_firstRoomAt ∈ Tg := Tg_of (i := 383) (by decide +kernel) (by decide +kernel)
theorem se_X4_X4_firstRoomAt : Cond.selects RX4 yX4_firstRoomAt yX4_firstRoomAt ∈ Tg := Tg_of (i := 384) (by decide +kernel) (by decide +kernel)
section M_X6_cheapestAmongJudged
variable {p : Program} {l : Launch} {e : Env} {s : State} {m : MethodId} {args : Array Value} {below : List Frame} {meth : Method} {c : Code} {G : GG} {o : Except Nat Int32} {hs' : Hs}
def j_X6_cheapestAmongJudged_60 (a0 : Option Nat) (a1 : Option Nat) (a2 : Int32) (a3 : Int32) (a4 : Int32)  (rec_7 : Int32 → Int32 → Int32 → OO Int32) : OO Int32 :=
  lets (a4 + (1 : Int32)) fun (v6 : Int32) =>
    rec_7 a2 a3 v6
set_option maxRecDepth 100000 in
set_option maxHeartbeats 4000000 in
theorem w_j_X6_cheapestAmongJudged_60 (C : Cx G l p s m args c RX6 cX6_cheapestAmongJudged 7) (C2 : Cy meth c (some .int)) {hs : Hs} (a0 : Option Nat) (a1 : Option Nat) (a2 : Int32) (a3 : Int32) (a4 : Int32)  (rec_7 : Int32 → Int32 → Int32 → OO Int32) (hrec_7 : ∀ (y2 : Int32) (y3 : Int32) (y4 : Int32) hs, rec_7 y2 y3 y4 hs = some (o, hs') → WG G p l e { frames := 3, cells := 0, slots := 0, locals := 72 } s m args below meth c 7 0 0 (vx_MQ below (QcT G o hs' tvI) (XCT G o hs') args s 0 0 (gA G)) hs [(0, va_rf a0), (1, va_rf a1), (2, .int y2), (3, .int y3), (4, .int y4)] [] 7) (h : j_X6_cheapestAmongJudged_60 a0 a1 a2 a3 a4 rec_7 hs = some (o, hs')) : WG G p l e { frames := 3, cells := 0, slots := 0, locals := 72 } s m args below meth c 7 0 0 (vx_MQ below (QcT G o hs' tvI) (XCT G o hs') args s 0 0 (gA G)) hs [(0, va_rf a0), (1, va_rf a1), (2, .int a2), (3, .int a3), (4, .int a4)] [] 60 := by
  unfold j_X6_cheapestAmongJudged_60 at h
  refine q_iinc C 4 (1 : Int32) (fun v6 => [(4, .int v6), (0, va_rf a0), (1, va_rf a1), (2, .int a2), (3, .int a3)]) dX6_cheapestAmongJudged_60 rfl (by decide) (by decide) (fun _ => rfl) h (fun v6 h => ?_)
  refine q_goto C 7 dX6_cheapestAmongJudged_63 (by decide) ?_
  refine WG.sub [1, 2, 3, 4, 0] rfl ?_
  exact hrec_7 _ _ _ _ h
def j_X6_cheapestAmongJudged_48 (a0 : Option Nat) (a1 : Option Nat) (a4 : Int32) (a5 : Int32) (a6 : Int32)  (rec_7 : Int32 → Int32 → Int32 → OO Int32) : OO Int32 :=
  lets (((8 : Int32) * a4) + a5) fun (v9 : Int32) =>
    lets a6 fun (v10 : Int32) =>
    j_X6_cheapestAmongJudged_60 a0 a1 v9 v10 a4 rec_7
set_option maxRecDepth 100000 in
set_option maxHeartbeats 4000000 in
theorem w_j_X6_cheapestAmongJudged_48 (C : Cx G l p s m args c RX6 cX6_cheapestAmongJudged 7) (C2 : Cy meth c (some .int)) {hs : Hs} (a0 : Option Nat) (a1 : Option Nat) (a4 : Int32) (a5 : Int32) (a6 : Int32)  (rec_7 : Int32 → Int32 → Int32 → OO Int32) (hrec_7 : ∀ (y2 : Int32) (y3 : Int32) (y4 : Int32) hs, rec_7 y2 y3 y4 hs = some (o, hs') → WG G p l e { frames := 3, cells := 0, slots := 0, locals := 72 } s m args below meth c 7 0 0 (vx_MQ below (QcT G o hs' tvI) (XCT G o hs') args s 0 0 (gA G)) hs [(0, va_rf a0), (1, va_rf a1), (2, .int y2), (3, .int y3), (4, .int y4)] [] 7) (h : j_X6_cheapestAmongJudged_48 a0 a1 a4 a5 a6 rec_7 hs = some (o, hs')) : WG G p l e { frames := 3, cells := 0, slots := 0, locals := 72 } s m args below meth c 7 0 0 (vx_MQ below (QcT G o hs' tvI) (XCT G o hs') args s 0 0 (gA G)) hs [(0, va_rf a0), (1, va_rf a1), (4, .int a4), (5, .int a5), (6, .int a6)] [] 48 := by
  unfold j_X6_cheapestAmongJudged_48 at h
  refine q_bipush C (8 : Int32) dX6_cheapestAmongJudged_48 (by decide) ?_
  refine q_iload C 2 dX6_cheapestAmongJudged_50 rfl ?_
  refine q_imul C dX6_cheapestAmongJudged_52 ?_
  refine q_iload C 3 dX6_cheapestAmongJudged_53 rfl ?_
  refine q_iadd C dX6_cheapestAmongJudged_55 ?_
  refine q_istore_n C (fun v9 => [(2, .int v9), (0, va_rf a0), (1, va_rf a1), (4, .int a4), (5, .int a5), (6, .int a6)]) dX6_cheapestAmongJudged_56 (by decide) (fun _ => rfl) h (fun v9 h => ?_)
  refine q_iload C 5 dX6_cheapestAmongJudged_57 rfl ?_
  refine q_istore_n C (fun v10 => [(3, .int v10), (2, .int v9), (0, va_rf a0), (1, va_rf a1), (4, .int a4), (5, .int a5), (6, .int a6)]) dX6_cheapestAmongJudged_59 (by decide) (fun _ => rfl) h (fun v10 h => ?_)
  refine WG.sub [2, 3, 1, 0, 4] rfl ?_
  exact w_j_X6_cheapestAmongJudged_60 C C2 _ _ _ _ _ _ hrec_7 h
def L_X6_cheapestAmongJudged_7 (a0 : Option Nat) (a1 : Option Nat) (k_7_66 : Int32 → OO Int32) : Nat → Int32 → Int32 → Int32 → OO Int32
  | 0, _, _, _ => failO
  | n + 1, x2, x3, x4 =>
    (if (30 : Int32) ≤ x4 then
    k_7_66 x2
    else
    rcv a1 7 fun r12 => call (f_X4_firstRoomAt r12 x4) (fun (v4 : Int32) =>
    lets v4 fun (v5 : Int32) =>
    (if v5 = (-1 : Int32) then
    j_X6_cheapestAmongJudged_60 a0 a1 x2 x3 x4 (L_X6_cheapestAmongJudged_7 a0 a1 k_7_66 n)
    else
    rcv a0 9 fun r11 => call (f_X6_addedCost r11 a1 x4) (fun (v7 : Int32) =>
    lets v7 fun (v8 : Int32) =>
    (if x2 = (-1 : Int32) then
    j_X6_cheapestAmongJudged_48 a0 a1 x4 v5 v8 (L_X6_cheapestAmongJudged_7 a0 a1 k_7_66 n)
    else
    (if x3 ≤ v8 then
    j_X6_cheapestAmongJudged_60 a0 a1 x2 x3 x4 (L_X6_cheapestAmongJudged_7 a0 a1 k_7_66 n)
    else
    j_X6_cheapestAmongJudged_48 a0 a1 x4 v5 v8 (L_X6_cheapestAmongJudged_7 a0 a1 k_7_66 n)))) nox)) nox)
set_option maxRecDepth 100000 in
set_option maxHeartbeats 4000000 in
theorem w_L_X6_cheapestAmongJudged_7 (C : Cx G l p s m args c RX6 cX6_cheapestAmongJudged 7) (C2 : Cy meth c (some .int)) (a0 : Option Nat) (a1 : Option Nat) (k_7_66 : Int32 → OO Int32) (hk_7_66 : ∀ (y2 : Int32) hs, k_7_66 y2 hs = some (o, hs') → WG G p l e { frames := 3, cells := 0, slots := 0, locals := 72 } s m args below meth c 7 0 0 (vx_MQ below (QcT G o hs' tvI) (XCT G o hs') args s 0 0 (gA G)) hs [(2, .int y2)] [] 66) : ∀ (n : Nat) (x2 : Int32) (x3 : Int32) (x4 : Int32) (hs : Hs), L_X6_cheapestAmongJudged_7 a0 a1 k_7_66 n x2 x3 x4 hs = some (o, hs') → WG G p l e { frames := 3, cells := 0, slots := 0, locals := 72 } s m args below meth c 7 0 0 (vx_MQ below (QcT G o hs' tvI) (XCT G o hs') args s 0 0 (gA G)) hs [(0, va_rf a0), (1, va_rf a1), (2, .int x2), (3, .int x3), (4, .int x4)] [] 7 := by
  intro n
  induction n with
  | zero =>
    intro x2 x3 x4 hs h
    rw [L_X6_cheapestAmongJudged_7] at h
    exact absurd h failO_e
  | succ n hrec_7 =>
    intro x2 x3 x4 hs h
    rw [L_X6_cheapestAmongJudged_7] at h
    refine q_iload C 4 dX6_cheapestAmongJudged_7 rfl ?_
    refine q_bipush C (30 : Int32) dX6_cheapestAmongJudged_9 (by decide) ?_
    refine q_icmp_ge C 66 dX6_cheapestAmongJudged_11 (by decide) h (fun h => ?_) (fun h => ?_)
    · refine WG.sub [2] rfl ?_
      exact hk_7_66 _ _ h
    · refine q_aload_n C 1 dX6_cheapestAmongJudged_14 rfl ?_
      refine q_iload C 4 dX6_cheapestAmongJudged_15 rfl ?_
      refine q_callV C (CN := RX4) (T := TX4) (N := 18) [.int x4] [] (fun a0 o2 hs1 hm => m_X4_firstRoomAt hm) lk_X6_177 im_X4_firstRoomAt se_X4_X4_firstRoomAt rfl ⟨(Nat.le_of_ble_eq_true rfl), (Nat.le_of_ble_eq_true rfl)⟩ ⟨(Nat.le_of_ble_eq_true rfl), (Nat.le_of_ble_eq_true rfl)⟩ rfl rfl (by decide) dX6_cheapestAmongJudged_17 h (fun v4 hs h => WG_st (st' := [.int v4]) rfl ?_)
      refine q_istore C (fun v5 => [(5, .int v5), (0, va_rf a0), (1, va_rf a1), (2, .int x2), (3, .int x3), (4, .int x4)]) dX6_cheapestAmongJudged_20 (by decide) (fun _ => rfl) h (fun v5 h => ?_)
      refine q_iload C 0 dX6_cheapestAmongJudged_22 rfl ?_
      refine q_iconst C (-1 : Int32) dX6_cheapestAmongJudged_24 (by decide) ?_
      refine q_icmp_eq C 60 dX6_cheapestAmongJudged_25 (by decide) h (fun h => ?_) (fun h => ?_)
      · refine WG.sub [1, 2, 3, 4, 5] rfl ?_
        exact w_j_X6_cheapestAmongJudged_60 C C2 _ _ _ _ _ _ hrec_7 h
      · refine q_aload_n C 1 dX6_cheapestAmongJudged_28 rfl ?_
        refine q_aload_n C 2 dX6_cheapestAmongJudged_29 rfl ?_
        refine q_iload C 5 dX6_cheapestAmongJudged_30 rfl ?_
        refine q_callV C (CN := RX6) (T := TX6) (N := 6) [va_rf a1, .int x4] [] (fun a0 o2 hs1 hm => m_X6_addedCost hm) lk_X6_180 im_X6_addedCost se_X6_X6_addedCost rfl ⟨(Nat.le_of_ble_eq_true rfl), (Nat.le_of_ble_eq_true rfl)⟩ ⟨(Nat.le_of_ble_eq_true rfl), (Nat.le_of_ble_eq_true rfl)⟩ rfl rfl (by decide) dX6_cheapestAmongJudged_32 h (fun v7 hs h => WG_st (st' := [.int v7]) rfl ?_)
        refine q_istore C (fun v8 => [(6, .int v8), (5, .int v5), (0, va_rf a0), (1, va_rf a1), (2, .int x2), (3, .int x3), (4, .int x4)]) dX6_cheapestAmongJudged_35 (by decide) (fun _ => rfl) h (fun v8 h => ?_)
        refine q_iload_n C 4 dX6_cheapestAmongJudged_37 rfl ?_
        refine q_iconst C (-1 : Int32) dX6_cheapestAmongJudged_38 (by decide) ?_
        refine q_icmp_eq C 48 dX6_cheapestAmongJudged_39 (by decide) h (fun h => ?_) (fun h => ?_)
        · refine WG.sub [2, 3, 6, 1, 0] rfl ?_
          exact w_j_X6_cheapestAmongJudged_48 C C2 _ _ _ _ _ _ hrec_7 h
        · refine q_iload C 0 dX6_cheapestAmongJudged_42 rfl ?_
          refine q_iload_n C 5 dX6_cheapestAmongJudged_44 rfl ?_
          refine q_icmp_ge C 60 dX6_cheapestAmongJudged_45 (by decide) h (fun h => ?_) (fun h => ?_)
          · refine WG.sub [2, 3, 4, 5, 6] rfl ?_
            exact w_j_X6_cheapestAmongJudged_60 C C2 _ _ _ _ _ _ hrec_7 h
          · refine WG.sub [2, 3, 6, 1, 0] rfl ?_
            exact w_j_X6_cheapestAmongJudged_48 C C2 _ _ _ _ _ _ hrec_7 h
end M_X6_cheapestAmongJudged
def f_X6_cheapestAmongJudged (a0 : Nat) (p1 : Option Nat) : OO Int32 :=
    lets (-1 : Int32) fun (v1 : Int32) =>
    lets (0 : Int32) fun (v2 : Int32) =>
    lets (0 : Int32) fun (v3 : Int32) =>
    L_X6_cheapestAmongJudged_7 (some a0) p1 (fun (v13 : Int32) => rtn v13) 100000 v1 v2 v3
set_option maxRecDepth 100000 in
set_option maxHeartbeats 4000000 in
theorem m_X6_cheapestAmongJudged {G : GG} {l : Launch} {a0 : Nat} {p1 : Option Nat} {hs hs' : Hs} {o : Except Nat Int32} (h : f_X6_cheapestAmongJudged a0 p1 hs = some (o, hs')) : CT G l yX6_cheapestAmongJudged cX6_cheapestAmongJudged 7 (some .int) 3 72 0 0 [.ref a0, va_rf p1] hs o hs' tvI := by
  refine vx_ofW (cc := cX6_cheapestAmongJudged) (maxL := 7) (ret := (some .int)) (by decide +kernel) rfl ?_
  intro p e s m args below meth c s₁ B hml hxt hv
  obtain ⟨hav, hR, hKn⟩ := hv
  subst hav
  have hts := atoms_spec (ws := .code yX6_cheapestAmongJudged cX6_cheapestAmongJudged 7 (some .int) :: Tg) B.pre
  have C : Cx G l p s m _ c RX6 cX6_cheapestAmongJudged 7 := ⟨B.exec, B.bytes, hml, findClass_of_methodNamed B.named, fun w hw => hts w (List.mem_cons_of_mem _ hw), hKn, fun q hq => Nat.le_trans hR.2.2.1 hq⟩
  have C2 : Cy meth c (some .int) := ⟨B.returns, B.notSynchronized, hxt⟩
  have key : WG G p l e { frames := 3, cells := 0, slots := 0, locals := 72 } s m ([.ref a0, va_rf p1] : List Value).toArray below meth c 7 0 0 (vx_MQ below (QcT G o hs' tvI) (XCT G o hs') ([.ref a0, va_rf p1] : List Value).toArray s 0 0 (gA G)) hs [(0, va_rf (some a0)), (1, va_rf p1)] [] 0 := by
    unfold f_X6_cheapestAmongJudged at h
    refine q_iconst C (-1 : Int32) dX6_cheapestAmongJudged_0 (by decide) ?_
    refine q_istore_n C (fun v1 => [(2, .int v1), (0, va_rf (some a0)), (1, va_rf p1)]) dX6_cheapestAmongJudged_1 (by decide) (fun _ => rfl) h (fun v1 h => ?_)
    refine q_iconst C (0 : Int32) dX6_cheapestAmongJudged_2 (by decide) ?_
    refine q_istore_n C (fun v2 => [(3, .int v2), (2, .int v1), (0, va_rf (some a0)), (1, va_rf p1)]) dX6_cheapestAmongJudged_3 (by decide) (fun _ => rfl) h (fun v2 h => ?_)
    refine q_iconst C (0 : Int32) dX6_cheapestAmongJudged_4 (by decide) ?_
    refine q_istore C (fun v3 => [(4, .int v3), (3, .int v2), (2, .int v1), (0, va_rf (some a0)), (1, va_rf p1)]) dX6_cheapestAmongJudged_5 (by decide) (fun _ => rfl) h (fun v3 h => ?_)
    refine WG.sub [3, 4, 2, 1, 0] rfl ?_
    refine w_L_X6_cheapestAmongJudged_7 C C2 _ _ _ ?_ _ _ _ _ _ h
    · intro v13 hs h
      refine q_iload_n C 0 dX6_cheapestAmongJudged_66 rfl ?_
      exact q_iret C C2 rfl (Nat.le_of_ble_eq_true rfl) (Nat.le_of_ble_eq_true rfl) dX6_cheapestAmongJudged_67 h
  rw [lg_entry_eq]
  cases p1 <;> exact key _ _ _ hR va_S.rf ⟨lv_entry _ (n := 7) (Nat.le_of_ble_eq_true rfl), (c1_r (c1_r c1_n))⟩

theorem cd_X6_findCheapest : Cond.code yX6_findCheapest cX6_findCheapest 2 (some .int) ∈ Tg := Tg_of (i := 377) (by decide +kernel) (by decide +kernel)
theorem ml_X6_171 : Cond.methodLink RX6 171 yX6_cheapestAmongJudged ∈ Tg := Tg_of (i := 378) (by decide +kernel) (by decide +kernel)
theorem lk_X6_171 : Lk RX6 171 yX6_cheapestAmongJudged cX6_cheapestAmongJudged 7 (some .int) 1 := ⟨ml_X6_171, cd_X6_cheapestAmongJudged, iw_X6, by decide +kernel⟩
theorem im_X6_cheapestAmongJudged : Cond.instanceMethod yX6_cheapestAmongJudged ∈ Tg := Tg_of (i := 380) (by decide +kernel) (by decide +kernel)
theorem se_X6_X6_cheapestAmongJudged : Cond.selects RX6 yX6_cheapestAmongJudged yX6_cheapestAmongJudged ∈ Tg := Tg_of (i := 3) (by decide +kernel) (by decide +kernel)
section M_X6_findCheapest
variable {p : Program} {l : Launch} {e : Env} {s : State} {m : MethodId} {args : Array Value} {below : List Frame} {meth : Method} {c : Code} {G : GG} {o : Except Nat Int32} {hs' : Hs}
end M_X6_findCheapest
def f_X6_findCheapest (a0 : Nat) (p1 : Option Nat) : OO Int32 :=
    rcv (some a0) 9 fun r4 => call (f_X6_judgePlaces r4 p1) (fun (v1 : Unit) =>
    rcv (some a0) 9 fun r3 => call (f_X6_cheapestAmongJudged r3 p1) (fun (v2 : Int32) =>
    rtn v2) nox) nox
set_option maxRecDepth 100000 in
set_option maxHeartbeats 4000000 in
theorem m_X6_findCheapest {G : GG} {l : Launch} {a0 : Nat} {p1 : Option Nat} {hs hs' : Hs} {o : Except Nat Int32} (h : f_X6_findCheapest a0 p1 hs = some (o, hs')) : CT G l yX6_findCheapest cX6_findCheapest 2 (some .int) 10 384 0 0 [.ref a0, va_rf p1] hs o hs' tvI := by
  refine vx_ofW (cc := cX6_findCheapest) (maxL := 2) (ret := (some .int)) (by decide +kernel) rfl ?_
  intro p e s m args below meth c s₁ B hml hxt hv
  obtain ⟨hav, hR, hKn⟩ := hv
  subst hav
  have hts := atoms_spec (ws := .code yX6_findCheapest cX6_findCheapest 2 (some .int) :: Tg) B.pre
  have C : Cx G l p s m _ c RX6 cX6_findCheapest 2 := ⟨B.exec, B.bytes, hml, findClass_of_methodNamed B.named, fun w hw => hts w (List.mem_cons_of_mem _ hw), hKn, fun q hq => Nat.le_trans hR.2.2.1 hq⟩
  have C2 : Cy meth c (some .int) := ⟨B.returns, B.notSynchronized, hxt⟩
  have key : WG G p l e { frames := 10, cells := 0, slots := 0, locals := 384 } s m ([.ref a0, va_rf p1] : List Value).toArray below meth c 2 0 0 (vx_MQ below (QcT G o hs' tvI) (XCT G o hs') ([.ref a0, va_rf p1] : List Value).toArray s 0 0 (gA G)) hs [(0, va_rf (some a0)), (1, va_rf p1)] [] 0 := by
    unfold f_X6_findCheapest at h
    refine q_aload_n C 0 dX6_findCheapest_0 rfl ?_
    refine q_aload_n C 1 dX6_findCheapest_1 rfl ?_
    refine q_callV C (CN := RX6) (T := TX6) (N := 6) [va_rf p1] [] (fun a0 o2 hs1 hm => m_X6_judgePlaces hm) lk_X6_138 im_X6_judgePlaces se_X6_X6_judgePlaces rfl ⟨(Nat.le_of_ble_eq_true rfl), (Nat.le_of_ble_eq_true rfl)⟩ ⟨(Nat.le_of_ble_eq_true rfl), (Nat.le_of_ble_eq_true rfl)⟩ rfl rfl (by decide) dX6_findCheapest_2 h (fun v1 hs h => WG_st (st' := []) rfl ?_)
    refine q_aload_n C 0 dX6_findCheapest_5 rfl ?_
    refine q_aload_n C 1 dX6_findCheapest_6 rfl ?_
    refine q_callV C (CN := RX6) (T := TX6) (N := 6) [va_rf p1] [] (fun a0 o2 hs1 hm => m_X6_cheapestAmongJudged hm) lk_X6_171 im_X6_cheapestAmongJudged se_X6_X6_cheapestAmongJudged rfl ⟨(Nat.le_of_ble_eq_true rfl), (Nat.le_of_ble_eq_true rfl)⟩ ⟨(Nat.le_of_ble_eq_true rfl), (Nat.le_of_ble_eq_true rfl)⟩ rfl rfl (by decide) dX6_findCheapest_7 h (fun v2 hs h => WG_st (st' := [.int v2]) rfl ?_)
    exact q_iret C C2 rfl (Nat.le_of_ble_eq_true rfl) (Nat.le_of_ble_eq_true rfl) dX6_findCheapest_10 h
  rw [lg_entry_eq]
  cases p1 <;> exact key _ _ _ hR va_S.rf ⟨lv_entry _ (n := 2) (Nat.le_of_ble_eq_true rfl), (c1_r (c1_r c1_n))⟩

theorem cd_X6_changeAmounts : Cond.code yX6_changeAmounts cX6_changeAmounts 4 none ∈ Tg := Tg_of (i := 418) (by decide +kernel) (by decide +kernel)
theorem wf_X6_28 : Cond.fieldLink RX6 28 RX6 (TX6 4).2.1 (TX6 4).2.2.1 ∈ Tg := Tg_of (i := 168) (by decide +kernel) (by decide +kernel)
theorem fl_X6_28 : Fld RX6 28 9 4 (.array .int) := ⟨RX6, TX6, 6, RX6, rfl, by decide, wf_X6_28, (Or.inl rfl), gu_X6, tyX6_ok _ (by decide), ⟨tyX6, tyX6_ok⟩, nmX6⟩
theorem wf_X6_37 : Cond.fieldLink RX6 37 RX4 (TX4 7).2.1 (TX4 7).2.2.1 ∈ Tg := Tg_of (i := 912) (by decide +kernel) (by decide +kernel)
theorem fl_X6_37 : Fld RX6 37 7 7 .int := ⟨RX4, TX4, 18, RX4, rfl, by decide, wf_X6_37, (Or.inl rfl), gu_X4, tyX4_ok _ (by decide), ⟨tyX4, tyX4_ok⟩, nmX4⟩
section M_X6_changeAmounts
variable {p : Program} {l : Launch} {e : Env} {s : State} {m : MethodId} {args : Array Value} {below : List Frame} {meth : Method} {c : Code} {G : GG} {o : Except Nat Unit} {hs' : Hs}
def L_X6_changeAmounts_2 (a0 : Option Nat) (a1 : Option Nat) (a2 : Int32) (k_2_44 : OO Unit) : Nat → Int32 → OO Unit
  | 0, _ => failO
  | n + 1, x3 =>
    gR a0 9 4 fun v2 =>
    alen v2 fun v3 =>
    (if v3 ≤ x3 then
    k_2_44
    else
    gR a1 7 6 fun v4 =>
    (if v4 = none then
    k_2_44
    else
    gR a0 9 4 fun v5 =>
    ldI 0 v5 x3 fun v6 =>
    gI a1 7 7 fun v7 =>
    rcv a1 7 fun r10 => call (f_X4_addedTo r10 x3 v7) (fun (v8 : Int32) =>
    stI v5 x3 (v6 + (a2 * v8)) (
    lets (x3 + (1 : Int32)) fun (v9 : Int32) =>
    (L_X6_changeAmounts_2 a0 a1 a2 k_2_44 n) v9)) nox))
set_option maxRecDepth 100000 in
set_option maxHeartbeats 4000000 in
theorem w_L_X6_changeAmounts_2 (C : Cx G l p s m args c RX6 cX6_changeAmounts 4) (C2 : Cy meth c none) (a0 : Option Nat) (a1 : Option Nat) (a2 : Int32) (k_2_44 : OO Unit) (hk_2_44 : ∀ hs, k_2_44  hs = some (o, hs') → WG G p l e { frames := 2, cells := 0, slots := 0, locals := 48 } s m args below meth c 4 0 0 (vx_MQ below (QcT G o hs' tvV) (XCT G o hs') args s 0 0 (gA G)) hs [] [] 44) : ∀ (n : Nat) (x3 : Int32) (hs : Hs), L_X6_changeAmounts_2 a0 a1 a2 k_2_44 n x3 hs = some (o, hs') → WG G p l e { frames := 2, cells := 0, slots := 0, locals := 48 } s m args below meth c 4 0 0 (vx_MQ below (QcT G o hs' tvV) (XCT G o hs') args s 0 0 (gA G)) hs [(0, va_rf a0), (1, va_rf a1), (2, .int a2), (3, .int x3)] [] 2 := by
  intro n
  induction n with
  | zero =>
    intro x3 hs h
    rw [L_X6_changeAmounts_2] at h
    exact absurd h failO_e
  | succ n hrec_2 =>
    intro x3 hs h
    rw [L_X6_changeAmounts_2] at h
    refine q_iload_n C 3 dX6_changeAmounts_2 rfl ?_
    refine q_aload_n C 0 dX6_changeAmounts_3 rfl ?_
    refine q_gR C fl_X6_28 dX6_changeAmounts_4 h (fun v2 h => ?_)
    refine q_alen C dX6_changeAmounts_7 h (fun v3 h => ?_)
    refine q_icmp_ge C 44 dX6_changeAmounts_8 (by decide) h (fun h => ?_) (fun h => ?_)
    · refine WG.sub [] rfl ?_
      exact hk_2_44 _ h
    · refine q_aload_n C 1 dX6_changeAmounts_11 rfl ?_
      refine q_gR C fl_X6_31 dX6_changeAmounts_12 h (fun v4 h => ?_)
      refine q_ifnull C 44 dX6_changeAmounts_15 (by decide) h (fun h => ?_) (fun h => ?_)
      · refine WG.sub [] rfl ?_
        exact hk_2_44 _ h
      · refine q_aload_n C 0 dX6_changeAmounts_18 rfl ?_
        refine q_gR C fl_X6_28 dX6_changeAmounts_19 h (fun v5 h => ?_)
        refine q_iload_n C 3 dX6_changeAmounts_22 rfl ?_
        refine q_dup2 C rfl (cat_rf _) dX6_changeAmounts_23 ?_
        refine q_iald C dX6_changeAmounts_24 h (fun v6 h => ?_)
        refine q_iload_n C 2 dX6_changeAmounts_25 rfl ?_
        refine q_aload_n C 1 dX6_changeAmounts_26 rfl ?_
        refine q_iload_n C 3 dX6_changeAmounts_27 rfl ?_
        refine q_aload_n C 1 dX6_changeAmounts_28 rfl ?_
        refine q_gI C fl_X6_37 dX6_changeAmounts_29 h (fun v7 h => ?_)
        refine q_callV C (CN := RX4) (T := TX4) (N := 18) [.int x3, .int v7] [.int a2, .int v6, .int x3, va_rf v5] (fun a0 o2 hs1 hm => m_X4_addedTo hm) lk_X6_85 im_X4_addedTo se_X4_X4_addedTo rfl ⟨(Nat.le_of_ble_eq_true rfl), (Nat.le_of_ble_eq_true rfl)⟩ ⟨(Nat.le_of_ble_eq_true rfl), (Nat.le_of_ble_eq_true rfl)⟩ rfl rfl (by simp only [List.map, cat_rf, cat_i, cat_a]; decide) dX6_changeAmounts_32 h (fun v8 hs h => WG_st (st' := [.int v8, .int a2, .int v6, .int x3, va_rf v5]) rfl ?_)
        refine q_imul C dX6_changeAmounts_35 ?_
        refine q_iadd C dX6_changeAmounts_36 ?_
        refine q_iast C dX6_changeAmounts_37 h (fun hs h => ?_)
        refine q_iinc C 3 (1 : Int32) (fun v9 => [(3, .int v9), (0, va_rf a0), (1, va_rf a1), (2, .int a2)]) dX6_changeAmounts_38 rfl (by decide) (by decide) (fun _ => rfl) h (fun v9 h => ?_)
        refine q_goto C 2 dX6_changeAmounts_41 (by decide) ?_
        refine WG.sub [1, 2, 3, 0] rfl ?_
        exact hrec_2 _ _ h
end M_X6_changeAmounts
def f_X6_changeAmounts (a0 : Nat) (p1 : Option Nat) (p2 : Int32) : OO Unit :=
    lets (0 : Int32) fun (v1 : Int32) =>
    L_X6_changeAmounts_2 (some a0) p1 p2 (rtn ()) 100000 v1
set_option maxRecDepth 100000 in
set_option maxHeartbeats 4000000 in
theorem m_X6_changeAmounts {G : GG} {l : Launch} {a0 : Nat} {p1 : Option Nat} {p2 : Int32} {hs hs' : Hs} {o : Except Nat Unit} (h : f_X6_changeAmounts a0 p1 p2 hs = some (o, hs')) : CT G l yX6_changeAmounts cX6_changeAmounts 4 none 2 48 0 0 [.ref a0, va_rf p1, .int p2] hs o hs' tvV := by
  refine vx_ofW (cc := cX6_changeAmounts) (maxL := 4) (ret := none) (by decide +kernel) rfl ?_
  intro p e s m args below meth c s₁ B hml hxt hv
  obtain ⟨hav, hR, hKn⟩ := hv
  subst hav
  have hts := atoms_spec (ws := .code yX6_changeAmounts cX6_changeAmounts 4 none :: Tg) B.pre
  have C : Cx G l p s m _ c RX6 cX6_changeAmounts 4 := ⟨B.exec, B.bytes, hml, findClass_of_methodNamed B.named, fun w hw => hts w (List.mem_cons_of_mem _ hw), hKn, fun q hq => Nat.le_trans hR.2.2.1 hq⟩
  have C2 : Cy meth c none := ⟨B.returns, B.notSynchronized, hxt⟩
  have key : WG G p l e { frames := 2, cells := 0, slots := 0, locals := 48 } s m ([.ref a0, va_rf p1, .int p2] : List Value).toArray below meth c 4 0 0 (vx_MQ below (QcT G o hs' tvV) (XCT G o hs') ([.ref a0, va_rf p1, .int p2] : List Value).toArray s 0 0 (gA G)) hs [(0, va_rf (some a0)), (1, va_rf p1), (2, .int p2)] [] 0 := by
    unfold f_X6_changeAmounts at h
    refine q_iconst C (0 : Int32) dX6_changeAmounts_0 (by decide) ?_
    refine q_istore_n C (fun v1 => [(3, .int v1), (0, va_rf (some a0)), (1, va_rf p1), (2, .int p2)]) dX6_changeAmounts_1 (by decide) (fun _ => rfl) h (fun v1 h => ?_)
    refine WG.sub [1, 2, 3, 0] rfl ?_
    refine w_L_X6_changeAmounts_2 C C2 _ _ _ _ ?_ _ _ _ h
    · intro  hs h
      exact q_vret C C2 rfl (Nat.le_of_ble_eq_true rfl) (Nat.le_of_ble_eq_true rfl) dX6_changeAmounts_44 h
  rw [lg_entry_eq]
  cases p1 <;> exact key _ _ _ hR va_S.rf ⟨lv_entry _ (n := 4) (Nat.le_of_ble_eq_true rfl), (c1_r (c1_r (c1_i c1_n)))⟩

theorem cd_X6_put : Cond.code yX6_put cX6_put 4 none ∈ Tg := Tg_of (i := 414) (by decide +kernel) (by decide +kernel)
theorem ml_X6_75 : Cond.methodLink RX6 75 yX6_changeAmounts ∈ Tg := Tg_of (i := 415) (by decide +kernel) (by decide +kernel)
theorem lk_X6_75 : Lk RX6 75 yX6_changeAmounts cX6_changeAmounts 4 none 2 := ⟨ml_X6_75, cd_X6_changeAmounts, iw_X6, by decide +kernel⟩
theorem fw_X6_37 : FldW RX6 37 7 7 .int false := ⟨RX4, TX4, 18, RX4, rfl, by decide, wf_X6_37, (Or.inl rfl), gu_X4, tyX4_ok _ (by decide), ⟨tyX4, tyX4_ok⟩, nmX4, rfl, fun z => nomatch z⟩
theorem fw_X6_31 : FldW RX6 31 7 6 (.object "Termgrid$Room") false := ⟨RX4, TX4, 18, RX4, rfl, by decide, wf_X6_31, (Or.inl rfl), gu_X4, tyX4_ok _ (by decide), ⟨tyX4, tyX4_ok⟩, nmX4, rfl, fun z => nomatch z⟩
theorem im_X6_changeAmounts : Cond.instanceMethod yX6_changeAmounts ∈ Tg := Tg_of (i := 417) (by decide +kernel) (by decide +kernel)
theorem se_X6_X6_changeAmounts : Cond.selects RX6 yX6_changeAmounts yX6_changeAmounts ∈ Tg := Tg_of (i := 6) (by decide +kernel) (by decide +kernel)
section M_X6_put
variable {p : Program} {l : Launch} {e : Env} {s : State} {m : MethodId} {args : Array Value} {below : List Frame} {meth : Method} {c : Code} {G : GG} {o : Except Nat Unit} {hs' : Hs}
end M_X6_put
def f_X6_put (a0 : Nat) (p1 : Option Nat) (p2 : Int32) (p3 : Option Nat) : OO Unit :=
    rcv (some a0) 9 fun r6 => call (f_X6_lookAround r6 p1) (fun (v1 : Unit) =>
    rcv (some a0) 9 fun r5 => call (f_X6_changeAmounts r5 p1 (-1 : Int32)) (fun (v2 : Unit) =>
    pI p1 7 7 p2 (
    pR p1 7 6 p3 (
    rcv (some a0) 9 fun r4 => call (f_X6_changeAmounts r4 p1 (1 : Int32)) (fun (v3 : Unit) =>
    rtn ()) nox))) nox) nox
set_option maxRecDepth 100000 in
set_option maxHeartbeats 4000000 in
theorem m_X6_put {G : GG} {l : Launch} {a0 : Nat} {p1 : Option Nat} {p2 : Int32} {p3 : Option Nat} {hs hs' : Hs} {o : Except Nat Unit} (h : f_X6_put a0 p1 p2 p3 hs = some (o, hs')) : CT G l yX6_put cX6_put 4 none 4 86 0 0 [.ref a0, va_rf p1, .int p2, va_rf p3] hs o hs' tvV := by
  refine vx_ofW (cc := cX6_put) (maxL := 4) (ret := none) (by decide +kernel) rfl ?_
  intro p e s m args below meth c s₁ B hml hxt hv
  obtain ⟨hav, hR, hKn⟩ := hv
  subst hav
  have hts := atoms_spec (ws := .code yX6_put cX6_put 4 none :: Tg) B.pre
  have C : Cx G l p s m _ c RX6 cX6_put 4 := ⟨B.exec, B.bytes, hml, findClass_of_methodNamed B.named, fun w hw => hts w (List.mem_cons_of_mem _ hw), hKn, fun q hq => Nat.le_trans hR.2.2.1 hq⟩
  have C2 : Cy meth c none := ⟨B.returns, B.notSynchronized, hxt⟩
  have key : WG G p l e { frames := 4, cells := 0, slots := 0, locals := 86 } s m ([.ref a0, va_rf p1, .int p2, va_rf p3] : List Value).toArray below meth c 4 0 0 (vx_MQ below (QcT G o hs' tvV) (XCT G o hs') ([.ref a0, va_rf p1, .int p2, va_rf p3] : List Value).toArray s 0 0 (gA G)) hs [(0, va_rf (some a0)), (1, va_rf p1), (2, .int p2), (3, va_rf p3)] [] 0 := by
    unfold f_X6_put at h
    refine q_aload_n C 0 dX6_put_0 rfl ?_
    refine q_aload_n C 1 dX6_put_1 rfl ?_
    refine q_callV C (CN := RX6) (T := TX6) (N := 6) [va_rf p1] [] (fun a0 o2 hs1 hm => m_X6_lookAround hm) lk_X6_68 im_X6_lookAround se_X6_X6_lookAround rfl ⟨(Nat.le_of_ble_eq_true rfl), (Nat.le_of_ble_eq_true rfl)⟩ ⟨(Nat.le_of_ble_eq_true rfl), (Nat.le_of_ble_eq_true rfl)⟩ rfl rfl (by decide) dX6_put_2 h (fun v1 hs h => WG_st (st' := []) rfl ?_)
    refine q_aload_n C 0 dX6_put_5 rfl ?_
    refine q_aload_n C 1 dX6_put_6 rfl ?_
    refine q_iconst C (-1 : Int32) dX6_put_7 (by decide) ?_
    refine q_callV C (CN := RX6) (T := TX6) (N := 6) [va_rf p1, .int (-1 : Int32)] [] (fun a0 o2 hs1 hm => m_X6_changeAmounts hm) lk_X6_75 im_X6_changeAmounts se_X6_X6_changeAmounts rfl ⟨(Nat.le_of_ble_eq_true rfl), (Nat.le_of_ble_eq_true rfl)⟩ ⟨(Nat.le_of_ble_eq_true rfl), (Nat.le_of_ble_eq_true rfl)⟩ rfl rfl (by decide) dX6_put_8 h (fun v2 hs h => WG_st (st' := []) rfl ?_)
    refine q_aload_n C 1 dX6_put_11 rfl ?_
    refine q_iload_n C 2 dX6_put_12 rfl ?_
    refine q_pI C fw_X6_37 (fun z => nomatch z) dX6_put_13 h (fun hs h => ?_)
    refine q_aload_n C 1 dX6_put_16 rfl ?_
    refine q_aload_n C 3 dX6_put_17 rfl ?_
    refine q_pR C fw_X6_31 (fun z => nomatch z) rfl dX6_put_18 h (fun hs h => ?_)
    refine q_aload_n C 0 dX6_put_21 rfl ?_
    refine q_aload_n C 1 dX6_put_22 rfl ?_
    refine q_iconst C (1 : Int32) dX6_put_23 (by decide) ?_
    refine q_callV C (CN := RX6) (T := TX6) (N := 6) [va_rf p1, .int (1 : Int32)] [] (fun a0 o2 hs1 hm => m_X6_changeAmounts hm) lk_X6_75 im_X6_changeAmounts se_X6_X6_changeAmounts rfl ⟨(Nat.le_of_ble_eq_true rfl), (Nat.le_of_ble_eq_true rfl)⟩ ⟨(Nat.le_of_ble_eq_true rfl), (Nat.le_of_ble_eq_true rfl)⟩ rfl rfl (by decide) dX6_put_24 h (fun v3 hs h => WG_st (st' := []) rfl ?_)
    exact q_vret C C2 rfl (Nat.le_of_ble_eq_true rfl) (Nat.le_of_ble_eq_true rfl) dX6_put_27 h
  rw [lg_entry_eq]
  cases p1 <;> cases p3 <;> exact key _ _ _ hR va_S.rf ⟨lv_entry _ (n := 4) (Nat.le_of_ble_eq_true rfl), (c1_r (c1_r (c1_i (c1_r c1_n))))⟩

theorem cd_X6_putAt : Cond.code yX6_putAt cX6_putAt 4 none ∈ Tg := Tg_of (i := 409) (by decide +kernel) (by decide +kernel)
theorem wc_X6_79 : Cond.classLink RX6 79 RX5 ∈ Tg := Tg_of (i := 410) (by decide +kernel) (by decide +kernel)
theorem ml_X6_81 : Cond.methodLink RX6 81 yX6_put ∈ Tg := Tg_of (i := 411) (by decide +kernel) (by decide +kernel)
theorem lk_X6_81 : Lk RX6 81 yX6_put cX6_put 4 none 3 := ⟨ml_X6_81, cd_X6_put, iw_X6, by decide +kernel⟩
theorem im_X6_put : Cond.instanceMethod yX6_put ∈ Tg := Tg_of (i := 412) (by decide +kernel) (by decide +kernel)
theorem se_X6_X6_put : Cond.selects RX6 yX6_put yX6_put ∈ Tg := Tg_of (i := 413) (by decide +kernel) (by decide +kernel)
section M_X6_putAt
variable {p : Program} {l : Launch} {e : Env} {s : State} {m : MethodId} {args : Array Value} {below : List Frame} {meth : Method} {c : Code} {G : GG} {o : Except Nat Unit} {hs' : Hs}
end M_X6_putAt
def f_X6_putAt (a0 : Nat) (p1 : Option Nat) (p2 : Int32) : OO Unit :=
    dvz (8 : Int32) (
    lets (irem p2 (8 : Int32)) fun (v1 : Int32) =>
    (if p2 < 0 then
    rtn ()
    else
    dvz (8 : Int32) (
    (if (30 : Int32) ≤ (p2 / (8 : Int32)) then
    rtn ()
    else
    gR (some a0) 9 0 fun v2 =>
    rcv v2 2 fun r9 => call (f_Jx4a65c_size_8abf5 r9 ) (fun (v3 : Int32) =>
    (if v3 ≤ v1 then
    rtn ()
    else
    dvz (8 : Int32) (
    gR (some a0) 9 0 fun v4 =>
    rcv v4 2 fun r8 => call (f_Jx4a65c_get_915e3 r8 v1) (fun (v5 : Option Nat) =>
    cst v5 8 (
    rcv (some a0) 9 fun r7 => call (f_X6_put r7 p1 (p2 / (8 : Int32)) v5) (fun (v6 : Unit) =>
    rtn ()) nox)) nox))) nox))))
set_option maxRecDepth 100000 in
set_option maxHeartbeats 4000000 in
theorem m_X6_putAt {G : GG} {l : Launch} {a0 : Nat} {p1 : Option Nat} {p2 : Int32} {hs hs' : Hs} {o : Except Nat Unit} (h : f_X6_putAt a0 p1 p2 hs = some (o, hs')) : CT G l yX6_putAt cX6_putAt 4 none 5 109 0 0 [.ref a0, va_rf p1, .int p2] hs o hs' tvV := by
  refine vx_ofW (cc := cX6_putAt) (maxL := 4) (ret := none) (by decide +kernel) rfl ?_
  intro p e s m args below meth c s₁ B hml hxt hv
  obtain ⟨hav, hR, hKn⟩ := hv
  subst hav
  have hts := atoms_spec (ws := .code yX6_putAt cX6_putAt 4 none :: Tg) B.pre
  have C : Cx G l p s m _ c RX6 cX6_putAt 4 := ⟨B.exec, B.bytes, hml, findClass_of_methodNamed B.named, fun w hw => hts w (List.mem_cons_of_mem _ hw), hKn, fun q hq => Nat.le_trans hR.2.2.1 hq⟩
  have C2 : Cy meth c none := ⟨B.returns, B.notSynchronized, hxt⟩
  have key : WG G p l e { frames := 5, cells := 0, slots := 0, locals := 109 } s m ([.ref a0, va_rf p1, .int p2] : List Value).toArray below meth c 4 0 0 (vx_MQ below (QcT G o hs' tvV) (XCT G o hs') ([.ref a0, va_rf p1, .int p2] : List Value).toArray s 0 0 (gA G)) hs [(0, va_rf (some a0)), (1, va_rf p1), (2, .int p2)] [] 0 := by
    unfold f_X6_putAt at h
    refine q_iload_n C 2 dX6_putAt_0 rfl ?_
    refine q_bipush C (8 : Int32) dX6_putAt_1 (by decide) ?_
    refine q_irem C dX6_putAt_3 h (fun h => ?_)
    refine q_istore_n C (fun v1 => [(3, .int v1), (0, va_rf (some a0)), (1, va_rf p1), (2, .int p2)]) dX6_putAt_4 (by decide) (fun _ => rfl) h (fun v1 h => ?_)
    refine q_iload_n C 3 dX6_putAt_5 rfl ?_
    refine q_if_lt C 49 dX6_putAt_6 (by decide) h (fun h => ?_) (fun h => ?_)
    · exact q_vret C C2 rfl (Nat.le_of_ble_eq_true rfl) (Nat.le_of_ble_eq_true rfl) dX6_putAt_49 h
    · refine q_iload_n C 3 dX6_putAt_9 rfl ?_
      refine q_bipush C (8 : Int32) dX6_putAt_10 (by decide) ?_
      refine q_idiv C dX6_putAt_12 h (fun h => ?_)
      refine q_bipush C (30 : Int32) dX6_putAt_13 (by decide) ?_
      refine q_icmp_ge C 49 dX6_putAt_15 (by decide) h (fun h => ?_) (fun h => ?_)
      · exact q_vret C C2 rfl (Nat.le_of_ble_eq_true rfl) (Nat.le_of_ble_eq_true rfl) dX6_putAt_49 h
      · refine q_iload_n C 0 dX6_putAt_18 rfl ?_
        refine q_aload_n C 1 dX6_putAt_19 rfl ?_
        refine q_gR C fl_X6_12 dX6_putAt_20 h (fun v2 h => ?_)
        refine q_callV C (CN := RJx4a65c) (T := TJx4a65c) (N := 3) [] [.int v1] (fun a0 o2 hs1 hm => m_Jx4a65c_size_8abf5 hm) lk_X6_52 im_Jx4a65c_size_8abf5 se_Jx4a65c_Jx4a65c_size_8abf5 rfl ⟨(Nat.le_of_ble_eq_true rfl), (Nat.le_of_ble_eq_true rfl)⟩ ⟨(Nat.le_of_ble_eq_true rfl), (Nat.le_of_ble_eq_true rfl)⟩ rfl rfl (by simp only [List.map, cat_rf, cat_i, cat_a]; decide) dX6_putAt_23 h (fun v3 hs h => WG_st (st' := [.int v3, .int v1]) rfl ?_)
        refine q_icmp_ge C 49 dX6_putAt_26 (by decide) h (fun h => ?_) (fun h => ?_)
        · exact q_vret C C2 rfl (Nat.le_of_ble_eq_true rfl) (Nat.le_of_ble_eq_true rfl) dX6_putAt_49 h
        · refine q_aload_n C 1 dX6_putAt_29 rfl ?_
          refine q_aload_n C 2 dX6_putAt_30 rfl ?_
          refine q_iload_n C 3 dX6_putAt_31 rfl ?_
          refine q_bipush C (8 : Int32) dX6_putAt_32 (by decide) ?_
          refine q_idiv C dX6_putAt_34 h (fun h => ?_)
          refine q_aload_n C 1 dX6_putAt_35 rfl ?_
          refine q_gR C fl_X6_12 dX6_putAt_36 h (fun v4 h => ?_)
          refine q_iload_n C 0 dX6_putAt_39 rfl ?_
          refine q_callV C (CN := RJx4a65c) (T := TJx4a65c) (N := 3) [.int v1] [.int (p2 / (8 : Int32)), va_rf p1, va_rf (some a0)] (fun a0 o2 hs1 hm => m_Jx4a65c_get_915e3 hm) lk_X6_56 im_Jx4a65c_get_915e3 se_Jx4a65c_Jx4a65c_get_915e3 rfl ⟨(Nat.le_of_ble_eq_true rfl), (Nat.le_of_ble_eq_true rfl)⟩ ⟨(Nat.le_of_ble_eq_true rfl), (Nat.le_of_ble_eq_true rfl)⟩ rfl rfl (by simp only [List.map, cat_rf, cat_i, cat_a]; decide) dX6_putAt_40 h (fun v5 hs h => WG_st (st' := [va_rf v5, .int (p2 / (8 : Int32)), va_rf p1, va_rf (some a0)]) rfl ?_)
          refine q_castS C (nm := RX5) (T := TX5) (N := 5) rfl wc_X6_79 dX6_putAt_43 h (fun h => ?_)
          refine q_callV C (CN := RX6) (T := TX6) (N := 6) [va_rf p1, .int (p2 / (8 : Int32)), va_rf v5] [] (fun a0 o2 hs1 hm => m_X6_put hm) lk_X6_81 im_X6_put se_X6_X6_put rfl ⟨(Nat.le_of_ble_eq_true rfl), (Nat.le_of_ble_eq_true rfl)⟩ ⟨(Nat.le_of_ble_eq_true rfl), (Nat.le_of_ble_eq_true rfl)⟩ rfl rfl (by decide) dX6_putAt_46 h (fun v6 hs h => WG_st (st' := []) rfl ?_)
          exact q_vret C C2 rfl (Nat.le_of_ble_eq_true rfl) (Nat.le_of_ble_eq_true rfl) dX6_putAt_49 h
  rw [lg_entry_eq]
  cases p1 <;> exact key _ _ _ hR va_S.rf ⟨lv_entry _ (n := 4) (Nat.le_of_ble_eq_true rfl), (c1_r (c1_r (c1_i c1_n)))⟩

theorem cd_X4_barredByOneOf : Cond.code yX4_barredByOneOf cX4_barredByOneOf 6 (some .int) ∈ Tg := Tg_of (i := 439) (by decide +kernel) (by decide +kernel)
section M_X4_barredByOneOf
variable {p : Program} {l : Launch} {e : Env} {s : State} {m : MethodId} {args : Array Value} {below : List Frame} {meth : Method} {c : Code} {G : GG} {o : Except Nat Int32} {hs' : Hs}
def L_X4_barredByOneOf_6 (a0 : Option Nat) (a2 : Int32) (a3 : Option Nat) (k_6_30 : Int32 → OO Int32) : Nat → Int32 → Int32 → OO Int32
  | 0, _, _ => failO
  | n + 1, x4, x5 =>
    (if a2 ≤ x5 then
    k_6_30 x4
    else
    rcv a0 7 fun r6 => call (f_X4_barredBy r6 x5 a3) (fun (v3 : Int32) =>
    lets (x4 ||| v3) fun (v4 : Int32) =>
    lets (x5 + (1 : Int32)) fun (v5 : Int32) =>
    (L_X4_barredByOneOf_6 a0 a2 a3 k_6_30 n) v4 v5) nox)
set_option maxRecDepth 100000 in
set_option maxHeartbeats 4000000 in
theorem w_L_X4_barredByOneOf_6 (C : Cx G l p s m args c RX4 cX4_barredByOneOf 6) (C2 : Cy meth c (some .int)) (a0 : Option Nat) (a2 : Int32) (a3 : Option Nat) (k_6_30 : Int32 → OO Int32) (hk_6_30 : ∀ (y4 : Int32) hs, k_6_30 y4 hs = some (o, hs') → WG G p l e { frames := 2, cells := 0, slots := 0, locals := 43 } s m args below meth c 6 0 0 (vx_MQ below (QcT G o hs' tvI) (XCT G o hs') args s 0 0 (gA G)) hs [(4, .int y4)] [] 30) : ∀ (n : Nat) (x4 : Int32) (x5 : Int32) (hs : Hs), L_X4_barredByOneOf_6 a0 a2 a3 k_6_30 n x4 x5 hs = some (o, hs') → WG G p l e { frames := 2, cells := 0, slots := 0, locals := 43 } s m args below meth c 6 0 0 (vx_MQ below (QcT G o hs' tvI) (XCT G o hs') args s 0 0 (gA G)) hs [(0, va_rf a0), (2, .int a2), (3, va_rf a3), (4, .int x4), (5, .int x5)] [] 6 := by
  intro n
  induction n with
  | zero =>
    intro x4 x5 hs h
    rw [L_X4_barredByOneOf_6] at h
    exact absurd h failO_e
  | succ n hrec_6 =>
    intro x4 x5 hs h
    rw [L_X4_barredByOneOf_6] at h
    refine q_iload C 4 dX4_barredByOneOf_6 rfl ?_
    refine q_iload_n C 1 dX4_barredByOneOf_8 rfl ?_
    refine q_icmp_ge C 30 dX4_barredByOneOf_9 (by decide) h (fun h => ?_) (fun h => ?_)
    · refine WG.sub [3] rfl ?_
      exact hk_6_30 _ _ h
    · refine q_iload C 3 dX4_barredByOneOf_12 rfl ?_
      refine q_aload_n C 0 dX4_barredByOneOf_14 rfl ?_
      refine q_iload C 4 dX4_barredByOneOf_15 rfl ?_
      refine q_aload_n C 2 dX4_barredByOneOf_17 rfl ?_
      refine q_callV C (CN := RX4) (T := TX4) (N := 18) [.int x5, va_rf a3] [.int x4] (fun a0 o2 hs1 hm => m_X4_barredBy hm) lk_X4_127 im_X4_barredBy se_X4_X4_barredBy rfl ⟨(Nat.le_of_ble_eq_true rfl), (Nat.le_of_ble_eq_true rfl)⟩ ⟨(Nat.le_of_ble_eq_true rfl), (Nat.le_of_ble_eq_true rfl)⟩ rfl rfl (by simp only [List.map, cat_rf, cat_i, cat_a]; decide) dX4_barredByOneOf_18 h (fun v3 hs h => WG_st (st' := [.int v3, .int x4]) rfl ?_)
      refine q_ior C dX4_barredByOneOf_21 ?_
      refine q_istore C (fun v4 => [(4, .int v4), (0, va_rf a0), (2, .int a2), (3, va_rf a3), (5, .int x5)]) dX4_barredByOneOf_22 (by decide) (fun _ => rfl) h (fun v4 h => ?_)
      refine q_iinc C 4 (1 : Int32) (fun v5 => [(5, .int v5), (4, .int v4), (0, va_rf a0), (2, .int a2), (3, va_rf a3)]) dX4_barredByOneOf_24 rfl (by decide) (by decide) (fun _ => rfl) h (fun v5 h => ?_)
      refine q_goto C 6 dX4_barredByOneOf_27 (by decide) ?_
      refine WG.sub [2, 3, 4, 1, 0] rfl ?_
      exact hrec_6 _ _ _ h
end M_X4_barredByOneOf
def f_X4_barredByOneOf (a0 : Nat) (p1 : Int32) (p2 : Int32) (p3 : Option Nat) : OO Int32 :=
    lets (0 : Int32) fun (v1 : Int32) =>
    lets p1 fun (v2 : Int32) =>
    L_X4_barredByOneOf_6 (some a0) p2 p3 (fun (v7 : Int32) => rtn v7) 100000 v1 v2
set_option maxRecDepth 100000 in
set_option maxHeartbeats 4000000 in
theorem m_X4_barredByOneOf {G : GG} {l : Launch} {a0 : Nat} {p1 : Int32} {p2 : Int32} {p3 : Option Nat} {hs hs' : Hs} {o : Except Nat Int32} (h : f_X4_barredByOneOf a0 p1 p2 p3 hs = some (o, hs')) : CT G l yX4_barredByOneOf cX4_barredByOneOf 6 (some .int) 2 43 0 0 [.ref a0, .int p1, .int p2, va_rf p3] hs o hs' tvI := by
  refine vx_ofW (cc := cX4_barredByOneOf) (maxL := 6) (ret := (some .int)) (by decide +kernel) rfl ?_
  intro p e s m args below meth c s₁ B hml hxt hv
  obtain ⟨hav, hR, hKn⟩ := hv
  subst hav
  have hts := atoms_spec (ws := .code yX4_barredByOneOf cX4_barredByOneOf 6 (some .int) :: Tg) B.pre
  have C : Cx G l p s m _ c RX4 cX4_barredByOneOf 6 := ⟨B.exec, B.bytes, hml, findClass_of_methodNamed B.named, fun w hw => hts w (List.mem_cons_of_mem _ hw), hKn, fun q hq => Nat.le_trans hR.2.2.1 hq⟩
  have C2 : Cy meth c (some .int) := ⟨B.returns, B.notSynchronized, hxt⟩
  have key : WG G p l e { frames := 2, cells := 0, slots := 0, locals := 43 } s m ([.ref a0, .int p1, .int p2, va_rf p3] : List Value).toArray below meth c 6 0 0 (vx_MQ below (QcT G o hs' tvI) (XCT G o hs') ([.ref a0, .int p1, .int p2, va_rf p3] : List Value).toArray s 0 0 (gA G)) hs [(0, va_rf (some a0)), (1, .int p1), (2, .int p2), (3, va_rf p3)] [] 0 := by
    unfold f_X4_barredByOneOf at h
    refine q_iconst C (0 : Int32) dX4_barredByOneOf_0 (by decide) ?_
    refine q_istore C (fun v1 => [(4, .int v1), (0, va_rf (some a0)), (1, .int p1), (2, .int p2), (3, va_rf p3)]) dX4_barredByOneOf_1 (by decide) (fun _ => rfl) h (fun v1 h => ?_)
    refine q_iload_n C 2 dX4_barredByOneOf_3 rfl ?_
    refine q_istore C (fun v2 => [(5, .int v2), (4, .int v1), (0, va_rf (some a0)), (1, .int p1), (2, .int p2), (3, va_rf p3)]) dX4_barredByOneOf_4 (by decide) (fun _ => rfl) h (fun v2 h => ?_)
    refine WG.sub [2, 4, 5, 1, 0] rfl ?_
    refine w_L_X4_barredByOneOf_6 C C2 _ _ _ _ ?_ _ _ _ _ h
    · intro v7 hs h
      refine q_iload C 0 dX4_barredByOneOf_30 rfl ?_
      exact q_iret C C2 rfl (Nat.le_of_ble_eq_true rfl) (Nat.le_of_ble_eq_true rfl) dX4_barredByOneOf_32 h
  rw [lg_entry_eq]
  cases p3 <;> exact key _ _ _ hR va_S.rf ⟨lv_entry _ (n := 6) (Nat.le_of_ble_eq_true rfl), (c1_r (c1_i (c1_i (c1_r c1_n))))⟩

theorem cd_X1_openSlots : Cond.code yX1_openSlots cX1_openSlots 2 (some .int) ∈ Tg := Tg_of (i := 434) (by decide +kernel) (by decide +kernel)
theorem kc_X1_119 : Cond.constant RX1 119 (1073741823) ∈ Tg := Tg_of (i := 435) (by decide +kernel) (by decide +kernel)
theorem ml_X1_115 : Cond.methodLink RX1 115 yX4_barredByOneOf ∈ Tg := Tg_of (i := 436) (by decide +kernel) (by decide +kernel)
theorem lk_X1_115 : Lk RX1 115 yX4_barredByOneOf cX4_barredByOneOf 6 (some .int) 3 := ⟨ml_X1_115, cd_X4_barredByOneOf, iw_X4, by decide +kernel⟩
theorem im_X4_barredByOneOf : Cond.instanceMethod yX4_barredByOneOf ∈ Tg := Tg_of (i := 437) (by decide +kernel) (by decide +kernel)
theorem se_X4_X4_barredByOneOf : Cond.selects RX4 yX4_barredByOneOf yX4_barredByOneOf ∈ Tg := Tg_of (i := 438) (by decide +kernel) (by decide +kernel)
section M_X1_openSlots
variable {p : Program} {l : Launch} {e : Env} {s : State} {m : MethodId} {args : Array Value} {below : List Frame} {meth : Method} {c : Code} {G : GG} {o : Except Nat Int32} {hs' : Hs}
end M_X1_openSlots
def f_X1_openSlots (p0 : Option Nat) (p1 : Option Nat) : OO Int32 :=
    rcv p0 7 fun r2 => call (f_X4_barredByOneOf r2 (0 : Int32) (6 : Int32) p1) (fun (v1 : Int32) =>
    rtn (((1073741823 : Int32) &&& (v1 ^^^ (-1 : Int32))))) nox
set_option maxRecDepth 100000 in
set_option maxHeartbeats 4000000 in
theorem m_X1_openSlots {G : GG} {l : Launch} {p0 : Option Nat} {p1 : Option Nat} {hs hs' : Hs} {o : Except Nat Int32} (h : f_X1_openSlots p0 p1 hs = some (o, hs')) : CT G l yX1_openSlots cX1_openSlots 2 (some .int) 3 68 0 0 [va_rf p0, va_rf p1] hs o hs' tvI := by
  refine vx_ofW (cc := cX1_openSlots) (maxL := 2) (ret := (some .int)) (by decide +kernel) rfl ?_
  intro p e s m args below meth c s₁ B hml hxt hv
  obtain ⟨hav, hR, hKn⟩ := hv
  subst hav
  have hts := atoms_spec (ws := .code yX1_openSlots cX1_openSlots 2 (some .int) :: Tg) B.pre
  have C : Cx G l p s m _ c RX1 cX1_openSlots 2 := ⟨B.exec, B.bytes, hml, findClass_of_methodNamed B.named, fun w hw => hts w (List.mem_cons_of_mem _ hw), hKn, fun q hq => Nat.le_trans hR.2.2.1 hq⟩
  have C2 : Cy meth c (some .int) := ⟨B.returns, B.notSynchronized, hxt⟩
  have key : WG G p l e { frames := 3, cells := 0, slots := 0, locals := 68 } s m ([va_rf p0, va_rf p1] : List Value).toArray below meth c 2 0 0 (vx_MQ below (QcT G o hs' tvI) (XCT G o hs') ([va_rf p0, va_rf p1] : List Value).toArray s 0 0 (gA G)) hs [(0, va_rf p0), (1, va_rf p1)] [] 0 := by
    unfold f_X1_openSlots at h
    refine q_ldc C kc_X1_119 dX1_openSlots_0 ?_
    refine q_aload_n C 0 dX1_openSlots_2 rfl ?_
    refine q_iconst C (0 : Int32) dX1_openSlots_3 (by decide) ?_
    refine q_bipush C (6 : Int32) dX1_openSlots_4 (by decide) ?_
    refine q_aload_n C 1 dX1_openSlots_6 rfl ?_
    refine q_callV C (CN := RX4) (T := TX4) (N := 18) [.int (0 : Int32), .int (6 : Int32), va_rf p1] [.int (1073741823 : Int32)] (fun a0 o2 hs1 hm => m_X4_barredByOneOf hm) lk_X1_115 im_X4_barredByOneOf se_X4_X4_barredByOneOf rfl ⟨(Nat.le_of_ble_eq_true rfl), (Nat.le_of_ble_eq_true rfl)⟩ ⟨(Nat.le_of_ble_eq_true rfl), (Nat.le_of_ble_eq_true rfl)⟩ rfl rfl (by simp only [List.map, cat_rf, cat_i, cat_a]; decide) dX1_openSlots_7 h (fun v1 hs h => WG_st (st' := [.int v1, .int (1073741823 : Int32)]) rfl ?_)
    refine q_iconst C (-1 : Int32) dX1_openSlots_10 (by decide) ?_
    refine q_ixor C dX1_openSlots_11 ?_
    refine q_iand C dX1_openSlots_12 ?_
    exact q_iret C C2 rfl (Nat.le_of_ble_eq_true rfl) (Nat.le_of_ble_eq_true rfl) dX1_openSlots_13 h
  rw [lg_entry_eq]
  cases p0 <;> cases p1 <;> exact key _ _ _ hR va_S.rf ⟨lv_entry _ (n := 2) (Nat.le_of_ble_eq_true rfl), (c1_r (c1_r c1_n))⟩

