theorem cd_X9_manyPossible : Cond.code yX9_manyPossible cX9_manyPossible 4 (some .int) ∈ Tg := Tg_of (i := 1777) (by decide +kernel) (by decide +kernel)
theorem ml_X9_193 : Cond.methodLink RX9 193 yX9_isPossible ∈ Tg := Tg_of (i := 1778) (by decide +kernel) (by decide +kernel)
theorem lk_X9_193 : Lk RX9 193 yX9_isPossible cX9_isPossible 3 (some .boolean) 2 := ⟨ml_X9_193, cd_X9_isPossible, iw_X9, by decide +kernel⟩
theorem im_X9_isPossible : Cond.instanceMethod yX9_isPossible ∈ Tg := Tg_of (i := 1780) (by decide +kernel) (by decide +kernel)
theorem se_X9_X9_isPossible : Cond.selects RX9 yX9_isPossible yX9_isPossible ∈ Tg := Tg_of (i := 65) (by decide +kernel) (by decide +kernel)
section M_X9_manyPossible
variable {p : Program} {l : Launch} {e : Env} {s : State} {m : MethodId} {args : Array Value} {below : List Frame} {meth : Method} {c : Code} {G : GG} {o : Except Nat Int32} {hs' : Hs}
def j_X9_manyPossible_26 (a0 : Option Nat) (a1 : Int32) (a3 : Int32) (s0 : Int32) (s1 : Int32) (rec_4 : Int32 → Int32 → OO Int32) : OO Int32 :=
  lets (s1 + s0) fun (v4 : Int32) =>
    lets (a3 + (1 : Int32)) fun (v5 : Int32) =>
    rec_4 v4 v5
set_option maxRecDepth 100000 in
set_option maxHeartbeats 4000000 in
theorem w_j_X9_manyPossible_26 (C : Cx G l p s m args c RX9 cX9_manyPossible 4) (C2 : Cy meth c (some .int)) {hs : Hs} (a0 : Option Nat) (a1 : Int32) (a3 : Int32) (s0 : Int32) (s1 : Int32) (rec_4 : Int32 → Int32 → OO Int32) (hrec_4 : ∀ (y2 : Int32) (y3 : Int32) hs, rec_4 y2 y3 hs = some (o, hs') → WG G p l e { frames := 6, cells := 0, slots := 0, locals := 140 } s m args below meth c 4 0 0 (vx_MQ below (QcT G o hs' tvI) (XCT G o hs') args s 0 0 (gA G)) hs [(0, va_rf a0), (1, .int a1), (2, .int y2), (3, .int y3)] [] 4) (h : j_X9_manyPossible_26 a0 a1 a3 s0 s1 rec_4 hs = some (o, hs')) : WG G p l e { frames := 6, cells := 0, slots := 0, locals := 140 } s m args below meth c 4 0 0 (vx_MQ below (QcT G o hs' tvI) (XCT G o hs') args s 0 0 (gA G)) hs [(0, va_rf a0), (1, .int a1), (3, .int a3)] [.int s0, .int s1] 26 := by
  unfold j_X9_manyPossible_26 at h
  refine q_iadd C dX9_manyPossible_26 ?_
  refine q_istore_n C (fun v4 => [(2, .int v4), (0, va_rf a0), (1, .int a1), (3, .int a3)]) dX9_manyPossible_27 (by decide) (fun _ => rfl) h (fun v4 h => ?_)
  refine q_iinc C 3 (1 : Int32) (fun v5 => [(3, .int v5), (2, .int v4), (0, va_rf a0), (1, .int a1)]) dX9_manyPossible_28 rfl (by decide) (by decide) (fun _ => rfl) h (fun v5 h => ?_)
  refine q_goto C 4 dX9_manyPossible_31 (by decide) ?_
  refine WG.sub [2, 3, 1, 0] rfl ?_
  exact hrec_4 _ _ _ h
def L_X9_manyPossible_4 (a0 : Option Nat) (a1 : Int32) (k_4_34 : Int32 → OO Int32) : Nat → Int32 → Int32 → OO Int32
  | 0, _, _ => failO
  | n + 1, x2, x3 =>
    (if (240 : Int32) ≤ x3 then
    k_4_34 x2
    else
    rcv a0 12 fun r6 => call (f_X9_isPossible r6 a1 x3) (fun (v3 : Int32) =>
    (if v3 = 0 then
    j_X9_manyPossible_26 a0 a1 x3 (0 : Int32) x2 (L_X9_manyPossible_4 a0 a1 k_4_34 n)
    else
    j_X9_manyPossible_26 a0 a1 x3 (1 : Int32) x2 (L_X9_manyPossible_4 a0 a1 k_4_34 n))) nox)
set_option maxRecDepth 100000 in
set_option maxHeartbeats 4000000 in
theorem w_L_X9_manyPossible_4 (C : Cx G l p s m args c RX9 cX9_manyPossible 4) (C2 : Cy meth c (some .int)) (a0 : Option Nat) (a1 : Int32) (k_4_34 : Int32 → OO Int32) (hk_4_34 : ∀ (y2 : Int32) hs, k_4_34 y2 hs = some (o, hs') → WG G p l e { frames := 6, cells := 0, slots := 0, locals := 140 } s m args below meth c 4 0 0 (vx_MQ below (QcT G o hs' tvI) (XCT G o hs') args s 0 0 (gA G)) hs [(2, .int y2)] [] 34) : ∀ (n : Nat) (x2 : Int32) (x3 : Int32) (hs : Hs), L_X9_manyPossible_4 a0 a1 k_4_34 n x2 x3 hs = some (o, hs') → WG G p l e { frames := 6, cells := 0, slots := 0, locals := 140 } s m args below meth c 4 0 0 (vx_MQ below (QcT G o hs' tvI) (XCT G o hs') args s 0 0 (gA G)) hs [(0, va_rf a0), (1, .int a1), (2, .int x2), (3, .int x3)] [] 4 := by
  intro n
  induction n with
  | zero =>
    intro x2 x3 hs h
    rw [L_X9_manyPossible_4] at h
    exact absurd h failO_e
  | succ n hrec_4 =>
    intro x2 x3 hs h
    rw [L_X9_manyPossible_4] at h
    refine q_iload_n C 3 dX9_manyPossible_4 rfl ?_
    refine q_sipush C (240 : Int32) dX9_manyPossible_5 (by decide) ?_
    refine q_icmp_ge C 34 dX9_manyPossible_8 (by decide) h (fun h => ?_) (fun h => ?_)
    · refine WG.sub [2] rfl ?_
      exact hk_4_34 _ _ h
    · refine q_iload_n C 2 dX9_manyPossible_11 rfl ?_
      refine q_aload_n C 0 dX9_manyPossible_12 rfl ?_
      refine q_iload_n C 1 dX9_manyPossible_13 rfl ?_
      refine q_iload_n C 3 dX9_manyPossible_14 rfl ?_
      refine q_callV C (CN := RX9) (T := TX9) (N := 28) [.int a1, .int x3] [.int x2] (fun a0 o2 hs1 hm => m_X9_isPossible hm) lk_X9_193 im_X9_isPossible se_X9_X9_isPossible rfl ⟨(Nat.le_of_ble_eq_true rfl), (Nat.le_of_ble_eq_true rfl)⟩ ⟨(Nat.le_of_ble_eq_true rfl), (Nat.le_of_ble_eq_true rfl)⟩ rfl rfl (by simp only [List.map, cat_rf, cat_i, cat_a]; decide) dX9_manyPossible_15 h (fun v3 hs h => WG_st (st' := [.int v3, .int x2]) rfl ?_)
      refine q_if_eq C 25 dX9_manyPossible_18 (by decide) h (fun h => ?_) (fun h => ?_)
      · refine q_iconst C (0 : Int32) dX9_manyPossible_25 (by decide) ?_
        refine WG.sub [0, 1, 3] rfl ?_
        exact w_j_X9_manyPossible_26 C C2 _ _ _ _ _ _ hrec_4 h
      · refine q_iconst C (1 : Int32) dX9_manyPossible_21 (by decide) ?_
        refine q_goto C 26 dX9_manyPossible_22 (by decide) ?_
        refine WG.sub [0, 1, 3] rfl ?_
        exact w_j_X9_manyPossible_26 C C2 _ _ _ _ _ _ hrec_4 h
end M_X9_manyPossible
def f_X9_manyPossible (a0 : Nat) (p1 : Int32) : OO Int32 :=
    lets (0 : Int32) fun (v1 : Int32) =>
    lets (0 : Int32) fun (v2 : Int32) =>
    L_X9_manyPossible_4 (some a0) p1 (fun (v7 : Int32) => rtn v7) 100000 v1 v2
set_option maxRecDepth 100000 in
set_option maxHeartbeats 4000000 in
theorem m_X9_manyPossible {G : GG} {l : Launch} {a0 : Nat} {p1 : Int32} {hs hs' : Hs} {o : Except Nat Int32} (h : f_X9_manyPossible a0 p1 hs = some (o, hs')) : CT G l yX9_manyPossible cX9_manyPossible 4 (some .int) 6 140 0 0 [.ref a0, .int p1] hs o hs' tvI := by
  refine vx_ofW (cc := cX9_manyPossible) (maxL := 4) (ret := (some .int)) (by decide +kernel) rfl ?_
  intro p e s m args below meth c s₁ B hml hxt hv
  obtain ⟨hav, hR, hKn⟩ := hv
  subst hav
  have hts := atoms_spec (ws := .code yX9_manyPossible cX9_manyPossible 4 (some .int) :: Tg) B.pre
  have C : Cx G l p s m _ c RX9 cX9_manyPossible 4 := ⟨B.exec, B.bytes, hml, findClass_of_methodNamed B.named, fun w hw => hts w (List.mem_cons_of_mem _ hw), hKn, fun q hq => Nat.le_trans hR.2.2.1 hq⟩
  have C2 : Cy meth c (some .int) := ⟨B.returns, B.notSynchronized, hxt⟩
  have key : WG G p l e { frames := 6, cells := 0, slots := 0, locals := 140 } s m ([.ref a0, .int p1] : List Value).toArray below meth c 4 0 0 (vx_MQ below (QcT G o hs' tvI) (XCT G o hs') ([.ref a0, .int p1] : List Value).toArray s 0 0 (gA G)) hs [(0, va_rf (some a0)), (1, .int p1)] [] 0 := by
    unfold f_X9_manyPossible at h
    refine q_iconst C (0 : Int32) dX9_manyPossible_0 (by decide) ?_
    refine q_istore_n C (fun v1 => [(2, .int v1), (0, va_rf (some a0)), (1, .int p1)]) dX9_manyPossible_1 (by decide) (fun _ => rfl) h (fun v1 h => ?_)
    refine q_iconst C (0 : Int32) dX9_manyPossible_2 (by decide) ?_
    refine q_istore_n C (fun v2 => [(3, .int v2), (2, .int v1), (0, va_rf (some a0)), (1, .int p1)]) dX9_manyPossible_3 (by decide) (fun _ => rfl) h (fun v2 h => ?_)
    refine WG.sub [2, 3, 1, 0] rfl ?_
    refine w_L_X9_manyPossible_4 C C2 _ _ _ ?_ _ _ _ _ h
    · intro v7 hs h
      refine q_iload_n C 0 dX9_manyPossible_34 rfl ?_
      exact q_iret C C2 rfl (Nat.le_of_ble_eq_true rfl) (Nat.le_of_ble_eq_true rfl) dX9_manyPossible_35 h
  rw [lg_entry_eq]
  exact key _ _ _ hR va_S.rf ⟨lv_entry _ (n := 4) (Nat.le_of_ble_eq_true rfl), (c1_r (c1_i c1_n))⟩

theorem cd_X9_cheapestOf : Cond.code yX9_cheapestOf cX9_cheapestOf 6 (some .int) ∈ Tg := Tg_of (i := 1793) (by decide +kernel) (by decide +kernel)
theorem ml_X9_196 : Cond.methodLink RX9 196 yX9_costAt ∈ Tg := Tg_of (i := 1794) (by decide +kernel) (by decide +kernel)
theorem lk_X9_196 : Lk RX9 196 yX9_costAt cX9_costAt 5 (some .int) 2 := ⟨ml_X9_196, cd_X9_costAt, iw_X9, by decide +kernel⟩
theorem im_X9_costAt : Cond.instanceMethod yX9_costAt ∈ Tg := Tg_of (i := 1796) (by decide +kernel) (by decide +kernel)
theorem se_X9_X9_costAt : Cond.selects RX9 yX9_costAt yX9_costAt ∈ Tg := Tg_of (i := 67) (by decide +kernel) (by decide +kernel)
section M_X9_cheapestOf
variable {p : Program} {l : Launch} {e : Env} {s : State} {m : MethodId} {args : Array Value} {below : List Frame} {meth : Method} {c : Code} {G : GG} {o : Except Nat Int32} {hs' : Hs}
def j_X9_cheapestOf_56 (a0 : Option Nat) (a1 : Int32) (a2 : Int32) (a3 : Int32) (a4 : Int32)  (rec_7 : Int32 → Int32 → Int32 → OO Int32) : OO Int32 :=
  lets (a4 + (1 : Int32)) fun (v9 : Int32) =>
    rec_7 a2 a3 v9
set_option maxRecDepth 100000 in
set_option maxHeartbeats 4000000 in
theorem w_j_X9_cheapestOf_56 (C : Cx G l p s m args c RX9 cX9_cheapestOf 6) (C2 : Cy meth c (some .int)) {hs : Hs} (a0 : Option Nat) (a1 : Int32) (a2 : Int32) (a3 : Int32) (a4 : Int32)  (rec_7 : Int32 → Int32 → Int32 → OO Int32) (hrec_7 : ∀ (y2 : Int32) (y3 : Int32) (y4 : Int32) hs, rec_7 y2 y3 y4 hs = some (o, hs') → WG G p l e { frames := 8, cells := 0, slots := 0, locals := 182 } s m args below meth c 6 0 0 (vx_MQ below (QcT G o hs' tvI) (XCT G o hs') args s 0 0 (gA G)) hs [(0, va_rf a0), (1, .int a1), (2, .int y2), (3, .int y3), (4, .int y4)] [] 7) (h : j_X9_cheapestOf_56 a0 a1 a2 a3 a4 rec_7 hs = some (o, hs')) : WG G p l e { frames := 8, cells := 0, slots := 0, locals := 182 } s m args below meth c 6 0 0 (vx_MQ below (QcT G o hs' tvI) (XCT G o hs') args s 0 0 (gA G)) hs [(0, va_rf a0), (1, .int a1), (2, .int a2), (3, .int a3), (4, .int a4)] [] 56 := by
  unfold j_X9_cheapestOf_56 at h
  refine q_iinc C 4 (1 : Int32) (fun v9 => [(4, .int v9), (0, va_rf a0), (1, .int a1), (2, .int a2), (3, .int a3)]) dX9_cheapestOf_56 rfl (by decide) (by decide) (fun _ => rfl) h (fun v9 h => ?_)
  refine q_goto C 7 dX9_cheapestOf_59 (by decide) ?_
  refine WG.sub [1, 2, 3, 4, 0] rfl ?_
  exact hrec_7 _ _ _ _ h
def j_X9_cheapestOf_50 (a0 : Option Nat) (a1 : Int32) (a4 : Int32) (a5 : Int32)  (rec_7 : Int32 → Int32 → Int32 → OO Int32) : OO Int32 :=
  lets a4 fun (v7 : Int32) =>
    lets a5 fun (v8 : Int32) =>
    j_X9_cheapestOf_56 a0 a1 v7 v8 a4 rec_7
set_option maxRecDepth 100000 in
set_option maxHeartbeats 4000000 in
theorem w_j_X9_cheapestOf_50 (C : Cx G l p s m args c RX9 cX9_cheapestOf 6) (C2 : Cy meth c (some .int)) {hs : Hs} (a0 : Option Nat) (a1 : Int32) (a4 : Int32) (a5 : Int32)  (rec_7 : Int32 → Int32 → Int32 → OO Int32) (hrec_7 : ∀ (y2 : Int32) (y3 : Int32) (y4 : Int32) hs, rec_7 y2 y3 y4 hs = some (o, hs') → WG G p l e { frames := 8, cells := 0, slots := 0, locals := 182 } s m args below meth c 6 0 0 (vx_MQ below (QcT G o hs' tvI) (XCT G o hs') args s 0 0 (gA G)) hs [(0, va_rf a0), (1, .int a1), (2, .int y2), (3, .int y3), (4, .int y4)] [] 7) (h : j_X9_cheapestOf_50 a0 a1 a4 a5 rec_7 hs = some (o, hs')) : WG G p l e { frames := 8, cells := 0, slots := 0, locals := 182 } s m args below meth c 6 0 0 (vx_MQ below (QcT G o hs' tvI) (XCT G o hs') args s 0 0 (gA G)) hs [(0, va_rf a0), (1, .int a1), (4, .int a4), (5, .int a5)] [] 50 := by
  unfold j_X9_cheapestOf_50 at h
  refine q_iload C 2 dX9_cheapestOf_50 rfl ?_
  refine q_istore_n C (fun v7 => [(2, .int v7), (0, va_rf a0), (1, .int a1), (4, .int a4), (5, .int a5)]) dX9_cheapestOf_52 (by decide) (fun _ => rfl) h (fun v7 h => ?_)
  refine q_iload C 4 dX9_cheapestOf_53 rfl ?_
  refine q_istore_n C (fun v8 => [(3, .int v8), (2, .int v7), (0, va_rf a0), (1, .int a1), (4, .int a4), (5, .int a5)]) dX9_cheapestOf_55 (by decide) (fun _ => rfl) h (fun v8 h => ?_)
  refine WG.sub [2, 3, 1, 0, 4] rfl ?_
  exact w_j_X9_cheapestOf_56 C C2 _ _ _ _ _ _ hrec_7 h
def L_X9_cheapestOf_7 (a0 : Option Nat) (a1 : Int32) (k_7_62 : Int32 → OO Int32) : Nat → Int32 → Int32 → Int32 → OO Int32
  | 0, _, _, _ => failO
  | n + 1, x2, x3, x4 =>
    (if (240 : Int32) ≤ x4 then
    k_7_62 x2
    else
    rcv a0 12 fun r11 => call (f_X9_isPossible r11 a1 x4) (fun (v4 : Int32) =>
    (if ¬ v4 = 0 then
    rcv a0 12 fun r10 => call (f_X9_costAt r10 a1 x4) (fun (v5 : Int32) =>
    lets v5 fun (v6 : Int32) =>
    (if x2 < 0 then
    j_X9_cheapestOf_50 a0 a1 x4 v6 (L_X9_cheapestOf_7 a0 a1 k_7_62 n)
    else
    (if v6 < x3 then
    j_X9_cheapestOf_50 a0 a1 x4 v6 (L_X9_cheapestOf_7 a0 a1 k_7_62 n)
    else
    j_X9_cheapestOf_56 a0 a1 x2 x3 x4 (L_X9_cheapestOf_7 a0 a1 k_7_62 n)))) nox
    else
    j_X9_cheapestOf_56 a0 a1 x2 x3 x4 (L_X9_cheapestOf_7 a0 a1 k_7_62 n))) nox)
set_option maxRecDepth 100000 in
set_option maxHeartbeats 4000000 in
theorem w_L_X9_cheapestOf_7 (C : Cx G l p s m args c RX9 cX9_cheapestOf 6) (C2 : Cy meth c (some .int)) (a0 : Option Nat) (a1 : Int32) (k_7_62 : Int32 → OO Int32) (hk_7_62 : ∀ (y2 : Int32) hs, k_7_62 y2 hs = some (o, hs') → WG G p l e { frames := 8, cells := 0, slots := 0, locals := 182 } s m args below meth c 6 0 0 (vx_MQ below (QcT G o hs' tvI) (XCT G o hs') args s 0 0 (gA G)) hs [(2, .int y2)] [] 62) : ∀ (n : Nat) (x2 : Int32) (x3 : Int32) (x4 : Int32) (hs : Hs), L_X9_cheapestOf_7 a0 a1 k_7_62 n x2 x3 x4 hs = some (o, hs') → WG G p l e { frames := 8, cells := 0, slots := 0, locals := 182 } s m args below meth c 6 0 0 (vx_MQ below (QcT G o hs' tvI) (XCT G o hs') args s 0 0 (gA G)) hs [(0, va_rf a0), (1, .int a1), (2, .int x2), (3, .int x3), (4, .int x4)] [] 7 := by
  intro n
  induction n with
  | zero =>
    intro x2 x3 x4 hs h
    rw [L_X9_cheapestOf_7] at h
    exact absurd h failO_e
  | succ n hrec_7 =>
    intro x2 x3 x4 hs h
    rw [L_X9_cheapestOf_7] at h
    refine q_iload C 4 dX9_cheapestOf_7 rfl ?_
    refine q_sipush C (240 : Int32) dX9_cheapestOf_9 (by decide) ?_
    refine q_icmp_ge C 62 dX9_cheapestOf_12 (by decide) h (fun h => ?_) (fun h => ?_)
    · refine WG.sub [2] rfl ?_
      exact hk_7_62 _ _ h
    · refine q_aload_n C 0 dX9_cheapestOf_15 rfl ?_
      refine q_iload_n C 1 dX9_cheapestOf_16 rfl ?_
      refine q_iload C 4 dX9_cheapestOf_17 rfl ?_
      refine q_callV C (CN := RX9) (T := TX9) (N := 28) [.int a1, .int x4] [] (fun a0 o2 hs1 hm => m_X9_isPossible hm) lk_X9_193 im_X9_isPossible se_X9_X9_isPossible rfl ⟨(Nat.le_of_ble_eq_true rfl), (Nat.le_of_ble_eq_true rfl)⟩ ⟨(Nat.le_of_ble_eq_true rfl), (Nat.le_of_ble_eq_true rfl)⟩ rfl rfl (by decide) dX9_cheapestOf_19 h (fun v4 hs h => WG_st (st' := [.int v4]) rfl ?_)
      refine q_if_ne C 28 dX9_cheapestOf_22 (by decide) h (fun h => ?_) (fun h => ?_)
      · refine q_aload_n C 0 dX9_cheapestOf_28 rfl ?_
        refine q_iload_n C 1 dX9_cheapestOf_29 rfl ?_
        refine q_iload C 4 dX9_cheapestOf_30 rfl ?_
        refine q_callV C (CN := RX9) (T := TX9) (N := 28) [.int a1, .int x4] [] (fun a0 o2 hs1 hm => m_X9_costAt hm) lk_X9_196 im_X9_costAt se_X9_X9_costAt rfl ⟨(Nat.le_of_ble_eq_true rfl), (Nat.le_of_ble_eq_true rfl)⟩ ⟨(Nat.le_of_ble_eq_true rfl), (Nat.le_of_ble_eq_true rfl)⟩ rfl rfl (by decide) dX9_cheapestOf_32 h (fun v5 hs h => WG_st (st' := [.int v5]) rfl ?_)
        refine q_istore C (fun v6 => [(5, .int v6), (0, va_rf a0), (1, .int a1), (2, .int x2), (3, .int x3), (4, .int x4)]) dX9_cheapestOf_35 (by decide) (fun _ => rfl) h (fun v6 h => ?_)
        refine q_iload_n C 3 dX9_cheapestOf_37 rfl ?_
        refine q_if_lt C 50 dX9_cheapestOf_38 (by decide) h (fun h => ?_) (fun h => ?_)
        · refine WG.sub [1, 2, 5, 0] rfl ?_
          exact w_j_X9_cheapestOf_50 C C2 _ _ _ _ _ hrec_7 h
        · refine q_iload C 0 dX9_cheapestOf_41 rfl ?_
          refine q_iload_n C 4 dX9_cheapestOf_43 rfl ?_
          refine q_icmp_lt C 50 dX9_cheapestOf_44 (by decide) h (fun h => ?_) (fun h => ?_)
          · refine WG.sub [1, 2, 5, 0] rfl ?_
            exact w_j_X9_cheapestOf_50 C C2 _ _ _ _ _ hrec_7 h
          · refine q_goto C 56 dX9_cheapestOf_47 (by decide) ?_
            refine WG.sub [1, 2, 3, 4, 5] rfl ?_
            exact w_j_X9_cheapestOf_56 C C2 _ _ _ _ _ _ hrec_7 h
      · refine q_goto C 56 dX9_cheapestOf_25 (by decide) ?_
        exact w_j_X9_cheapestOf_56 C C2 _ _ _ _ _ _ hrec_7 h
end M_X9_cheapestOf
def f_X9_cheapestOf (a0 : Nat) (p1 : Int32) : OO Int32 :=
    lets (-1 : Int32) fun (v1 : Int32) =>
    lets (0 : Int32) fun (v2 : Int32) =>
    lets (0 : Int32) fun (v3 : Int32) =>
    L_X9_cheapestOf_7 (some a0) p1 (fun (v12 : Int32) => rtn v12) 100000 v1 v2 v3
set_option maxRecDepth 100000 in
set_option maxHeartbeats 4000000 in
theorem m_X9_cheapestOf {G : GG} {l : Launch} {a0 : Nat} {p1 : Int32} {hs hs' : Hs} {o : Except Nat Int32} (h : f_X9_cheapestOf a0 p1 hs = some (o, hs')) : CT G l yX9_cheapestOf cX9_cheapestOf 6 (some .int) 8 182 0 0 [.ref a0, .int p1] hs o hs' tvI := by
  refine vx_ofW (cc := cX9_cheapestOf) (maxL := 6) (ret := (some .int)) (by decide +kernel) rfl ?_
  intro p e s m args below meth c s₁ B hml hxt hv
  obtain ⟨hav, hR, hKn⟩ := hv
  subst hav
  have hts := atoms_spec (ws := .code yX9_cheapestOf cX9_cheapestOf 6 (some .int) :: Tg) B.pre
  have C : Cx G l p s m _ c RX9 cX9_cheapestOf 6 := ⟨B.exec, B.bytes, hml, findClass_of_methodNamed B.named, fun w hw => hts w (List.mem_cons_of_mem _ hw), hKn, fun q hq => Nat.le_trans hR.2.2.1 hq⟩
  have C2 : Cy meth c (some .int) := ⟨B.returns, B.notSynchronized, hxt⟩
  have key : WG G p l e { frames := 8, cells := 0, slots := 0, locals := 182 } s m ([.ref a0, .int p1] : List Value).toArray below meth c 6 0 0 (vx_MQ below (QcT G o hs' tvI) (XCT G o hs') ([.ref a0, .int p1] : List Value).toArray s 0 0 (gA G)) hs [(0, va_rf (some a0)), (1, .int p1)] [] 0 := by
    unfold f_X9_cheapestOf at h
    refine q_iconst C (-1 : Int32) dX9_cheapestOf_0 (by decide) ?_
    refine q_istore_n C (fun v1 => [(2, .int v1), (0, va_rf (some a0)), (1, .int p1)]) dX9_cheapestOf_1 (by decide) (fun _ => rfl) h (fun v1 h => ?_)
    refine q_iconst C (0 : Int32) dX9_cheapestOf_2 (by decide) ?_
    refine q_istore_n C (fun v2 => [(3, .int v2), (2, .int v1), (0, va_rf (some a0)), (1, .int p1)]) dX9_cheapestOf_3 (by decide) (fun _ => rfl) h (fun v2 h => ?_)
    refine q_iconst C (0 : Int32) dX9_cheapestOf_4 (by decide) ?_
    refine q_istore C (fun v3 => [(4, .int v3), (3, .int v2), (2, .int v1), (0, va_rf (some a0)), (1, .int p1)]) dX9_cheapestOf_5 (by decide) (fun _ => rfl) h (fun v3 h => ?_)
    refine WG.sub [3, 4, 2, 1, 0] rfl ?_
    refine w_L_X9_cheapestOf_7 C C2 _ _ _ ?_ _ _ _ _ _ h
    · intro v12 hs h
      refine q_iload_n C 0 dX9_cheapestOf_62 rfl ?_
      exact q_iret C C2 rfl (Nat.le_of_ble_eq_true rfl) (Nat.le_of_ble_eq_true rfl) dX9_cheapestOf_63 h
  rw [lg_entry_eq]
  exact key _ _ _ hR va_S.rf ⟨lv_entry _ (n := 6) (Nat.le_of_ble_eq_true rfl), (c1_r (c1_i c1_n))⟩

theorem cd_X9_hardestOf : Cond.code yX9_hardestOf cX9_hardestOf 6 (some .int) ∈ Tg := Tg_of (i := 1813) (by decide +kernel) (by decide +kernel)
theorem ml_X9_199 : Cond.methodLink RX9 199 yX9_manyPossible ∈ Tg := Tg_of (i := 1774) (by decide +kernel) (by decide +kernel)
theorem lk_X9_199 : Lk RX9 199 yX9_manyPossible cX9_manyPossible 4 (some .int) 1 := ⟨ml_X9_199, cd_X9_manyPossible, iw_X9, by decide +kernel⟩
theorem im_X9_manyPossible : Cond.instanceMethod yX9_manyPossible ∈ Tg := Tg_of (i := 1776) (by decide +kernel) (by decide +kernel)
theorem se_X9_X9_manyPossible : Cond.selects RX9 yX9_manyPossible yX9_manyPossible ∈ Tg := Tg_of (i := 64) (by decide +kernel) (by decide +kernel)
section M_X9_hardestOf
variable {p : Program} {l : Launch} {e : Env} {s : State} {m : MethodId} {args : Array Value} {below : List Frame} {meth : Method} {c : Code} {G : GG} {o : Except Nat Int32} {hs' : Hs}
def j_X9_hardestOf_53 (a0 : Option Nat) (a1 : Option Nat) (a2 : Int32) (a3 : Int32) (a4 : Int32)  (rec_7 : Int32 → Int32 → Int32 → OO Int32) : OO Int32 :=
  lets (a4 + (1 : Int32)) fun (v10 : Int32) =>
    rec_7 a2 a3 v10
set_option maxRecDepth 100000 in
set_option maxHeartbeats 4000000 in
theorem w_j_X9_hardestOf_53 (C : Cx G l p s m args c RX9 cX9_hardestOf 6) (C2 : Cy meth c (some .int)) {hs : Hs} (a0 : Option Nat) (a1 : Option Nat) (a2 : Int32) (a3 : Int32) (a4 : Int32)  (rec_7 : Int32 → Int32 → Int32 → OO Int32) (hrec_7 : ∀ (y2 : Int32) (y3 : Int32) (y4 : Int32) hs, rec_7 y2 y3 y4 hs = some (o, hs') → WG G p l e { frames := 7, cells := 0, slots := 0, locals := 163 } s m args below meth c 6 0 0 (vx_MQ below (QcT G o hs' tvI) (XCT G o hs') args s 0 0 (gA G)) hs [(0, va_rf a0), (1, va_rf a1), (2, .int y2), (3, .int y3), (4, .int y4)] [] 7) (h : j_X9_hardestOf_53 a0 a1 a2 a3 a4 rec_7 hs = some (o, hs')) : WG G p l e { frames := 7, cells := 0, slots := 0, locals := 163 } s m args below meth c 6 0 0 (vx_MQ below (QcT G o hs' tvI) (XCT G o hs') args s 0 0 (gA G)) hs [(0, va_rf a0), (1, va_rf a1), (2, .int a2), (3, .int a3), (4, .int a4)] [] 53 := by
  unfold j_X9_hardestOf_53 at h
  refine q_iinc C 4 (1 : Int32) (fun v10 => [(4, .int v10), (0, va_rf a0), (1, va_rf a1), (2, .int a2), (3, .int a3)]) dX9_hardestOf_53 rfl (by decide) (by decide) (fun _ => rfl) h (fun v10 h => ?_)
  refine q_goto C 7 dX9_hardestOf_56 (by decide) ?_
  refine WG.sub [1, 2, 3, 4, 0] rfl ?_
  exact hrec_7 _ _ _ _ h
def j_X9_hardestOf_47 (a0 : Option Nat) (a1 : Option Nat) (a4 : Int32) (a5 : Int32)  (rec_7 : Int32 → Int32 → Int32 → OO Int32) : OO Int32 :=
  lets a4 fun (v8 : Int32) =>
    lets a5 fun (v9 : Int32) =>
    j_X9_hardestOf_53 a0 a1 v8 v9 a4 rec_7
set_option maxRecDepth 100000 in
set_option maxHeartbeats 4000000 in
theorem w_j_X9_hardestOf_47 (C : Cx G l p s m args c RX9 cX9_hardestOf 6) (C2 : Cy meth c (some .int)) {hs : Hs} (a0 : Option Nat) (a1 : Option Nat) (a4 : Int32) (a5 : Int32)  (rec_7 : Int32 → Int32 → Int32 → OO Int32) (hrec_7 : ∀ (y2 : Int32) (y3 : Int32) (y4 : Int32) hs, rec_7 y2 y3 y4 hs = some (o, hs') → WG G p l e { frames := 7, cells := 0, slots := 0, locals := 163 } s m args below meth c 6 0 0 (vx_MQ below (QcT G o hs' tvI) (XCT G o hs') args s 0 0 (gA G)) hs [(0, va_rf a0), (1, va_rf a1), (2, .int y2), (3, .int y3), (4, .int y4)] [] 7) (h : j_X9_hardestOf_47 a0 a1 a4 a5 rec_7 hs = some (o, hs')) : WG G p l e { frames := 7, cells := 0, slots := 0, locals := 163 } s m args below meth c 6 0 0 (vx_MQ below (QcT G o hs' tvI) (XCT G o hs') args s 0 0 (gA G)) hs [(0, va_rf a0), (1, va_rf a1), (4, .int a4), (5, .int a5)] [] 47 := by
  unfold j_X9_hardestOf_47 at h
  refine q_iload C 2 dX9_hardestOf_47 rfl ?_
  refine q_istore_n C (fun v8 => [(2, .int v8), (0, va_rf a0), (1, va_rf a1), (4, .int a4), (5, .int a5)]) dX9_hardestOf_49 (by decide) (fun _ => rfl) h (fun v8 h => ?_)
  refine q_iload C 4 dX9_hardestOf_50 rfl ?_
  refine q_istore_n C (fun v9 => [(3, .int v9), (2, .int v8), (0, va_rf a0), (1, va_rf a1), (4, .int a4), (5, .int a5)]) dX9_hardestOf_52 (by decide) (fun _ => rfl) h (fun v9 h => ?_)
  refine WG.sub [2, 3, 1, 0, 4] rfl ?_
  exact w_j_X9_hardestOf_53 C C2 _ _ _ _ _ _ hrec_7 h
def L_X9_hardestOf_7 (a0 : Option Nat) (a1 : Option Nat) (k_7_59 : Int32 → OO Int32) : Nat → Int32 → Int32 → Int32 → OO Int32
  | 0, _, _, _ => failO
  | n + 1, x2, x3, x4 =>
    gI a0 12 24 fun v4 =>
    (if v4 ≤ x4 then
    k_7_59 x2
    else
    ldI 1 a1 x4 fun v5 =>
    (if ¬ v5 = 0 then
    rcv a0 12 fun r11 => call (f_X9_manyPossible r11 x4) (fun (v6 : Int32) =>
    lets v6 fun (v7 : Int32) =>
    (if x2 < 0 then
    j_X9_hardestOf_47 a0 a1 x4 v7 (L_X9_hardestOf_7 a0 a1 k_7_59 n)
    else
    (if v7 < x3 then
    j_X9_hardestOf_47 a0 a1 x4 v7 (L_X9_hardestOf_7 a0 a1 k_7_59 n)
    else
    j_X9_hardestOf_53 a0 a1 x2 x3 x4 (L_X9_hardestOf_7 a0 a1 k_7_59 n)))) nox
    else
    j_X9_hardestOf_53 a0 a1 x2 x3 x4 (L_X9_hardestOf_7 a0 a1 k_7_59 n)))
set_option maxRecDepth 100000 in
set_option maxHeartbeats 4000000 in
theorem w_L_X9_hardestOf_7 (C : Cx G l p s m args c RX9 cX9_hardestOf 6) (C2 : Cy meth c (some .int)) (a0 : Option Nat) (a1 : Option Nat) (k_7_59 : Int32 → OO Int32) (hk_7_59 : ∀ (y2 : Int32) hs, k_7_59 y2 hs = some (o, hs') → WG G p l e { frames := 7, cells := 0, slots := 0, locals := 163 } s m args below meth c 6 0 0 (vx_MQ below (QcT G o hs' tvI) (XCT G o hs') args s 0 0 (gA G)) hs [(2, .int y2)] [] 59) : ∀ (n : Nat) (x2 : Int32) (x3 : Int32) (x4 : Int32) (hs : Hs), L_X9_hardestOf_7 a0 a1 k_7_59 n x2 x3 x4 hs = some (o, hs') → WG G p l e { frames := 7, cells := 0, slots := 0, locals := 163 } s m args below meth c 6 0 0 (vx_MQ below (QcT G o hs' tvI) (XCT G o hs') args s 0 0 (gA G)) hs [(0, va_rf a0), (1, va_rf a1), (2, .int x2), (3, .int x3), (4, .int x4)] [] 7 := by
  intro n
  induction n with
  | zero =>
    intro x2 x3 x4 hs h
    rw [L_X9_hardestOf_7] at h
    exact absurd h failO_e
  | succ n hrec_7 =>
    intro x2 x3 x4 hs h
    rw [L_X9_hardestOf_7] at h
    refine q_iload C 4 dX9_hardestOf_7 rfl ?_
    refine q_aload_n C 0 dX9_hardestOf_9 rfl ?_
    refine q_gI C fl_X9_84 dX9_hardestOf_10 h (fun v4 h => ?_)
    refine q_icmp_ge C 59 dX9_hardestOf_13 (by decide) h (fun h => ?_) (fun h => ?_)
    · refine WG.sub [2] rfl ?_
      exact hk_7_59 _ _ h
    · refine q_aload_n C 1 dX9_hardestOf_16 rfl ?_
      refine q_iload C 4 dX9_hardestOf_17 rfl ?_
      refine q_zald C dX9_hardestOf_19 h (fun v5 h => ?_)
      refine q_if_ne C 26 dX9_hardestOf_20 (by decide) h (fun h => ?_) (fun h => ?_)
      · refine q_aload_n C 0 dX9_hardestOf_26 rfl ?_
        refine q_iload C 4 dX9_hardestOf_27 rfl ?_
        refine q_callV C (CN := RX9) (T := TX9) (N := 28) [.int x4] [] (fun a0 o2 hs1 hm => m_X9_manyPossible hm) lk_X9_199 im_X9_manyPossible se_X9_X9_manyPossible rfl ⟨(Nat.le_of_ble_eq_true rfl), (Nat.le_of_ble_eq_true rfl)⟩ ⟨(Nat.le_of_ble_eq_true rfl), (Nat.le_of_ble_eq_true rfl)⟩ rfl rfl (by decide) dX9_hardestOf_29 h (fun v6 hs h => WG_st (st' := [.int v6]) rfl ?_)
        refine q_istore C (fun v7 => [(5, .int v7), (0, va_rf a0), (1, va_rf a1), (2, .int x2), (3, .int x3), (4, .int x4)]) dX9_hardestOf_32 (by decide) (fun _ => rfl) h (fun v7 h => ?_)
        refine q_iload_n C 3 dX9_hardestOf_34 rfl ?_
        refine q_if_lt C 47 dX9_hardestOf_35 (by decide) h (fun h => ?_) (fun h => ?_)
        · refine WG.sub [1, 2, 5, 0] rfl ?_
          exact w_j_X9_hardestOf_47 C C2 _ _ _ _ _ hrec_7 h
        · refine q_iload C 0 dX9_hardestOf_38 rfl ?_
          refine q_iload_n C 4 dX9_hardestOf_40 rfl ?_
          refine q_icmp_lt C 47 dX9_hardestOf_41 (by decide) h (fun h => ?_) (fun h => ?_)
          · refine WG.sub [1, 2, 5, 0] rfl ?_
            exact w_j_X9_hardestOf_47 C C2 _ _ _ _ _ hrec_7 h
          · refine q_goto C 53 dX9_hardestOf_44 (by decide) ?_
            refine WG.sub [1, 2, 3, 4, 5] rfl ?_
            exact w_j_X9_hardestOf_53 C C2 _ _ _ _ _ _ hrec_7 h
      · refine q_goto C 53 dX9_hardestOf_23 (by decide) ?_
        exact w_j_X9_hardestOf_53 C C2 _ _ _ _ _ _ hrec_7 h
end M_X9_hardestOf
def f_X9_hardestOf (a0 : Nat) (p1 : Option Nat) : OO Int32 :=
    lets (-1 : Int32) fun (v1 : Int32) =>
    lets (0 : Int32) fun (v2 : Int32) =>
    lets (0 : Int32) fun (v3 : Int32) =>
    L_X9_hardestOf_7 (some a0) p1 (fun (v12 : Int32) => rtn v12) 100000 v1 v2 v3
set_option maxRecDepth 100000 in
set_option maxHeartbeats 4000000 in
theorem m_X9_hardestOf {G : GG} {l : Launch} {a0 : Nat} {p1 : Option Nat} {hs hs' : Hs} {o : Except Nat Int32} (h : f_X9_hardestOf a0 p1 hs = some (o, hs')) : CT G l yX9_hardestOf cX9_hardestOf 6 (some .int) 7 163 0 0 [.ref a0, va_rf p1] hs o hs' tvI := by
  refine vx_ofW (cc := cX9_hardestOf) (maxL := 6) (ret := (some .int)) (by decide +kernel) rfl ?_
  intro p e s m args below meth c s₁ B hml hxt hv
  obtain ⟨hav, hR, hKn⟩ := hv
  subst hav
  have hts := atoms_spec (ws := .code yX9_hardestOf cX9_hardestOf 6 (some .int) :: Tg) B.pre
  have C : Cx G l p s m _ c RX9 cX9_hardestOf 6 := ⟨B.exec, B.bytes, hml, findClass_of_methodNamed B.named, fun w hw => hts w (List.mem_cons_of_mem _ hw), hKn, fun q hq => Nat.le_trans hR.2.2.1 hq⟩
  have C2 : Cy meth c (some .int) := ⟨B.returns, B.notSynchronized, hxt⟩
  have key : WG G p l e { frames := 7, cells := 0, slots := 0, locals := 163 } s m ([.ref a0, va_rf p1] : List Value).toArray below meth c 6 0 0 (vx_MQ below (QcT G o hs' tvI) (XCT G o hs') ([.ref a0, va_rf p1] : List Value).toArray s 0 0 (gA G)) hs [(0, va_rf (some a0)), (1, va_rf p1)] [] 0 := by
    unfold f_X9_hardestOf at h
    refine q_iconst C (-1 : Int32) dX9_hardestOf_0 (by decide) ?_
    refine q_istore_n C (fun v1 => [(2, .int v1), (0, va_rf (some a0)), (1, va_rf p1)]) dX9_hardestOf_1 (by decide) (fun _ => rfl) h (fun v1 h => ?_)
    refine q_iconst C (0 : Int32) dX9_hardestOf_2 (by decide) ?_
    refine q_istore_n C (fun v2 => [(3, .int v2), (2, .int v1), (0, va_rf (some a0)), (1, va_rf p1)]) dX9_hardestOf_3 (by decide) (fun _ => rfl) h (fun v2 h => ?_)
    refine q_iconst C (0 : Int32) dX9_hardestOf_4 (by decide) ?_
    refine q_istore C (fun v3 => [(4, .int v3), (3, .int v2), (2, .int v1), (0, va_rf (some a0)), (1, va_rf p1)]) dX9_hardestOf_5 (by decide) (fun _ => rfl) h (fun v3 h => ?_)
    refine WG.sub [3, 4, 2, 1, 0] rfl ?_
    refine w_L_X9_hardestOf_7 C C2 _ _ _ ?_ _ _ _ _ _ h
    · intro v12 hs h
      refine q_iload_n C 0 dX9_hardestOf_59 rfl ?_
      exact q_iret C C2 rfl (Nat.le_of_ble_eq_true rfl) (Nat.le_of_ble_eq_true rfl) dX9_hardestOf_60 h
  rw [lg_entry_eq]
  cases p1 <;> exact key _ _ _ hR va_S.rf ⟨lv_entry _ (n := 6) (Nat.le_of_ble_eq_true rfl), (c1_r (c1_r c1_n))⟩

theorem cd_X9_place : Cond.code yX9_place cX9_place 4 (some .int) ∈ Tg := Tg_of (i := 1697) (by decide +kernel) (by decide +kernel)
theorem fl_X9_35 : Fld RX9 35 12 8 (.array .boolean) := ⟨RX9, TX9, 28, RX9, rfl, by decide, wf_X9_35, (Or.inl rfl), gu_X9, tyX9_ok _ (by decide), ⟨tyX9, tyX9_ok⟩, nmX9⟩
theorem ml_X9_202 : Cond.methodLink RX9 202 yX9_isPast ∈ Tg := Tg_of (i := 1698) (by decide +kernel) (by decide +kernel)
theorem lk_X9_202 : Lk RX9 202 yX9_isPast cX9_isPast 2 (some .boolean) 1 := ⟨ml_X9_202, cd_X9_isPast, iw_X9, by decide +kernel⟩
theorem im_X9_isPast : Cond.instanceMethod yX9_isPast ∈ Tg := Tg_of (i := 1700) (by decide +kernel) (by decide +kernel)
theorem se_X9_X9_isPast : Cond.selects RX9 yX9_isPast yX9_isPast ∈ Tg := Tg_of (i := 53) (by decide +kernel) (by decide +kernel)
section M_X9_place
variable {p : Program} {l : Launch} {e : Env} {s : State} {m : MethodId} {args : Array Value} {below : List Frame} {meth : Method} {c : Code} {G : GG} {o : Except Nat Int32} {hs' : Hs}
def j_X9_place_58 (a0 : Option Nat) (a1 : Int32) (a2 : Int32) (a3 : Int32)   : OO Int32 :=
  gI a0 12 20 fun v3 =>
    (if v3 ≤ 0 then
    gR a0 12 14 fun v4 =>
    stI v4 a1 (((8 : Int32) * a2) + a3) (
    rcv a0 12 fun r6 => call (f_X9_costNow r6 ) (fun (v5 : Int32) =>
    rtn v5) nox)
    else
    rtn (0 : Int32))
set_option maxRecDepth 100000 in
set_option maxHeartbeats 4000000 in
theorem w_j_X9_place_58 (C : Cx G l p s m args c RX9 cX9_place 4) (C2 : Cy meth c (some .int)) {hs : Hs} (a0 : Option Nat) (a1 : Int32) (a2 : Int32) (a3 : Int32)    (h : j_X9_place_58 a0 a1 a2 a3 hs = some (o, hs')) : WG G p l e { frames := 7, cells := 0, slots := 0, locals := 158 } s m args below meth c 4 0 0 (vx_MQ below (QcT G o hs' tvI) (XCT G o hs') args s 0 0 (gA G)) hs [(0, va_rf a0), (1, .int a1), (2, .int a2), (3, .int a3)] [] 58 := by
  unfold j_X9_place_58 at h
  refine q_aload_n C 0 dX9_place_58 rfl ?_
  refine q_gI C fl_X9_71 dX9_place_59 h (fun v3 h => ?_)
  refine q_if_le C 67 dX9_place_62 (by decide) h (fun h => ?_) (fun h => ?_)
  · refine q_aload_n C 0 dX9_place_67 rfl ?_
    refine q_gR C fl_X9_53 dX9_place_68 h (fun v4 h => ?_)
    refine q_iload_n C 1 dX9_place_71 rfl ?_
    refine q_bipush C (8 : Int32) dX9_place_72 (by decide) ?_
    refine q_iload_n C 2 dX9_place_74 rfl ?_
    refine q_imul C dX9_place_75 ?_
    refine q_iload_n C 3 dX9_place_76 rfl ?_
    refine q_iadd C dX9_place_77 ?_
    refine q_iast C dX9_place_78 h (fun hs h => ?_)
    refine q_aload_n C 0 dX9_place_79 rfl ?_
    refine q_callV C (CN := RX9) (T := TX9) (N := 28) [] [] (fun a0 o2 hs1 hm => m_X9_costNow hm) lk_X9_189 im_X9_costNow se_X9_X9_costNow rfl ⟨(Nat.le_of_ble_eq_true rfl), (Nat.le_of_ble_eq_true rfl)⟩ ⟨(Nat.le_of_ble_eq_true rfl), (Nat.le_of_ble_eq_true rfl)⟩ rfl rfl (by decide) dX9_place_80 h (fun v5 hs h => WG_st (st' := [.int v5]) rfl ?_)
    exact q_iret C C2 rfl (Nat.le_of_ble_eq_true rfl) (Nat.le_of_ble_eq_true rfl) dX9_place_83 h
  · refine q_iconst C (0 : Int32) dX9_place_65 (by decide) ?_
    exact q_iret C C2 rfl (Nat.le_of_ble_eq_true rfl) (Nat.le_of_ble_eq_true rfl) dX9_place_66 h
def j_X9_place_55 (a0 : Option Nat) (a1 : Int32) (a2 : Int32) (a3 : Int32) (s0 : Int32) (s1 : Option Nat)  : OO Int32 :=
  pI s1 12 20 s0 (
    j_X9_place_58 a0 a1 a2 a3)
set_option maxRecDepth 100000 in
set_option maxHeartbeats 4000000 in
theorem w_j_X9_place_55 (C : Cx G l p s m args c RX9 cX9_place 4) (C2 : Cy meth c (some .int)) {hs : Hs} (a0 : Option Nat) (a1 : Int32) (a2 : Int32) (a3 : Int32) (s0 : Int32) (s1 : Option Nat)   (h : j_X9_place_55 a0 a1 a2 a3 s0 s1 hs = some (o, hs')) : WG G p l e { frames := 7, cells := 0, slots := 0, locals := 158 } s m args below meth c 4 0 0 (vx_MQ below (QcT G o hs' tvI) (XCT G o hs') args s 0 0 (gA G)) hs [(0, va_rf a0), (1, .int a1), (2, .int a2), (3, .int a3)] [.int s0, va_rf s1] 55 := by
  unfold j_X9_place_55 at h
  refine q_pI C fw_X9_71 (fun z => nomatch z) dX9_place_55 h (fun hs h => ?_)
  exact w_j_X9_place_58 C C2 _ _ _ _   h
def j_X9_place_36 (a0 : Option Nat) (a1 : Int32) (a2 : Int32) (a3 : Int32) (s0 : Option Nat)  : OO Int32 :=
  j_X9_place_55 a0 a1 a2 a3 (3 : Int32) s0
set_option maxRecDepth 100000 in
set_option maxHeartbeats 4000000 in
theorem w_j_X9_place_36 (C : Cx G l p s m args c RX9 cX9_place 4) (C2 : Cy meth c (some .int)) {hs : Hs} (a0 : Option Nat) (a1 : Int32) (a2 : Int32) (a3 : Int32) (s0 : Option Nat)   (h : j_X9_place_36 a0 a1 a2 a3 s0 hs = some (o, hs')) : WG G p l e { frames := 7, cells := 0, slots := 0, locals := 158 } s m args below meth c 4 0 0 (vx_MQ below (QcT G o hs' tvI) (XCT G o hs') args s 0 0 (gA G)) hs [(0, va_rf a0), (1, .int a1), (2, .int a2), (3, .int a3)] [va_rf s0] 36 := by
  unfold j_X9_place_36 at h
  refine q_iconst C (3 : Int32) dX9_place_36 (by decide) ?_
  refine q_goto C 55 dX9_place_37 (by decide) ?_
  exact w_j_X9_place_55 C C2 _ _ _ _ _ _   h
end M_X9_place
def f_X9_place (a0 : Nat) (p1 : Int32) (p2 : Int32) (p3 : Int32) : OO Int32 :=
    rcv (some a0) 12 fun r13 => call (f_X9_wrongPlace r13 p1 p2 p3) (fun (v1 : Int32) =>
    pI (some a0) 12 20 v1 (
    gI (some a0) 12 20 fun v2 =>
    (if ¬ v2 = 0 then
    j_X9_place_58 (some a0) p1 p2 p3
    else
    gR (some a0) 12 8 fun v7 =>
    ldI 1 v7 p1 fun v8 =>
    (if ¬ v8 = 0 then
    j_X9_place_36 (some a0) p1 p2 p3 (some a0)
    else
    rcv (some a0) 12 fun r12 => call (f_X9_isPast r12 p1) (fun (v9 : Int32) =>
    (if v9 = 0 then
    rcv (some a0) 12 fun r11 => call (f_X9_letters r11 p1 p2 p3) (fun (v10 : Int32) =>
    (if v10 ≤ 0 then
    j_X9_place_55 (some a0) p1 p2 p3 (0 : Int32) (some a0)
    else
    j_X9_place_55 (some a0) p1 p2 p3 (4 : Int32) (some a0))) nox
    else
    j_X9_place_36 (some a0) p1 p2 p3 (some a0))) nox)))) nox
set_option maxRecDepth 100000 in
set_option maxHeartbeats 4000000 in
theorem m_X9_place {G : GG} {l : Launch} {a0 : Nat} {p1 : Int32} {p2 : Int32} {p3 : Int32} {hs hs' : Hs} {o : Except Nat Int32} (h : f_X9_place a0 p1 p2 p3 hs = some (o, hs')) : CT G l yX9_place cX9_place 4 (some .int) 7 158 0 0 [.ref a0, .int p1, .int p2, .int p3] hs o hs' tvI := by
  refine vx_ofW (cc := cX9_place) (maxL := 4) (ret := (some .int)) (by decide +kernel) rfl ?_
  intro p e s m args below meth c s₁ B hml hxt hv
  obtain ⟨hav, hR, hKn⟩ := hv
  subst hav
  have hts := atoms_spec (ws := .code yX9_place cX9_place 4 (some .int) :: Tg) B.pre
  have C : Cx G l p s m _ c RX9 cX9_place 4 := ⟨B.exec, B.bytes, hml, findClass_of_methodNamed B.named, fun w hw => hts w (List.mem_cons_of_mem _ hw), hKn, fun q hq => Nat.le_trans hR.2.2.1 hq⟩
  have C2 : Cy meth c (some .int) := ⟨B.returns, B.notSynchronized, hxt⟩
  have key : WG G p l e { frames := 7, cells := 0, slots := 0, locals := 158 } s m ([.ref a0, .int p1, .int p2, .int p3] : List Value).toArray below meth c 4 0 0 (vx_MQ below (QcT G o hs' tvI) (XCT G o hs') ([.ref a0, .int p1, .int p2, .int p3] : List Value).toArray s 0 0 (gA G)) hs [(0, va_rf (some a0)), (1, .int p1), (2, .int p2), (3, .int p3)] [] 0 := by
    unfold f_X9_place at h
    refine q_aload_n C 0 dX9_place_0 rfl ?_
    refine q_aload_n C 0 dX9_place_1 rfl ?_
    refine q_iload_n C 1 dX9_place_2 rfl ?_
    refine q_iload_n C 2 dX9_place_3 rfl ?_
    refine q_iload_n C 3 dX9_place_4 rfl ?_
    refine q_callV C (CN := RX9) (T := TX9) (N := 28) [.int p1, .int p2, .int p3] [va_rf (some a0)] (fun a0 o2 hs1 hm => m_X9_wrongPlace hm) lk_X9_154 im_X9_wrongPlace se_X9_X9_wrongPlace rfl ⟨(Nat.le_of_ble_eq_true rfl), (Nat.le_of_ble_eq_true rfl)⟩ ⟨(Nat.le_of_ble_eq_true rfl), (Nat.le_of_ble_eq_true rfl)⟩ rfl rfl (by simp only [List.map, cat_rf, cat_i, cat_a]; decide) dX9_place_5 h (fun v1 hs h => WG_st (st' := [.int v1, va_rf (some a0)]) rfl ?_)
    refine q_pI C fw_X9_71 (fun z => nomatch z) dX9_place_8 h (fun hs h => ?_)
    refine q_aload_n C 0 dX9_place_11 rfl ?_
    refine q_gI C fl_X9_71 dX9_place_12 h (fun v2 h => ?_)
    refine q_if_ne C 58 dX9_place_15 (by decide) h (fun h => ?_) (fun h => ?_)
    · exact w_j_X9_place_58 C C2 _ _ _ _   h
    · refine q_aload_n C 0 dX9_place_18 rfl ?_
      refine q_aload_n C 0 dX9_place_19 rfl ?_
      refine q_gR C fl_X9_35 dX9_place_20 h (fun v7 h => ?_)
      refine q_iload_n C 1 dX9_place_23 rfl ?_
      refine q_zald C dX9_place_24 h (fun v8 h => ?_)
      refine q_if_ne C 36 dX9_place_25 (by decide) h (fun h => ?_) (fun h => ?_)
      · exact w_j_X9_place_36 C C2 _ _ _ _ _   h
      · refine q_aload_n C 0 dX9_place_28 rfl ?_
        refine q_iload_n C 1 dX9_place_29 rfl ?_
        refine q_callV C (CN := RX9) (T := TX9) (N := 28) [.int p1] [va_rf (some a0)] (fun a0 o2 hs1 hm => m_X9_isPast hm) lk_X9_202 im_X9_isPast se_X9_X9_isPast rfl ⟨(Nat.le_of_ble_eq_true rfl), (Nat.le_of_ble_eq_true rfl)⟩ ⟨(Nat.le_of_ble_eq_true rfl), (Nat.le_of_ble_eq_true rfl)⟩ rfl rfl (by simp only [List.map, cat_rf, cat_i, cat_a]; decide) dX9_place_30 h (fun v9 hs h => WG_st (st' := [.int v9, va_rf (some a0)]) rfl ?_)
        refine q_if_eq C 40 dX9_place_33 (by decide) h (fun h => ?_) (fun h => ?_)
        · refine q_aload_n C 0 dX9_place_40 rfl ?_
          refine q_iload_n C 1 dX9_place_41 rfl ?_
          refine q_iload_n C 2 dX9_place_42 rfl ?_
          refine q_iload_n C 3 dX9_place_43 rfl ?_
          refine q_callV C (CN := RX9) (T := TX9) (N := 28) [.int p1, .int p2, .int p3] [va_rf (some a0)] (fun a0 o2 hs1 hm => m_X9_letters hm) lk_X9_145 im_X9_letters se_X9_X9_letters rfl ⟨(Nat.le_of_ble_eq_true rfl), (Nat.le_of_ble_eq_true rfl)⟩ ⟨(Nat.le_of_ble_eq_true rfl), (Nat.le_of_ble_eq_true rfl)⟩ rfl rfl (by simp only [List.map, cat_rf, cat_i, cat_a]; decide) dX9_place_44 h (fun v10 hs h => WG_st (st' := [.int v10, va_rf (some a0)]) rfl ?_)
          refine q_if_le C 54 dX9_place_47 (by decide) h (fun h => ?_) (fun h => ?_)
          · refine q_iconst C (0 : Int32) dX9_place_54 (by decide) ?_
            exact w_j_X9_place_55 C C2 _ _ _ _ _ _   h
          · refine q_iconst C (4 : Int32) dX9_place_50 (by decide) ?_
            refine q_goto C 55 dX9_place_51 (by decide) ?_
            exact w_j_X9_place_55 C C2 _ _ _ _ _ _   h
        · exact w_j_X9_place_36 C C2 _ _ _ _ _   h
  rw [lg_entry_eq]
  exact key _ _ _ hR va_S.rf ⟨lv_entry _ (n := 4) (Nat.le_of_ble_eq_true rfl), (c1_r (c1_i (c1_i (c1_i c1_n))))⟩

theorem cd_X9_wrongFree : Cond.code yX9_wrongFree cX9_wrongFree 2 (some .int) ∈ Tg := Tg_of (i := 1737) (by decide +kernel) (by decide +kernel)
section M_X9_wrongFree
variable {p : Program} {l : Launch} {e : Env} {s : State} {m : MethodId} {args : Array Value} {below : List Frame} {meth : Method} {c : Code} {G : GG} {o : Except Nat Int32} {hs' : Hs}
def j_X9_wrongFree_37    : OO Int32 :=
  rtn (2 : Int32)
set_option maxRecDepth 100000 in
set_option maxHeartbeats 4000000 in
theorem w_j_X9_wrongFree_37 (C : Cx G l p s m args c RX9 cX9_wrongFree 2) (C2 : Cy meth c (some .int)) {hs : Hs}     (h : j_X9_wrongFree_37 hs = some (o, hs')) : WG G p l e { frames := 2, cells := 0, slots := 0, locals := 43 } s m args below meth c 2 0 0 (vx_MQ below (QcT G o hs' tvI) (XCT G o hs') args s 0 0 (gA G)) hs [] [] 37 := by
  unfold j_X9_wrongFree_37 at h
  refine q_iconst C (2 : Int32) dX9_wrongFree_37 (by decide) ?_
  refine q_goto C 42 dX9_wrongFree_38 (by decide) ?_
  exact q_iret C C2 rfl (Nat.le_of_ble_eq_true rfl) (Nat.le_of_ble_eq_true rfl) dX9_wrongFree_42 h
end M_X9_wrongFree
def f_X9_wrongFree (a0 : Nat) (p1 : Int32) : OO Int32 :=
    rcv (some a0) 12 fun r8 => call (f_X9_isLesson r8 p1) (fun (v1 : Int32) =>
    (if ¬ v1 = 0 then
    rcv (some a0) 12 fun r7 => call (f_X9_isPlaced r7 p1) (fun (v2 : Int32) =>
    (if v2 = 0 then
    j_X9_wrongFree_37
    else
    gR (some a0) 12 8 fun v3 =>
    ldI 1 v3 p1 fun v4 =>
    (if ¬ v4 = 0 then
    j_X9_wrongFree_37
    else
    rcv (some a0) 12 fun r6 => call (f_X9_isPast r6 p1) (fun (v5 : Int32) =>
    (if v5 = 0 then
    rtn (0 : Int32)
    else
    j_X9_wrongFree_37)) nox))) nox
    else
    rtn (1 : Int32))) nox
set_option maxRecDepth 100000 in
set_option maxHeartbeats 4000000 in
theorem m_X9_wrongFree {G : GG} {l : Launch} {a0 : Nat} {p1 : Int32} {hs hs' : Hs} {o : Except Nat Int32} (h : f_X9_wrongFree a0 p1 hs = some (o, hs')) : CT G l yX9_wrongFree cX9_wrongFree 2 (some .int) 2 43 0 0 [.ref a0, .int p1] hs o hs' tvI := by
  refine vx_ofW (cc := cX9_wrongFree) (maxL := 2) (ret := (some .int)) (by decide +kernel) rfl ?_
  intro p e s m args below meth c s₁ B hml hxt hv
  obtain ⟨hav, hR, hKn⟩ := hv
  subst hav
  have hts := atoms_spec (ws := .code yX9_wrongFree cX9_wrongFree 2 (some .int) :: Tg) B.pre
  have C : Cx G l p s m _ c RX9 cX9_wrongFree 2 := ⟨B.exec, B.bytes, hml, findClass_of_methodNamed B.named, fun w hw => hts w (List.mem_cons_of_mem _ hw), hKn, fun q hq => Nat.le_trans hR.2.2.1 hq⟩
  have C2 : Cy meth c (some .int) := ⟨B.returns, B.notSynchronized, hxt⟩
  have key : WG G p l e { frames := 2, cells := 0, slots := 0, locals := 43 } s m ([.ref a0, .int p1] : List Value).toArray below meth c 2 0 0 (vx_MQ below (QcT G o hs' tvI) (XCT G o hs') ([.ref a0, .int p1] : List Value).toArray s 0 0 (gA G)) hs [(0, va_rf (some a0)), (1, .int p1)] [] 0 := by
    unfold f_X9_wrongFree at h
    refine q_aload_n C 0 dX9_wrongFree_0 rfl ?_
    refine q_iload_n C 1 dX9_wrongFree_1 rfl ?_
    refine q_callV C (CN := RX9) (T := TX9) (N := 28) [.int p1] [] (fun a0 o2 hs1 hm => m_X9_isLesson hm) lk_X9_148 im_X9_isLesson se_X9_X9_isLesson rfl ⟨(Nat.le_of_ble_eq_true rfl), (Nat.le_of_ble_eq_true rfl)⟩ ⟨(Nat.le_of_ble_eq_true rfl), (Nat.le_of_ble_eq_true rfl)⟩ rfl rfl (by decide) dX9_wrongFree_2 h (fun v1 hs h => WG_st (st' := [.int v1]) rfl ?_)
    refine q_if_ne C 12 dX9_wrongFree_5 (by decide) h (fun h => ?_) (fun h => ?_)
    · refine q_aload_n C 0 dX9_wrongFree_12 rfl ?_
      refine q_iload_n C 1 dX9_wrongFree_13 rfl ?_
      refine q_callV C (CN := RX9) (T := TX9) (N := 28) [.int p1] [] (fun a0 o2 hs1 hm => m_X9_isPlaced hm) lk_X9_118 im_X9_isPlaced se_X9_X9_isPlaced rfl ⟨(Nat.le_of_ble_eq_true rfl), (Nat.le_of_ble_eq_true rfl)⟩ ⟨(Nat.le_of_ble_eq_true rfl), (Nat.le_of_ble_eq_true rfl)⟩ rfl rfl (by decide) dX9_wrongFree_14 h (fun v2 hs h => WG_st (st' := [.int v2]) rfl ?_)
      refine q_if_eq C 37 dX9_wrongFree_17 (by decide) h (fun h => ?_) (fun h => ?_)
      · refine WG.sub [] rfl ?_
        exact w_j_X9_wrongFree_37 C C2    h
      · refine q_aload_n C 0 dX9_wrongFree_20 rfl ?_
        refine q_gR C fl_X9_35 dX9_wrongFree_21 h (fun v3 h => ?_)
        refine q_iload_n C 1 dX9_wrongFree_24 rfl ?_
        refine q_zald C dX9_wrongFree_25 h (fun v4 h => ?_)
        refine q_if_ne C 37 dX9_wrongFree_26 (by decide) h (fun h => ?_) (fun h => ?_)
        · refine WG.sub [] rfl ?_
          exact w_j_X9_wrongFree_37 C C2    h
        · refine q_aload_n C 0 dX9_wrongFree_29 rfl ?_
          refine q_iload_n C 1 dX9_wrongFree_30 rfl ?_
          refine q_callV C (CN := RX9) (T := TX9) (N := 28) [.int p1] [] (fun a0 o2 hs1 hm => m_X9_isPast hm) lk_X9_202 im_X9_isPast se_X9_X9_isPast rfl ⟨(Nat.le_of_ble_eq_true rfl), (Nat.le_of_ble_eq_true rfl)⟩ ⟨(Nat.le_of_ble_eq_true rfl), (Nat.le_of_ble_eq_true rfl)⟩ rfl rfl (by decide) dX9_wrongFree_31 h (fun v5 hs h => WG_st (st' := [.int v5]) rfl ?_)
          refine q_if_eq C 41 dX9_wrongFree_34 (by decide) h (fun h => ?_) (fun h => ?_)
          · refine q_iconst C (0 : Int32) dX9_wrongFree_41 (by decide) ?_
            exact q_iret C C2 rfl (Nat.le_of_ble_eq_true rfl) (Nat.le_of_ble_eq_true rfl) dX9_wrongFree_42 h
          · refine WG.sub [] rfl ?_
            exact w_j_X9_wrongFree_37 C C2    h
    · refine q_iconst C (1 : Int32) dX9_wrongFree_8 (by decide) ?_
      refine q_goto C 42 dX9_wrongFree_9 (by decide) ?_
      exact q_iret C C2 rfl (Nat.le_of_ble_eq_true rfl) (Nat.le_of_ble_eq_true rfl) dX9_wrongFree_42 h
  rw [lg_entry_eq]
  exact key _ _ _ hR va_S.rf ⟨lv_entry _ (n := 2) (Nat.le_of_ble_eq_true rfl), (c1_r (c1_i c1_n))⟩

theorem cd_X9_remove : Cond.code yX9_remove cX9_remove 2 (some .int) ∈ Tg := Tg_of (i := 1733) (by decide +kernel) (by decide +kernel)
theorem ml_X9_205 : Cond.methodLink RX9 205 yX9_wrongFree ∈ Tg := Tg_of (i := 1734) (by decide +kernel) (by decide +kernel)
theorem lk_X9_205 : Lk RX9 205 yX9_wrongFree cX9_wrongFree 2 (some .int) 1 := ⟨ml_X9_205, cd_X9_wrongFree, iw_X9, by decide +kernel⟩
theorem im_X9_wrongFree : Cond.instanceMethod yX9_wrongFree ∈ Tg := Tg_of (i := 1736) (by decide +kernel) (by decide +kernel)
theorem se_X9_X9_wrongFree : Cond.selects RX9 yX9_wrongFree yX9_wrongFree ∈ Tg := Tg_of (i := 61) (by decide +kernel) (by decide +kernel)
section M_X9_remove
variable {p : Program} {l : Launch} {e : Env} {s : State} {m : MethodId} {args : Array Value} {below : List Frame} {meth : Method} {c : Code} {G : GG} {o : Except Nat Int32} {hs' : Hs}
end M_X9_remove
def f_X9_remove (a0 : Nat) (p1 : Int32) : OO Int32 :=
    rcv (some a0) 12 fun r6 => call (f_X9_wrongFree r6 p1) (fun (v1 : Int32) =>
    pI (some a0) 12 20 v1 (
    gI (some a0) 12 20 fun v2 =>
    (if v2 ≤ 0 then
    gR (some a0) 12 14 fun v3 =>
    stI v3 p1 (-1 : Int32) (
    rcv (some a0) 12 fun r5 => call (f_X9_costNow r5 ) (fun (v4 : Int32) =>
    rtn v4) nox)
    else
    rtn (0 : Int32)))) nox
set_option maxRecDepth 100000 in
set_option maxHeartbeats 4000000 in
theorem m_X9_remove {G : GG} {l : Launch} {a0 : Nat} {p1 : Int32} {hs hs' : Hs} {o : Except Nat Int32} (h : f_X9_remove a0 p1 hs = some (o, hs')) : CT G l yX9_remove cX9_remove 2 (some .int) 7 158 0 0 [.ref a0, .int p1] hs o hs' tvI := by
  refine vx_ofW (cc := cX9_remove) (maxL := 2) (ret := (some .int)) (by decide +kernel) rfl ?_
  intro p e s m args below meth c s₁ B hml hxt hv
  obtain ⟨hav, hR, hKn⟩ := hv
  subst hav
  have hts := atoms_spec (ws := .code yX9_remove cX9_remove 2 (some .int) :: Tg) B.pre
  have C : Cx G l p s m _ c RX9 cX9_remove 2 := ⟨B.exec, B.bytes, hml, findClass_of_methodNamed B.named, fun w hw => hts w (List.mem_cons_of_mem _ hw), hKn, fun q hq => Nat.le_trans hR.2.2.1 hq⟩
  have C2 : Cy meth c (some .int) := ⟨B.returns, B.notSynchronized, hxt⟩
  have key : WG G p l e { frames := 7, cells := 0, slots := 0, locals := 158 } s m ([.ref a0, .int p1] : List Value).toArray below meth c 2 0 0 (vx_MQ below (QcT G o hs' tvI) (XCT G o hs') ([.ref a0, .int p1] : List Value).toArray s 0 0 (gA G)) hs [(0, va_rf (some a0)), (1, .int p1)] [] 0 := by
    unfold f_X9_remove at h
    refine q_aload_n C 0 dX9_remove_0 rfl ?_
    refine q_aload_n C 0 dX9_remove_1 rfl ?_
    refine q_iload_n C 1 dX9_remove_2 rfl ?_
    refine q_callV C (CN := RX9) (T := TX9) (N := 28) [.int p1] [va_rf (some a0)] (fun a0 o2 hs1 hm => m_X9_wrongFree hm) lk_X9_205 im_X9_wrongFree se_X9_X9_wrongFree rfl ⟨(Nat.le_of_ble_eq_true rfl), (Nat.le_of_ble_eq_true rfl)⟩ ⟨(Nat.le_of_ble_eq_true rfl), (Nat.le_of_ble_eq_true rfl)⟩ rfl rfl (by simp only [List.map, cat_rf, cat_i, cat_a]; decide) dX9_remove_3 h (fun v1 hs h => WG_st (st' := [.int v1, va_rf (some a0)]) rfl ?_)
    refine q_pI C fw_X9_71 (fun z => nomatch z) dX9_remove_6 h (fun hs h => ?_)
    refine q_aload_n C 0 dX9_remove_9 rfl ?_
    refine q_gI C fl_X9_71 dX9_remove_10 h (fun v2 h => ?_)
    refine q_if_le C 18 dX9_remove_13 (by decide) h (fun h => ?_) (fun h => ?_)
    · refine q_aload_n C 0 dX9_remove_18 rfl ?_
      refine q_gR C fl_X9_53 dX9_remove_19 h (fun v3 h => ?_)
      refine q_iload_n C 1 dX9_remove_22 rfl ?_
      refine q_iconst C (-1 : Int32) dX9_remove_23 (by decide) ?_
      refine q_iast C dX9_remove_24 h (fun hs h => ?_)
      refine q_aload_n C 0 dX9_remove_25 rfl ?_
      refine q_callV C (CN := RX9) (T := TX9) (N := 28) [] [] (fun a0 o2 hs1 hm => m_X9_costNow hm) lk_X9_189 im_X9_costNow se_X9_X9_costNow rfl ⟨(Nat.le_of_ble_eq_true rfl), (Nat.le_of_ble_eq_true rfl)⟩ ⟨(Nat.le_of_ble_eq_true rfl), (Nat.le_of_ble_eq_true rfl)⟩ rfl rfl (by decide) dX9_remove_26 h (fun v4 hs h => WG_st (st' := [.int v4]) rfl ?_)
      exact q_iret C C2 rfl (Nat.le_of_ble_eq_true rfl) (Nat.le_of_ble_eq_true rfl) dX9_remove_29 h
    · refine q_iconst C (0 : Int32) dX9_remove_16 (by decide) ?_
      exact q_iret C C2 rfl (Nat.le_of_ble_eq_true rfl) (Nat.le_of_ble_eq_true rfl) dX9_remove_17 h
  rw [lg_entry_eq]
  exact key _ _ _ hR va_S.rf ⟨lv_entry _ (n := 2) (Nat.le_of_ble_eq_true rfl), (c1_r (c1_i c1_n))⟩

theorem cd_X9_manyLocked : Cond.code yX9_manyLocked cX9_manyLocked 3 (some .int) ∈ Tg := Tg_of (i := 1745) (by decide +kernel) (by decide +kernel)
section M_X9_manyLocked
variable {p : Program} {l : Launch} {e : Env} {s : State} {m : MethodId} {args : Array Value} {below : List Frame} {meth : Method} {c : Code} {G : GG} {o : Except Nat Int32} {hs' : Hs}
def j_X9_manyLocked_27 (a0 : Option Nat) (a2 : Int32) (s0 : Int32) (s1 : Int32) (rec_4 : Int32 → Int32 → OO Int32) : OO Int32 :=
  lets (s1 + s0) fun (v6 : Int32) =>
    lets (a2 + (1 : Int32)) fun (v7 : Int32) =>
    rec_4 v6 v7
set_option maxRecDepth 100000 in
set_option maxHeartbeats 4000000 in
theorem w_j_X9_manyLocked_27 (C : Cx G l p s m args c RX9 cX9_manyLocked 3) (C2 : Cy meth c (some .int)) {hs : Hs} (a0 : Option Nat) (a2 : Int32) (s0 : Int32) (s1 : Int32) (rec_4 : Int32 → Int32 → OO Int32) (hrec_4 : ∀ (y1 : Int32) (y2 : Int32) hs, rec_4 y1 y2 hs = some (o, hs') → WG G p l e { frames := 0, cells := 0, slots := 0, locals := 0 } s m args below meth c 3 0 0 (vx_MQ below (QcT G o hs' tvI) (XCT G o hs') args s 0 0 (gA G)) hs [(0, va_rf a0), (1, .int y1), (2, .int y2)] [] 4) (h : j_X9_manyLocked_27 a0 a2 s0 s1 rec_4 hs = some (o, hs')) : WG G p l e { frames := 0, cells := 0, slots := 0, locals := 0 } s m args below meth c 3 0 0 (vx_MQ below (QcT G o hs' tvI) (XCT G o hs') args s 0 0 (gA G)) hs [(0, va_rf a0), (2, .int a2)] [.int s0, .int s1] 27 := by
  unfold j_X9_manyLocked_27 at h
  refine q_iadd C dX9_manyLocked_27 ?_
  refine q_istore_n C (fun v6 => [(1, .int v6), (0, va_rf a0), (2, .int a2)]) dX9_manyLocked_28 (by decide) (fun _ => rfl) h (fun v6 h => ?_)
  refine q_iinc C 2 (1 : Int32) (fun v7 => [(2, .int v7), (1, .int v6), (0, va_rf a0)]) dX9_manyLocked_29 rfl (by decide) (by decide) (fun _ => rfl) h (fun v7 h => ?_)
  refine q_goto C 4 dX9_manyLocked_32 (by decide) ?_
  refine WG.sub [2, 1, 0] rfl ?_
  exact hrec_4 _ _ _ h
def L_X9_manyLocked_4 (a0 : Option Nat) (k_4_35 : Int32 → OO Int32) : Nat → Int32 → Int32 → OO Int32
  | 0, _, _ => failO
  | n + 1, x1, x2 =>
    gI a0 12 24 fun v3 =>
    (if v3 ≤ x2 then
    k_4_35 x1
    else
    gR a0 12 8 fun v4 =>
    ldI 1 v4 x2 fun v5 =>
    (if v5 = 0 then
    j_X9_manyLocked_27 a0 x2 (0 : Int32) x1 (L_X9_manyLocked_4 a0 k_4_35 n)
    else
    j_X9_manyLocked_27 a0 x2 (1 : Int32) x1 (L_X9_manyLocked_4 a0 k_4_35 n)))
set_option maxRecDepth 100000 in
set_option maxHeartbeats 4000000 in
theorem w_L_X9_manyLocked_4 (C : Cx G l p s m args c RX9 cX9_manyLocked 3) (C2 : Cy meth c (some .int)) (a0 : Option Nat) (k_4_35 : Int32 → OO Int32) (hk_4_35 : ∀ (y1 : Int32) hs, k_4_35 y1 hs = some (o, hs') → WG G p l e { frames := 0, cells := 0, slots := 0, locals := 0 } s m args below meth c 3 0 0 (vx_MQ below (QcT G o hs' tvI) (XCT G o hs') args s 0 0 (gA G)) hs [(1, .int y1)] [] 35) : ∀ (n : Nat) (x1 : Int32) (x2 : Int32) (hs : Hs), L_X9_manyLocked_4 a0 k_4_35 n x1 x2 hs = some (o, hs') → WG G p l e { frames := 0, cells := 0, slots := 0, locals := 0 } s m args below meth c 3 0 0 (vx_MQ below (QcT G o hs' tvI) (XCT G o hs') args s 0 0 (gA G)) hs [(0, va_rf a0), (1, .int x1), (2, .int x2)] [] 4 := by
  intro n
  induction n with
  | zero =>
    intro x1 x2 hs h
    rw [L_X9_manyLocked_4] at h
    exact absurd h failO_e
  | succ n hrec_4 =>
    intro x1 x2 hs h
    rw [L_X9_manyLocked_4] at h
    refine q_iload_n C 2 dX9_manyLocked_4 rfl ?_
    refine q_aload_n C 0 dX9_manyLocked_5 rfl ?_
    refine q_gI C fl_X9_84 dX9_manyLocked_6 h (fun v3 h => ?_)
    refine q_icmp_ge C 35 dX9_manyLocked_9 (by decide) h (fun h => ?_) (fun h => ?_)
    · refine WG.sub [1] rfl ?_
      exact hk_4_35 _ _ h
    · refine q_iload_n C 1 dX9_manyLocked_12 rfl ?_
      refine q_aload_n C 0 dX9_manyLocked_13 rfl ?_
      refine q_gR C fl_X9_35 dX9_manyLocked_14 h (fun v4 h => ?_)
      refine q_iload_n C 2 dX9_manyLocked_17 rfl ?_
      refine q_zald C dX9_manyLocked_18 h (fun v5 h => ?_)
      refine q_if_eq C 26 dX9_manyLocked_19 (by decide) h (fun h => ?_) (fun h => ?_)
      · refine q_iconst C (0 : Int32) dX9_manyLocked_26 (by decide) ?_
        refine WG.sub [0, 2] rfl ?_
        exact w_j_X9_manyLocked_27 C C2 _ _ _ _ _ hrec_4 h
      · refine q_iconst C (1 : Int32) dX9_manyLocked_22 (by decide) ?_
        refine q_goto C 27 dX9_manyLocked_23 (by decide) ?_
        refine WG.sub [0, 2] rfl ?_
        exact w_j_X9_manyLocked_27 C C2 _ _ _ _ _ hrec_4 h
end M_X9_manyLocked
def f_X9_manyLocked (a0 : Nat) : OO Int32 :=
    lets (0 : Int32) fun (v1 : Int32) =>
    lets (0 : Int32) fun (v2 : Int32) =>
    L_X9_manyLocked_4 (some a0) (fun (v8 : Int32) => rtn v8) 100000 v1 v2
set_option maxRecDepth 100000 in
set_option maxHeartbeats 4000000 in
theorem m_X9_manyLocked {G : GG} {l : Launch} {a0 : Nat} {hs hs' : Hs} {o : Except Nat Int32} (h : f_X9_manyLocked a0 hs = some (o, hs')) : CT G l yX9_manyLocked cX9_manyLocked 3 (some .int) 0 0 0 0 [.ref a0] hs o hs' tvI := by
  refine vx_ofW (cc := cX9_manyLocked) (maxL := 3) (ret := (some .int)) (by decide +kernel) rfl ?_
  intro p e s m args below meth c s₁ B hml hxt hv
  obtain ⟨hav, hR, hKn⟩ := hv
  subst hav
  have hts := atoms_spec (ws := .code yX9_manyLocked cX9_manyLocked 3 (some .int) :: Tg) B.pre
  have C : Cx G l p s m _ c RX9 cX9_manyLocked 3 := ⟨B.exec, B.bytes, hml, findClass_of_methodNamed B.named, fun w hw => hts w (List.mem_cons_of_mem _ hw), hKn, fun q hq => Nat.le_trans hR.2.2.1 hq⟩
  have C2 : Cy meth c (some .int) := ⟨B.returns, B.notSynchronized, hxt⟩
  have key : WG G p l e { frames := 0, cells := 0, slots := 0, locals := 0 } s m ([.ref a0] : List Value).toArray below meth c 3 0 0 (vx_MQ below (QcT G o hs' tvI) (XCT G o hs') ([.ref a0] : List Value).toArray s 0 0 (gA G)) hs [(0, va_rf (some a0))] [] 0 := by
    unfold f_X9_manyLocked at h
    refine q_iconst C (0 : Int32) dX9_manyLocked_0 (by decide) ?_
    refine q_istore_n C (fun v1 => [(1, .int v1), (0, va_rf (some a0))]) dX9_manyLocked_1 (by decide) (fun _ => rfl) h (fun v1 h => ?_)
    refine q_iconst C (0 : Int32) dX9_manyLocked_2 (by decide) ?_
    refine q_istore_n C (fun v2 => [(2, .int v2), (1, .int v1), (0, va_rf (some a0))]) dX9_manyLocked_3 (by decide) (fun _ => rfl) h (fun v2 h => ?_)
    refine WG.sub [2, 1, 0] rfl ?_
    refine w_L_X9_manyLocked_4 C C2 _ _ ?_ _ _ _ _ h
    · intro v8 hs h
      refine q_iload_n C 0 dX9_manyLocked_35 rfl ?_
      exact q_iret C C2 rfl (Nat.le_of_ble_eq_true rfl) (Nat.le_of_ble_eq_true rfl) dX9_manyLocked_36 h
  rw [lg_entry_eq]
  exact key _ _ _ hR va_S.rf ⟨lv_entry _ (n := 3) (Nat.le_of_ble_eq_true rfl), (c1_r c1_n)⟩

theorem cd_X9_lock : Cond.code yX9_lock cX9_lock 2 (some .int) ∈ Tg := Tg_of (i := 1741) (by decide +kernel) (by decide +kernel)
theorem ml_X9_208 : Cond.methodLink RX9 208 yX9_manyLocked ∈ Tg := Tg_of (i := 1742) (by decide +kernel) (by decide +kernel)
theorem lk_X9_208 : Lk RX9 208 yX9_manyLocked cX9_manyLocked 3 (some .int) 0 := ⟨ml_X9_208, cd_X9_manyLocked, iw_X9, by decide +kernel⟩
theorem im_X9_manyLocked : Cond.instanceMethod yX9_manyLocked ∈ Tg := Tg_of (i := 1744) (by decide +kernel) (by decide +kernel)
theorem se_X9_X9_manyLocked : Cond.selects RX9 yX9_manyLocked yX9_manyLocked ∈ Tg := Tg_of (i := 62) (by decide +kernel) (by decide +kernel)
section M_X9_lock
variable {p : Program} {l : Launch} {e : Env} {s : State} {m : MethodId} {args : Array Value} {below : List Frame} {meth : Method} {c : Code} {G : GG} {o : Except Nat Int32} {hs' : Hs}
end M_X9_lock
def f_X9_lock (a0 : Nat) (p1 : Int32) : OO Int32 :=
    rcv (some a0) 12 fun r6 => call (f_X9_wrongFree r6 p1) (fun (v1 : Int32) =>
    pI (some a0) 12 20 v1 (
    gI (some a0) 12 20 fun v2 =>
    (if v2 ≤ 0 then
    gR (some a0) 12 8 fun v3 =>
    stZ v3 p1 (1 : Int32) (
    rcv (some a0) 12 fun r5 => call (f_X9_manyLocked r5 ) (fun (v4 : Int32) =>
    rtn v4) nox)
    else
    rtn (0 : Int32)))) nox
set_option maxRecDepth 100000 in
set_option maxHeartbeats 4000000 in
theorem m_X9_lock {G : GG} {l : Launch} {a0 : Nat} {p1 : Int32} {hs hs' : Hs} {o : Except Nat Int32} (h : f_X9_lock a0 p1 hs = some (o, hs')) : CT G l yX9_lock cX9_lock 2 (some .int) 3 64 0 0 [.ref a0, .int p1] hs o hs' tvI := by
  refine vx_ofW (cc := cX9_lock) (maxL := 2) (ret := (some .int)) (by decide +kernel) rfl ?_
  intro p e s m args below meth c s₁ B hml hxt hv
  obtain ⟨hav, hR, hKn⟩ := hv
  subst hav
  have hts := atoms_spec (ws := .code yX9_lock cX9_lock 2 (some .int) :: Tg) B.pre
  have C : Cx G l p s m _ c RX9 cX9_lock 2 := ⟨B.exec, B.bytes, hml, findClass_of_methodNamed B.named, fun w hw => hts w (List.mem_cons_of_mem _ hw), hKn, fun q hq => Nat.le_trans hR.2.2.1 hq⟩
  have C2 : Cy meth c (some .int) := ⟨B.returns, B.notSynchronized, hxt⟩
  have key : WG G p l e { frames := 3, cells := 0, slots := 0, locals := 64 } s m ([.ref a0, .int p1] : List Value).toArray below meth c 2 0 0 (vx_MQ below (QcT G o hs' tvI) (XCT G o hs') ([.ref a0, .int p1] : List Value).toArray s 0 0 (gA G)) hs [(0, va_rf (some a0)), (1, .int p1)] [] 0 := by
    unfold f_X9_lock at h
    refine q_aload_n C 0 dX9_lock_0 rfl ?_
    refine q_aload_n C 0 dX9_lock_1 rfl ?_
    refine q_iload_n C 1 dX9_lock_2 rfl ?_
    refine q_callV C (CN := RX9) (T := TX9) (N := 28) [.int p1] [va_rf (some a0)] (fun a0 o2 hs1 hm => m_X9_wrongFree hm) lk_X9_205 im_X9_wrongFree se_X9_X9_wrongFree rfl ⟨(Nat.le_of_ble_eq_true rfl), (Nat.le_of_ble_eq_true rfl)⟩ ⟨(Nat.le_of_ble_eq_true rfl), (Nat.le_of_ble_eq_true rfl)⟩ rfl rfl (by simp only [List.map, cat_rf, cat_i, cat_a]; decide) dX9_lock_3 h (fun v1 hs h => WG_st (st' := [.int v1, va_rf (some a0)]) rfl ?_)
    refine q_pI C fw_X9_71 (fun z => nomatch z) dX9_lock_6 h (fun hs h => ?_)
    refine q_aload_n C 0 dX9_lock_9 rfl ?_
    refine q_gI C fl_X9_71 dX9_lock_10 h (fun v2 h => ?_)
    refine q_if_le C 18 dX9_lock_13 (by decide) h (fun h => ?_) (fun h => ?_)
    · refine q_aload_n C 0 dX9_lock_18 rfl ?_
      refine q_gR C fl_X9_35 dX9_lock_19 h (fun v3 h => ?_)
      refine q_iload_n C 1 dX9_lock_22 rfl ?_
      refine q_iconst C (1 : Int32) dX9_lock_23 (by decide) ?_
      refine q_zast C dX9_lock_24 h (fun hs h => ?_)
      refine q_aload_n C 0 dX9_lock_25 rfl ?_
      refine q_callV C (CN := RX9) (T := TX9) (N := 28) [] [] (fun a0 o2 hs1 hm => m_X9_manyLocked hm) lk_X9_208 im_X9_manyLocked se_X9_X9_manyLocked rfl ⟨(Nat.le_of_ble_eq_true rfl), (Nat.le_of_ble_eq_true rfl)⟩ ⟨(Nat.le_of_ble_eq_true rfl), (Nat.le_of_ble_eq_true rfl)⟩ rfl rfl (by decide) dX9_lock_26 h (fun v4 hs h => WG_st (st' := [.int v4]) rfl ?_)
      exact q_iret C C2 rfl (Nat.le_of_ble_eq_true rfl) (Nat.le_of_ble_eq_true rfl) dX9_lock_29 h
    · refine q_iconst C (0 : Int32) dX9_lock_16 (by decide) ?_
      exact q_iret C C2 rfl (Nat.le_of_ble_eq_true rfl) (Nat.le_of_ble_eq_true rfl) dX9_lock_17 h
  rw [lg_entry_eq]
  exact key _ _ _ hR va_S.rf ⟨lv_entry _ (n := 2) (Nat.le_of_ble_eq_true rfl), (c1_r (c1_i c1_n))⟩

theorem cd_X9_unlock : Cond.code yX9_unlock cX9_unlock 2 (some .int) ∈ Tg := Tg_of (i := 1749) (by decide +kernel) (by decide +kernel)
section M_X9_unlock
variable {p : Program} {l : Launch} {e : Env} {s : State} {m : MethodId} {args : Array Value} {below : List Frame} {meth : Method} {c : Code} {G : GG} {o : Except Nat Int32} {hs' : Hs}
def j_X9_unlock_27 (a0 : Option Nat) (a1 : Int32) (s0 : Int32) (s1 : Option Nat)  : OO Int32 :=
  pI s1 12 20 s0 (
    gI a0 12 20 fun v4 =>
    (if v4 ≤ 0 then
    gR a0 12 8 fun v5 =>
    stZ v5 a1 (0 : Int32) (
    rcv a0 12 fun r7 => call (f_X9_manyLocked r7 ) (fun (v6 : Int32) =>
    rtn v6) nox)
    else
    rtn (0 : Int32)))
set_option maxRecDepth 100000 in
set_option maxHeartbeats 4000000 in
theorem w_j_X9_unlock_27 (C : Cx G l p s m args c RX9 cX9_unlock 2) (C2 : Cy meth c (some .int)) {hs : Hs} (a0 : Option Nat) (a1 : Int32) (s0 : Int32) (s1 : Option Nat)   (h : j_X9_unlock_27 a0 a1 s0 s1 hs = some (o, hs')) : WG G p l e { frames := 2, cells := 0, slots := 0, locals := 43 } s m args below meth c 2 0 0 (vx_MQ below (QcT G o hs' tvI) (XCT G o hs') args s 0 0 (gA G)) hs [(0, va_rf a0), (1, .int a1)] [.int s0, va_rf s1] 27 := by
  unfold j_X9_unlock_27 at h
  refine q_pI C fw_X9_71 (fun z => nomatch z) dX9_unlock_27 h (fun hs h => ?_)
  refine q_aload_n C 0 dX9_unlock_30 rfl ?_
  refine q_gI C fl_X9_71 dX9_unlock_31 h (fun v4 h => ?_)
  refine q_if_le C 39 dX9_unlock_34 (by decide) h (fun h => ?_) (fun h => ?_)
  · refine q_aload_n C 0 dX9_unlock_39 rfl ?_
    refine q_gR C fl_X9_35 dX9_unlock_40 h (fun v5 h => ?_)
    refine q_iload_n C 1 dX9_unlock_43 rfl ?_
    refine q_iconst C (0 : Int32) dX9_unlock_44 (by decide) ?_
    refine q_zast C dX9_unlock_45 h (fun hs h => ?_)
    refine q_aload_n C 0 dX9_unlock_46 rfl ?_
    refine q_callV C (CN := RX9) (T := TX9) (N := 28) [] [] (fun a0 o2 hs1 hm => m_X9_manyLocked hm) lk_X9_208 im_X9_manyLocked se_X9_X9_manyLocked rfl ⟨(Nat.le_of_ble_eq_true rfl), (Nat.le_of_ble_eq_true rfl)⟩ ⟨(Nat.le_of_ble_eq_true rfl), (Nat.le_of_ble_eq_true rfl)⟩ rfl rfl (by decide) dX9_unlock_47 h (fun v6 hs h => WG_st (st' := [.int v6]) rfl ?_)
    exact q_iret C C2 rfl (Nat.le_of_ble_eq_true rfl) (Nat.le_of_ble_eq_true rfl) dX9_unlock_50 h
  · refine q_iconst C (0 : Int32) dX9_unlock_37 (by decide) ?_
    exact q_iret C C2 rfl (Nat.le_of_ble_eq_true rfl) (Nat.le_of_ble_eq_true rfl) dX9_unlock_38 h
end M_X9_unlock
def f_X9_unlock (a0 : Nat) (p1 : Int32) : OO Int32 :=
    rcv (some a0) 12 fun r8 => call (f_X9_isLesson r8 p1) (fun (v1 : Int32) =>
    (if ¬ v1 = 0 then
    gR (some a0) 12 8 fun v2 =>
    ldI 1 v2 p1 fun v3 =>
    (if ¬ v3 = 0 then
    j_X9_unlock_27 (some a0) p1 (0 : Int32) (some a0)
    else
    j_X9_unlock_27 (some a0) p1 (2 : Int32) (some a0))
    else
    j_X9_unlock_27 (some a0) p1 (1 : Int32) (some a0))) nox
set_option maxRecDepth 100000 in
set_option maxHeartbeats 4000000 in
theorem m_X9_unlock {G : GG} {l : Launch} {a0 : Nat} {p1 : Int32} {hs hs' : Hs} {o : Except Nat Int32} (h : f_X9_unlock a0 p1 hs = some (o, hs')) : CT G l yX9_unlock cX9_unlock 2 (some .int) 2 43 0 0 [.ref a0, .int p1] hs o hs' tvI := by
  refine vx_ofW (cc := cX9_unlock) (maxL := 2) (ret := (some .int)) (by decide +kernel) rfl ?_
  intro p e s m args below meth c s₁ B hml hxt hv
  obtain ⟨hav, hR, hKn⟩ := hv
  subst hav
  have hts := atoms_spec (ws := .code yX9_unlock cX9_unlock 2 (some .int) :: Tg) B.pre
  have C : Cx G l p s m _ c RX9 cX9_unlock 2 := ⟨B.exec, B.bytes, hml, findClass_of_methodNamed B.named, fun w hw => hts w (List.mem_cons_of_mem _ hw), hKn, fun q hq => Nat.le_trans hR.2.2.1 hq⟩
  have C2 : Cy meth c (some .int) := ⟨B.returns, B.notSynchronized, hxt⟩
  have key : WG G p l e { frames := 2, cells := 0, slots := 0, locals := 43 } s m ([.ref a0, .int p1] : List Value).toArray below meth c 2 0 0 (vx_MQ below (QcT G o hs' tvI) (XCT G o hs') ([.ref a0, .int p1] : List Value).toArray s 0 0 (gA G)) hs [(0, va_rf (some a0)), (1, .int p1)] [] 0 := by
    unfold f_X9_unlock at h
    refine q_aload_n C 0 dX9_unlock_0 rfl ?_
    refine q_aload_n C 0 dX9_unlock_1 rfl ?_
    refine q_iload_n C 1 dX9_unlock_2 rfl ?_
    refine q_callV C (CN := RX9) (T := TX9) (N := 28) [.int p1] [va_rf (some a0)] (fun a0 o2 hs1 hm => m_X9_isLesson hm) lk_X9_148 im_X9_isLesson se_X9_X9_isLesson rfl ⟨(Nat.le_of_ble_eq_true rfl), (Nat.le_of_ble_eq_true rfl)⟩ ⟨(Nat.le_of_ble_eq_true rfl), (Nat.le_of_ble_eq_true rfl)⟩ rfl rfl (by simp only [List.map, cat_rf, cat_i, cat_a]; decide) dX9_unlock_3 h (fun v1 hs h => WG_st (st' := [.int v1, va_rf (some a0)]) rfl ?_)
    refine q_if_ne C 13 dX9_unlock_6 (by decide) h (fun h => ?_) (fun h => ?_)
    · refine q_aload_n C 0 dX9_unlock_13 rfl ?_
      refine q_gR C fl_X9_35 dX9_unlock_14 h (fun v2 h => ?_)
      refine q_iload_n C 1 dX9_unlock_17 rfl ?_
      refine q_zald C dX9_unlock_18 h (fun v3 h => ?_)
      refine q_if_ne C 26 dX9_unlock_19 (by decide) h (fun h => ?_) (fun h => ?_)
      · refine q_iconst C (0 : Int32) dX9_unlock_26 (by decide) ?_
        exact w_j_X9_unlock_27 C C2 _ _ _ _   h
      · refine q_iconst C (2 : Int32) dX9_unlock_22 (by decide) ?_
        refine q_goto C 27 dX9_unlock_23 (by decide) ?_
        exact w_j_X9_unlock_27 C C2 _ _ _ _   h
    · refine q_iconst C (1 : Int32) dX9_unlock_9 (by decide) ?_
      refine q_goto C 27 dX9_unlock_10 (by decide) ?_
      exact w_j_X9_unlock_27 C C2 _ _ _ _   h
  rw [lg_entry_eq]
  exact key _ _ _ hR va_S.rf ⟨lv_entry _ (n := 2) (Nat.le_of_ble_eq_true rfl), (c1_r (c1_i c1_n))⟩

theorem cd_X9_isLocked : Cond.code yX9_isLocked cX9_isLocked 2 (some .boolean) ∈ Tg := Tg_of (i := 1753) (by decide +kernel) (by decide +kernel)
section M_X9_isLocked
variable {p : Program} {l : Launch} {e : Env} {s : State} {m : MethodId} {args : Array Value} {below : List Frame} {meth : Method} {c : Code} {G : GG} {o : Except Nat Int32} {hs' : Hs}
end M_X9_isLocked
def f_X9_isLocked (a0 : Nat) (p1 : Int32) : OO Int32 :=
    rcv (some a0) 12 fun r6 => call (f_X9_isLesson r6 p1) (fun (v1 : Int32) =>
    rcv (some a0) 12 fun r5 => call (f_X9_checked r5 v1) (fun (v2 : Int32) =>
    (if ¬ v2 = 0 then
    retZ (0 : Int32)
    else
    gR (some a0) 12 8 fun v3 =>
    ldI 1 v3 p1 fun v4 =>
    (if v4 = 0 then
    retZ (0 : Int32)
    else
    retZ (1 : Int32)))) nox) nox
set_option maxRecDepth 100000 in
set_option maxHeartbeats 4000000 in
theorem m_X9_isLocked {G : GG} {l : Launch} {a0 : Nat} {p1 : Int32} {hs hs' : Hs} {o : Except Nat Int32} (h : f_X9_isLocked a0 p1 hs = some (o, hs')) : CT G l yX9_isLocked cX9_isLocked 2 (some .boolean) 2 43 0 0 [.ref a0, .int p1] hs o hs' tvI := by
  refine vx_ofW (cc := cX9_isLocked) (maxL := 2) (ret := (some .boolean)) (by decide +kernel) rfl ?_
  intro p e s m args below meth c s₁ B hml hxt hv
  obtain ⟨hav, hR, hKn⟩ := hv
  subst hav
  have hts := atoms_spec (ws := .code yX9_isLocked cX9_isLocked 2 (some .boolean) :: Tg) B.pre
  have C : Cx G l p s m _ c RX9 cX9_isLocked 2 := ⟨B.exec, B.bytes, hml, findClass_of_methodNamed B.named, fun w hw => hts w (List.mem_cons_of_mem _ hw), hKn, fun q hq => Nat.le_trans hR.2.2.1 hq⟩
  have C2 : Cy meth c (some .boolean) := ⟨B.returns, B.notSynchronized, hxt⟩
  have key : WG G p l e { frames := 2, cells := 0, slots := 0, locals := 43 } s m ([.ref a0, .int p1] : List Value).toArray below meth c 2 0 0 (vx_MQ below (QcT G o hs' tvI) (XCT G o hs') ([.ref a0, .int p1] : List Value).toArray s 0 0 (gA G)) hs [(0, va_rf (some a0)), (1, .int p1)] [] 0 := by
    unfold f_X9_isLocked at h
    refine q_aload_n C 0 dX9_isLocked_0 rfl ?_
    refine q_aload_n C 0 dX9_isLocked_1 rfl ?_
    refine q_iload_n C 1 dX9_isLocked_2 rfl ?_
    refine q_callV C (CN := RX9) (T := TX9) (N := 28) [.int p1] [va_rf (some a0)] (fun a0 o2 hs1 hm => m_X9_isLesson hm) lk_X9_148 im_X9_isLesson se_X9_X9_isLesson rfl ⟨(Nat.le_of_ble_eq_true rfl), (Nat.le_of_ble_eq_true rfl)⟩ ⟨(Nat.le_of_ble_eq_true rfl), (Nat.le_of_ble_eq_true rfl)⟩ rfl rfl (by simp only [List.map, cat_rf, cat_i, cat_a]; decide) dX9_isLocked_3 h (fun v1 hs h => WG_st (st' := [.int v1, va_rf (some a0)]) rfl ?_)
    refine q_callV C (CN := RX9) (T := TX9) (N := 28) [.int v1] [] (fun a0 o2 hs1 hm => m_X9_checked hm) lk_X9_110 im_X9_checked se_X9_X9_checked rfl ⟨(Nat.le_of_ble_eq_true rfl), (Nat.le_of_ble_eq_true rfl)⟩ ⟨(Nat.le_of_ble_eq_true rfl), (Nat.le_of_ble_eq_true rfl)⟩ rfl rfl (by decide) dX9_isLocked_6 h (fun v2 hs h => WG_st (st' := [.int v2]) rfl ?_)
    refine q_if_ne C 25 dX9_isLocked_9 (by decide) h (fun h => ?_) (fun h => ?_)
    · refine q_iconst C (0 : Int32) dX9_isLocked_25 (by decide) ?_
      exact q_zret C C2 rfl (Nat.le_of_ble_eq_true rfl) (Nat.le_of_ble_eq_true rfl) dX9_isLocked_26 h
    · refine q_aload_n C 0 dX9_isLocked_12 rfl ?_
      refine q_gR C fl_X9_35 dX9_isLocked_13 h (fun v3 h => ?_)
      refine q_iload_n C 1 dX9_isLocked_16 rfl ?_
      refine q_zald C dX9_isLocked_17 h (fun v4 h => ?_)
      refine q_if_eq C 25 dX9_isLocked_18 (by decide) h (fun h => ?_) (fun h => ?_)
      · refine q_iconst C (0 : Int32) dX9_isLocked_25 (by decide) ?_
        exact q_zret C C2 rfl (Nat.le_of_ble_eq_true rfl) (Nat.le_of_ble_eq_true rfl) dX9_isLocked_26 h
      · refine q_iconst C (1 : Int32) dX9_isLocked_21 (by decide) ?_
        refine q_goto C 26 dX9_isLocked_22 (by decide) ?_
        exact q_zret C C2 rfl (Nat.le_of_ble_eq_true rfl) (Nat.le_of_ble_eq_true rfl) dX9_isLocked_26 h
  rw [lg_entry_eq]
  exact key _ _ _ hR va_S.rf ⟨lv_entry _ (n := 2) (Nat.le_of_ble_eq_true rfl), (c1_r (c1_i c1_n))⟩

theorem cd_X9_placeOf : Cond.code yX9_placeOf cX9_placeOf 2 (some .int) ∈ Tg := Tg_of (i := 1757) (by decide +kernel) (by decide +kernel)
section M_X9_placeOf
variable {p : Program} {l : Launch} {e : Env} {s : State} {m : MethodId} {args : Array Value} {below : List Frame} {meth : Method} {c : Code} {G : GG} {o : Except Nat Int32} {hs' : Hs}
def j_X9_placeOf_26 (a0 : Option Nat) (a1 : Int32) (s0 : Int32) (s1 : Option Nat)  : OO Int32 :=
  pI s1 12 20 s0 (
    gI a0 12 20 fun v3 =>
    (if v3 ≤ 0 then
    gR a0 12 14 fun v4 =>
    ldI 0 v4 a1 fun v5 =>
    rtn v5
    else
    rtn (0 : Int32)))
set_option maxRecDepth 100000 in
set_option maxHeartbeats 4000000 in
theorem w_j_X9_placeOf_26 (C : Cx G l p s m args c RX9 cX9_placeOf 2) (C2 : Cy meth c (some .int)) {hs : Hs} (a0 : Option Nat) (a1 : Int32) (s0 : Int32) (s1 : Option Nat)   (h : j_X9_placeOf_26 a0 a1 s0 s1 hs = some (o, hs')) : WG G p l e { frames := 2, cells := 0, slots := 0, locals := 43 } s m args below meth c 2 0 0 (vx_MQ below (QcT G o hs' tvI) (XCT G o hs') args s 0 0 (gA G)) hs [(0, va_rf a0), (1, .int a1)] [.int s0, va_rf s1] 26 := by
  unfold j_X9_placeOf_26 at h
  refine q_pI C fw_X9_71 (fun z => nomatch z) dX9_placeOf_26 h (fun hs h => ?_)
  refine q_aload_n C 0 dX9_placeOf_29 rfl ?_
  refine q_gI C fl_X9_71 dX9_placeOf_30 h (fun v3 h => ?_)
  refine q_if_le C 40 dX9_placeOf_33 (by decide) h (fun h => ?_) (fun h => ?_)
  · refine q_aload_n C 0 dX9_placeOf_40 rfl ?_
    refine q_gR C fl_X9_53 dX9_placeOf_41 h (fun v4 h => ?_)
    refine q_iload_n C 1 dX9_placeOf_44 rfl ?_
    refine q_iald C dX9_placeOf_45 h (fun v5 h => ?_)
    exact q_iret C C2 rfl (Nat.le_of_ble_eq_true rfl) (Nat.le_of_ble_eq_true rfl) dX9_placeOf_46 h
  · refine q_iconst C (0 : Int32) dX9_placeOf_36 (by decide) ?_
    refine q_goto C 46 dX9_placeOf_37 (by decide) ?_
    exact q_iret C C2 rfl (Nat.le_of_ble_eq_true rfl) (Nat.le_of_ble_eq_true rfl) dX9_placeOf_46 h
end M_X9_placeOf
def f_X9_placeOf (a0 : Nat) (p1 : Int32) : OO Int32 :=
    rcv (some a0) 12 fun r7 => call (f_X9_isLesson r7 p1) (fun (v1 : Int32) =>
    (if ¬ v1 = 0 then
    rcv (some a0) 12 fun r6 => call (f_X9_isPlaced r6 p1) (fun (v2 : Int32) =>
    (if ¬ v2 = 0 then
    j_X9_placeOf_26 (some a0) p1 (0 : Int32) (some a0)
    else
    j_X9_placeOf_26 (some a0) p1 (2 : Int32) (some a0))) nox
    else
    j_X9_placeOf_26 (some a0) p1 (1 : Int32) (some a0))) nox
set_option maxRecDepth 100000 in
set_option maxHeartbeats 4000000 in
theorem m_X9_placeOf {G : GG} {l : Launch} {a0 : Nat} {p1 : Int32} {hs hs' : Hs} {o : Except Nat Int32} (h : f_X9_placeOf a0 p1 hs = some (o, hs')) : CT G l yX9_placeOf cX9_placeOf 2 (some .int) 2 43 0 0 [.ref a0, .int p1] hs o hs' tvI := by
  refine vx_ofW (cc := cX9_placeOf) (maxL := 2) (ret := (some .int)) (by decide +kernel) rfl ?_
  intro p e s m args below meth c s₁ B hml hxt hv
  obtain ⟨hav, hR, hKn⟩ := hv
  subst hav
  have hts := atoms_spec (ws := .code yX9_placeOf cX9_placeOf 2 (some .int) :: Tg) B.pre
  have C : Cx G l p s m _ c RX9 cX9_placeOf 2 := ⟨B.exec, B.bytes, hml, findClass_of_methodNamed B.named, fun w hw => hts w (List.mem_cons_of_mem _ hw), hKn, fun q hq => Nat.le_trans hR.2.2.1 hq⟩
  have C2 : Cy meth c (some .int) := ⟨B.returns, B.notSynchronized, hxt⟩
  have key : WG G p l e { frames := 2, cells := 0, slots := 0, locals := 43 } s m ([.ref a0, .int p1] : List Value).toArray below meth c 2 0 0 (vx_MQ below (QcT G o hs' tvI) (XCT G o hs') ([.ref a0, .int p1] : List Value).toArray s 0 0 (gA G)) hs [(0, va_rf (some a0)), (1, .int p1)] [] 0 := by
    unfold f_X9_placeOf at h
    refine q_aload_n C 0 dX9_placeOf_0 rfl ?_
    refine q_aload_n C 0 dX9_placeOf_1 rfl ?_
    refine q_iload_n C 1 dX9_placeOf_2 rfl ?_
    refine q_callV C (CN := RX9) (T := TX9) (N := 28) [.int p1] [va_rf (some a0)] (fun a0 o2 hs1 hm => m_X9_isLesson hm) lk_X9_148 im_X9_isLesson se_X9_X9_isLesson rfl ⟨(Nat.le_of_ble_eq_true rfl), (Nat.le_of_ble_eq_true rfl)⟩ ⟨(Nat.le_of_ble_eq_true rfl), (Nat.le_of_ble_eq_true rfl)⟩ rfl rfl (by simp only [List.map, cat_rf, cat_i, cat_a]; decide) dX9_placeOf_3 h (fun v1 hs h => WG_st (st' := [.int v1, va_rf (some a0)]) rfl ?_)
    refine q_if_ne C 13 dX9_placeOf_6 (by decide) h (fun h => ?_) (fun h => ?_)
    · refine q_aload_n C 0 dX9_placeOf_13 rfl ?_
      refine q_iload_n C 1 dX9_placeOf_14 rfl ?_
      refine q_callV C (CN := RX9) (T := TX9) (N := 28) [.int p1] [va_rf (some a0)] (fun a0 o2 hs1 hm => m_X9_isPlaced hm) lk_X9_118 im_X9_isPlaced se_X9_X9_isPlaced rfl ⟨(Nat.le_of_ble_eq_true rfl), (Nat.le_of_ble_eq_true rfl)⟩ ⟨(Nat.le_of_ble_eq_true rfl), (Nat.le_of_ble_eq_true rfl)⟩ rfl rfl (by simp only [List.map, cat_rf, cat_i, cat_a]; decide) dX9_placeOf_15 h (fun v2 hs h => WG_st (st' := [.int v2, va_rf (some a0)]) rfl ?_)
      refine q_if_ne C 25 dX9_placeOf_18 (by decide) h (fun h => ?_) (fun h => ?_)
      · refine q_iconst C (0 : Int32) dX9_placeOf_25 (by decide) ?_
        exact w_j_X9_placeOf_26 C C2 _ _ _ _   h
      · refine q_iconst C (2 : Int32) dX9_placeOf_21 (by decide) ?_
        refine q_goto C 26 dX9_placeOf_22 (by decide) ?_
        exact w_j_X9_placeOf_26 C C2 _ _ _ _   h
    · refine q_iconst C (1 : Int32) dX9_placeOf_9 (by decide) ?_
      refine q_goto C 26 dX9_placeOf_10 (by decide) ?_
      exact w_j_X9_placeOf_26 C C2 _ _ _ _   h
  rw [lg_entry_eq]
  exact key _ _ _ hR va_S.rf ⟨lv_entry _ (n := 2) (Nat.le_of_ble_eq_true rfl), (c1_r (c1_i c1_n))⟩

theorem cd_X9_groupAt : Cond.code yX9_groupAt cX9_groupAt 4 (some .int) ∈ Tg := Tg_of (i := 1761) (by decide +kernel) (by decide +kernel)
theorem ml_X9_211 : Cond.methodLink RX9 211 yX9_plain ∈ Tg := Tg_of (i := 1762) (by decide +kernel) (by decide +kernel)
theorem lk_X9_211 : Lk RX9 211 yX9_plain cX9_plain 2 (some .int) 1 := ⟨ml_X9_211, cd_X9_plain, iw_X9, by decide +kernel⟩
theorem im_X9_plain : Cond.instanceMethod yX9_plain ∈ Tg := Tg_of (i := 1764) (by decide +kernel) (by decide +kernel)
theorem se_X9_X9_plain : Cond.selects RX9 yX9_plain yX9_plain ∈ Tg := Tg_of (i := 63) (by decide +kernel) (by decide +kernel)
section M_X9_groupAt
variable {p : Program} {l : Launch} {e : Env} {s : State} {m : MethodId} {args : Array Value} {below : List Frame} {meth : Method} {c : Code} {G : GG} {o : Except Nat Int32} {hs' : Hs}
def j_X9_groupAt_73 (a0 : Option Nat) (a1 : Int32) (a2 : Int32) (a3 : Int32)  (rec_40 : Int32 → OO Int32) : OO Int32 :=
  lets (a3 + (1 : Int32)) fun (v8 : Int32) =>
    rec_40 v8
set_option maxRecDepth 100000 in
set_option maxHeartbeats 4000000 in
theorem w_j_X9_groupAt_73 (C : Cx G l p s m args c RX9 cX9_groupAt 4) (C2 : Cy meth c (some .int)) {hs : Hs} (a0 : Option Nat) (a1 : Int32) (a2 : Int32) (a3 : Int32)  (rec_40 : Int32 → OO Int32) (hrec_40 : ∀ (y3 : Int32) hs, rec_40 y3 hs = some (o, hs') → WG G p l e { frames := 3, cells := 0, slots := 0, locals := 64 } s m args below meth c 4 0 0 (vx_MQ below (QcT G o hs' tvI) (XCT G o hs') args s 0 0 (gA G)) hs [(0, va_rf a0), (1, .int a1), (2, .int a2), (3, .int y3)] [] 40) (h : j_X9_groupAt_73 a0 a1 a2 a3 rec_40 hs = some (o, hs')) : WG G p l e { frames := 3, cells := 0, slots := 0, locals := 64 } s m args below meth c 4 0 0 (vx_MQ below (QcT G o hs' tvI) (XCT G o hs') args s 0 0 (gA G)) hs [(0, va_rf a0), (1, .int a1), (2, .int a2), (3, .int a3)] [] 73 := by
  unfold j_X9_groupAt_73 at h
  refine q_iinc C 3 (1 : Int32) (fun v8 => [(3, .int v8), (0, va_rf a0), (1, .int a1), (2, .int a2)]) dX9_groupAt_73 rfl (by decide) (by decide) (fun _ => rfl) h (fun v8 h => ?_)
  refine q_goto C 40 dX9_groupAt_76 (by decide) ?_
  refine WG.sub [1, 2, 3, 0] rfl ?_
  exact hrec_40 _ _ h
def L_X9_groupAt_40 (a0 : Option Nat) (a1 : Int32) (a2 : Int32) (k_40_67 : Int32 → OO Int32) (k_40_79 : OO Int32) : Nat → Int32 → OO Int32
  | 0, _ => failO
  | n + 1, x3 =>
    gI a0 12 24 fun v5 =>
    (if v5 ≤ x3 then
    k_40_79
    else
    gR a0 12 9 fun v6 =>
    ldI 0 v6 x3 fun v7 =>
    (if ¬ v7 = a1 then
    j_X9_groupAt_73 a0 a1 a2 x3 (L_X9_groupAt_40 a0 a1 a2 k_40_67 k_40_79 n)
    else
    rcv a0 12 fun r10 => call (f_X9_hasAt r10 x3 a2) (fun (v9 : Int32) =>
    (if v9 = 0 then
    j_X9_groupAt_73 a0 a1 a2 x3 (L_X9_groupAt_40 a0 a1 a2 k_40_67 k_40_79 n)
    else
    k_40_67 x3)) nox))
set_option maxRecDepth 100000 in
set_option maxHeartbeats 4000000 in
theorem w_L_X9_groupAt_40 (C : Cx G l p s m args c RX9 cX9_groupAt 4) (C2 : Cy meth c (some .int)) (a0 : Option Nat) (a1 : Int32) (a2 : Int32) (k_40_67 : Int32 → OO Int32) (k_40_79 : OO Int32) (hk_40_67 : ∀ (y3 : Int32) hs, k_40_67 y3 hs = some (o, hs') → WG G p l e { frames := 3, cells := 0, slots := 0, locals := 64 } s m args below meth c 4 0 0 (vx_MQ below (QcT G o hs' tvI) (XCT G o hs') args s 0 0 (gA G)) hs [(0, va_rf a0), (3, .int y3)] [] 67) (hk_40_79 : ∀ hs, k_40_79  hs = some (o, hs') → WG G p l e { frames := 3, cells := 0, slots := 0, locals := 64 } s m args below meth c 4 0 0 (vx_MQ below (QcT G o hs' tvI) (XCT G o hs') args s 0 0 (gA G)) hs [] [] 79) : ∀ (n : Nat) (x3 : Int32) (hs : Hs), L_X9_groupAt_40 a0 a1 a2 k_40_67 k_40_79 n x3 hs = some (o, hs') → WG G p l e { frames := 3, cells := 0, slots := 0, locals := 64 } s m args below meth c 4 0 0 (vx_MQ below (QcT G o hs' tvI) (XCT G o hs') args s 0 0 (gA G)) hs [(0, va_rf a0), (1, .int a1), (2, .int a2), (3, .int x3)] [] 40 := by
  intro n
  induction n with
  | zero =>
    intro x3 hs h
    rw [L_X9_groupAt_40] at h
    exact absurd h failO_e
  | succ n hrec_40 =>
    intro x3 hs h
    rw [L_X9_groupAt_40] at h
    refine q_iload_n C 3 dX9_groupAt_40 rfl ?_
    refine q_aload_n C 0 dX9_groupAt_41 rfl ?_
    refine q_gI C fl_X9_84 dX9_groupAt_42 h (fun v5 h => ?_)
    refine q_icmp_ge C 79 dX9_groupAt_45 (by decide) h (fun h => ?_) (fun h => ?_)
    · refine WG.sub [] rfl ?_
      exact hk_40_79 _ h
    · refine q_aload_n C 0 dX9_groupAt_48 rfl ?_
      refine q_gR C fl_X9_38 dX9_groupAt_49 h (fun v6 h => ?_)
      refine q_iload_n C 3 dX9_groupAt_52 rfl ?_
      refine q_iald C dX9_groupAt_53 h (fun v7 h => ?_)
      refine q_iload_n C 1 dX9_groupAt_54 rfl ?_
      refine q_icmp_ne C 73 dX9_groupAt_55 (by decide) h (fun h => ?_) (fun h => ?_)
      · exact w_j_X9_groupAt_73 C C2 _ _ _ _ _ hrec_40 h
      · refine q_aload_n C 0 dX9_groupAt_58 rfl ?_
        refine q_iload_n C 3 dX9_groupAt_59 rfl ?_
        refine q_iload_n C 2 dX9_groupAt_60 rfl ?_
        refine q_callV C (CN := RX9) (T := TX9) (N := 28) [.int x3, .int a2] [] (fun a0 o2 hs1 hm => m_X9_hasAt hm) lk_X9_171 im_X9_hasAt se_X9_X9_hasAt rfl ⟨(Nat.le_of_ble_eq_true rfl), (Nat.le_of_ble_eq_true rfl)⟩ ⟨(Nat.le_of_ble_eq_true rfl), (Nat.le_of_ble_eq_true rfl)⟩ rfl rfl (by decide) dX9_groupAt_61 h (fun v9 hs h => WG_st (st' := [.int v9]) rfl ?_)
        refine q_if_eq C 73 dX9_groupAt_64 (by decide) h (fun h => ?_) (fun h => ?_)
        · exact w_j_X9_groupAt_73 C C2 _ _ _ _ _ hrec_40 h
        · refine WG.sub [0, 3] rfl ?_
          exact hk_40_67 _ _ h
def j_X9_groupAt_25 (a0 : Option Nat) (a1 : Int32) (a2 : Int32) (s0 : Int32) (s1 : Option Nat)  : OO Int32 :=
  pI s1 12 20 s0 (
    gI a0 12 20 fun v3 =>
    (if (3 : Int32) ≤ v3 then
    lets (0 : Int32) fun (v4 : Int32) =>
    L_X9_groupAt_40 a0 a1 a2 (fun (v11 : Int32) => rcv a0 12 fun r13 => call (f_X9_plain r13 v11) (fun (v12 : Int32) =>
    rtn v12) nox) (rtn (0 : Int32)) 100000 v4
    else
    rtn (0 : Int32)))
set_option maxRecDepth 100000 in
set_option maxHeartbeats 4000000 in
theorem w_j_X9_groupAt_25 (C : Cx G l p s m args c RX9 cX9_groupAt 4) (C2 : Cy meth c (some .int)) {hs : Hs} (a0 : Option Nat) (a1 : Int32) (a2 : Int32) (s0 : Int32) (s1 : Option Nat)   (h : j_X9_groupAt_25 a0 a1 a2 s0 s1 hs = some (o, hs')) : WG G p l e { frames := 3, cells := 0, slots := 0, locals := 64 } s m args below meth c 4 0 0 (vx_MQ below (QcT G o hs' tvI) (XCT G o hs') args s 0 0 (gA G)) hs [(0, va_rf a0), (1, .int a1), (2, .int a2)] [.int s0, va_rf s1] 25 := by
  unfold j_X9_groupAt_25 at h
  refine q_pI C fw_X9_71 (fun z => nomatch z) dX9_groupAt_25 h (fun hs h => ?_)
  refine q_aload_n C 0 dX9_groupAt_28 rfl ?_
  refine q_gI C fl_X9_71 dX9_groupAt_29 h (fun v3 h => ?_)
  refine q_iconst C (3 : Int32) dX9_groupAt_32 (by decide) ?_
  refine q_icmp_ge C 38 dX9_groupAt_33 (by decide) h (fun h => ?_) (fun h => ?_)
  · refine q_iconst C (0 : Int32) dX9_groupAt_38 (by decide) ?_
    refine q_istore_n C (fun v4 => [(3, .int v4), (0, va_rf a0), (1, .int a1), (2, .int a2)]) dX9_groupAt_39 (by decide) (fun _ => rfl) h (fun v4 h => ?_)
    refine WG.sub [1, 2, 3, 0] rfl ?_
    refine w_L_X9_groupAt_40 C C2 _ _ _ _ _ ?_ ?_ _ _ _ h
    · intro v11 hs h
      refine q_aload_n C 0 dX9_groupAt_67 rfl ?_
      refine q_iload_n C 1 dX9_groupAt_68 rfl ?_
      refine q_callV C (CN := RX9) (T := TX9) (N := 28) [.int v11] [] (fun a0 o2 hs1 hm => m_X9_plain hm) lk_X9_211 im_X9_plain se_X9_X9_plain rfl ⟨(Nat.le_of_ble_eq_true rfl), (Nat.le_of_ble_eq_true rfl)⟩ ⟨(Nat.le_of_ble_eq_true rfl), (Nat.le_of_ble_eq_true rfl)⟩ rfl rfl (by decide) dX9_groupAt_69 h (fun v12 hs h => WG_st (st' := [.int v12]) rfl ?_)
      exact q_iret C C2 rfl (Nat.le_of_ble_eq_true rfl) (Nat.le_of_ble_eq_true rfl) dX9_groupAt_72 h
    · intro  hs h
      refine q_iconst C (0 : Int32) dX9_groupAt_79 (by decide) ?_
      exact q_iret C C2 rfl (Nat.le_of_ble_eq_true rfl) (Nat.le_of_ble_eq_true rfl) dX9_groupAt_80 h
  · refine q_iconst C (0 : Int32) dX9_groupAt_36 (by decide) ?_
    exact q_iret C C2 rfl (Nat.le_of_ble_eq_true rfl) (Nat.le_of_ble_eq_true rfl) dX9_groupAt_37 h
end M_X9_groupAt
def f_X9_groupAt (a0 : Nat) (p1 : Int32) (p2 : Int32) : OO Int32 :=
    rcv (some a0) 12 fun r14 => call (f_X9_isGroup r14 p1) (fun (v1 : Int32) =>
    (if ¬ v1 = 0 then
    call (f_X9_isSlot p2) (fun (v2 : Int32) =>
    (if ¬ v2 = 0 then
    j_X9_groupAt_25 (some a0) p1 p2 (3 : Int32) (some a0)
    else
    j_X9_groupAt_25 (some a0) p1 p2 (2 : Int32) (some a0))) nox
    else
    j_X9_groupAt_25 (some a0) p1 p2 (1 : Int32) (some a0))) nox
set_option maxRecDepth 100000 in
set_option maxHeartbeats 4000000 in
theorem m_X9_groupAt {G : GG} {l : Launch} {a0 : Nat} {p1 : Int32} {p2 : Int32} {hs hs' : Hs} {o : Except Nat Int32} (h : f_X9_groupAt a0 p1 p2 hs = some (o, hs')) : CT G l yX9_groupAt cX9_groupAt 4 (some .int) 3 64 0 0 [.ref a0, .int p1, .int p2] hs o hs' tvI := by
  refine vx_ofW (cc := cX9_groupAt) (maxL := 4) (ret := (some .int)) (by decide +kernel) rfl ?_
  intro p e s m args below meth c s₁ B hml hxt hv
  obtain ⟨hav, hR, hKn⟩ := hv
  subst hav
  have hts := atoms_spec (ws := .code yX9_groupAt cX9_groupAt 4 (some .int) :: Tg) B.pre
  have C : Cx G l p s m _ c RX9 cX9_groupAt 4 := ⟨B.exec, B.bytes, hml, findClass_of_methodNamed B.named, fun w hw => hts w (List.mem_cons_of_mem _ hw), hKn, fun q hq => Nat.le_trans hR.2.2.1 hq⟩
  have C2 : Cy meth c (some .int) := ⟨B.returns, B.notSynchronized, hxt⟩
  have key : WG G p l e { frames := 3, cells := 0, slots := 0, locals := 64 } s m ([.ref a0, .int p1, .int p2] : List Value).toArray below meth c 4 0 0 (vx_MQ below (QcT G o hs' tvI) (XCT G o hs') ([.ref a0, .int p1, .int p2] : List Value).toArray s 0 0 (gA G)) hs [(0, va_rf (some a0)), (1, .int p1), (2, .int p2)] [] 0 := by
    unfold f_X9_groupAt at h
    refine q_aload_n C 0 dX9_groupAt_0 rfl ?_
    refine q_aload_n C 0 dX9_groupAt_1 rfl ?_
    refine q_iload_n C 1 dX9_groupAt_2 rfl ?_
    refine q_callV C (CN := RX9) (T := TX9) (N := 28) [.int p1] [va_rf (some a0)] (fun a0 o2 hs1 hm => m_X9_isGroup hm) lk_X9_100 im_X9_isGroup se_X9_X9_isGroup rfl ⟨(Nat.le_of_ble_eq_true rfl), (Nat.le_of_ble_eq_true rfl)⟩ ⟨(Nat.le_of_ble_eq_true rfl), (Nat.le_of_ble_eq_true rfl)⟩ rfl rfl (by simp only [List.map, cat_rf, cat_i, cat_a]; decide) dX9_groupAt_3 h (fun v1 hs h => WG_st (st' := [.int v1, va_rf (some a0)]) rfl ?_)
    refine q_if_ne C 13 dX9_groupAt_6 (by decide) h (fun h => ?_) (fun h => ?_)
    · refine q_iload_n C 2 dX9_groupAt_13 rfl ?_
      refine q_callS C [.int p2] [va_rf (some a0)] (fun o2 hs1 hm => m_X9_isSlot hm) lk_X9_107 sm_X9_isSlot ⟨(Nat.le_of_ble_eq_true rfl), (Nat.le_of_ble_eq_true rfl)⟩ ⟨(Nat.le_of_ble_eq_true rfl), (Nat.le_of_ble_eq_true rfl)⟩ rfl rfl (by simp only [List.map, cat_rf, cat_i, cat_a]; decide) dX9_groupAt_14 h (fun v2 hs h => WG_st (st' := [.int v2, va_rf (some a0)]) rfl ?_)
      refine q_if_ne C 24 dX9_groupAt_17 (by decide) h (fun h => ?_) (fun h => ?_)
      · refine q_iconst C (3 : Int32) dX9_groupAt_24 (by decide) ?_
        exact w_j_X9_groupAt_25 C C2 _ _ _ _ _   h
      · refine q_iconst C (2 : Int32) dX9_groupAt_20 (by decide) ?_
        refine q_goto C 25 dX9_groupAt_21 (by decide) ?_
        exact w_j_X9_groupAt_25 C C2 _ _ _ _ _   h
    · refine q_iconst C (1 : Int32) dX9_groupAt_9 (by decide) ?_
      refine q_goto C 25 dX9_groupAt_10 (by decide) ?_
      exact w_j_X9_groupAt_25 C C2 _ _ _ _ _   h
  rw [lg_entry_eq]
  exact key _ _ _ hR va_S.rf ⟨lv_entry _ (n := 4) (Nat.le_of_ble_eq_true rfl), (c1_r (c1_i (c1_i c1_n)))⟩

theorem cd_X9_teacherAt : Cond.code yX9_teacherAt cX9_teacherAt 4 (some .int) ∈ Tg := Tg_of (i := 1769) (by decide +kernel) (by decide +kernel)
section M_X9_teacherAt
variable {p : Program} {l : Launch} {e : Env} {s : State} {m : MethodId} {args : Array Value} {below : List Frame} {meth : Method} {c : Code} {G : GG} {o : Except Nat Int32} {hs' : Hs}
def j_X9_teacherAt_73 (a0 : Option Nat) (a1 : Int32) (a2 : Int32) (a3 : Int32)  (rec_40 : Int32 → OO Int32) : OO Int32 :=
  lets (a3 + (1 : Int32)) fun (v8 : Int32) =>
    rec_40 v8
set_option maxRecDepth 100000 in
set_option maxHeartbeats 4000000 in
theorem w_j_X9_teacherAt_73 (C : Cx G l p s m args c RX9 cX9_teacherAt 4) (C2 : Cy meth c (some .int)) {hs : Hs} (a0 : Option Nat) (a1 : Int32) (a2 : Int32) (a3 : Int32)  (rec_40 : Int32 → OO Int32) (hrec_40 : ∀ (y3 : Int32) hs, rec_40 y3 hs = some (o, hs') → WG G p l e { frames := 3, cells := 0, slots := 0, locals := 64 } s m args below meth c 4 0 0 (vx_MQ below (QcT G o hs' tvI) (XCT G o hs') args s 0 0 (gA G)) hs [(0, va_rf a0), (1, .int a1), (2, .int a2), (3, .int y3)] [] 40) (h : j_X9_teacherAt_73 a0 a1 a2 a3 rec_40 hs = some (o, hs')) : WG G p l e { frames := 3, cells := 0, slots := 0, locals := 64 } s m args below meth c 4 0 0 (vx_MQ below (QcT G o hs' tvI) (XCT G o hs') args s 0 0 (gA G)) hs [(0, va_rf a0), (1, .int a1), (2, .int a2), (3, .int a3)] [] 73 := by
  unfold j_X9_teacherAt_73 at h
  refine q_iinc C 3 (1 : Int32) (fun v8 => [(3, .int v8), (0, va_rf a0), (1, .int a1), (2, .int a2)]) dX9_teacherAt_73 rfl (by decide) (by decide) (fun _ => rfl) h (fun v8 h => ?_)
  refine q_goto C 40 dX9_teacherAt_76 (by decide) ?_
  refine WG.sub [1, 2, 3, 0] rfl ?_
  exact hrec_40 _ _ h
def L_X9_teacherAt_40 (a0 : Option Nat) (a1 : Int32) (a2 : Int32) (k_40_67 : Int32 → OO Int32) (k_40_79 : OO Int32) : Nat → Int32 → OO Int32
  | 0, _ => failO
  | n + 1, x3 =>
    gI a0 12 24 fun v5 =>
    (if v5 ≤ x3 then
    k_40_79
    else
    gR a0 12 10 fun v6 =>
    ldI 0 v6 x3 fun v7 =>
    (if ¬ v7 = a1 then
    j_X9_teacherAt_73 a0 a1 a2 x3 (L_X9_teacherAt_40 a0 a1 a2 k_40_67 k_40_79 n)
    else
    rcv a0 12 fun r10 => call (f_X9_hasAt r10 x3 a2) (fun (v9 : Int32) =>
    (if v9 = 0 then
    j_X9_teacherAt_73 a0 a1 a2 x3 (L_X9_teacherAt_40 a0 a1 a2 k_40_67 k_40_79 n)
    else
    k_40_67 x3)) nox))
set_option maxRecDepth 100000 in
set_option maxHeartbeats 4000000 in
theorem w_L_X9_teacherAt_40 (C : Cx G l p s m args c RX9 cX9_teacherAt 4) (C2 : Cy meth c (some .int)) (a0 : Option Nat) (a1 : Int32) (a2 : Int32) (k_40_67 : Int32 → OO Int32) (k_40_79 : OO Int32) (hk_40_67 : ∀ (y3 : Int32) hs, k_40_67 y3 hs = some (o, hs') → WG G p l e { frames := 3, cells := 0, slots := 0, locals := 64 } s m args below meth c 4 0 0 (vx_MQ below (QcT G o hs' tvI) (XCT G o hs') args s 0 0 (gA G)) hs [(0, va_rf a0), (3, .int y3)] [] 67) (hk_40_79 : ∀ hs, k_40_79  hs = some (o, hs') → WG G p l e { frames := 3, cells := 0, slots := 0, locals := 64 } s m args below meth c 4 0 0 (vx_MQ below (QcT G o hs' tvI) (XCT G o hs') args s 0 0 (gA G)) hs [] [] 79) : ∀ (n : Nat) (x3 : Int32) (hs : Hs), L_X9_teacherAt_40 a0 a1 a2 k_40_67 k_40_79 n x3 hs = some (o, hs') → WG G p l e { frames := 3, cells := 0, slots := 0, locals := 64 } s m args below meth c 4 0 0 (vx_MQ below (QcT G o hs' tvI) (XCT G o hs') args s 0 0 (gA G)) hs [(0, va_rf a0), (1, .int a1), (2, .int a2), (3, .int x3)] [] 40 := by
  intro n
  induction n with
  | zero =>
    intro x3 hs h
    rw [L_X9_teacherAt_40] at h
    exact absurd h failO_e
  | succ n hrec_40 =>
    intro x3 hs h
    rw [L_X9_teacherAt_40] at h
    refine q_iload_n C 3 dX9_teacherAt_40 rfl ?_
    refine q_aload_n C 0 dX9_teacherAt_41 rfl ?_
    refine q_gI C fl_X9_84 dX9_teacherAt_42 h (fun v5 h => ?_)
    refine q_icmp_ge C 79 dX9_teacherAt_45 (by decide) h (fun h => ?_) (fun h => ?_)
    · refine WG.sub [] rfl ?_
      exact hk_40_79 _ h
    · refine q_aload_n C 0 dX9_teacherAt_48 rfl ?_
      refine q_gR C fl_X9_41 dX9_teacherAt_49 h (fun v6 h => ?_)
      refine q_iload_n C 3 dX9_teacherAt_52 rfl ?_
      refine q_iald C dX9_teacherAt_53 h (fun v7 h => ?_)
      refine q_iload_n C 1 dX9_teacherAt_54 rfl ?_
      refine q_icmp_ne C 73 dX9_teacherAt_55 (by decide) h (fun h => ?_) (fun h => ?_)
      · exact w_j_X9_teacherAt_73 C C2 _ _ _ _ _ hrec_40 h
      · refine q_aload_n C 0 dX9_teacherAt_58 rfl ?_
        refine q_iload_n C 3 dX9_teacherAt_59 rfl ?_
        refine q_iload_n C 2 dX9_teacherAt_60 rfl ?_
        refine q_callV C (CN := RX9) (T := TX9) (N := 28) [.int x3, .int a2] [] (fun a0 o2 hs1 hm => m_X9_hasAt hm) lk_X9_171 im_X9_hasAt se_X9_X9_hasAt rfl ⟨(Nat.le_of_ble_eq_true rfl), (Nat.le_of_ble_eq_true rfl)⟩ ⟨(Nat.le_of_ble_eq_true rfl), (Nat.le_of_ble_eq_true rfl)⟩ rfl rfl (by decide) dX9_teacherAt_61 h (fun v9 hs h => WG_st (st' := [.int v9]) rfl ?_)
        refine q_if_eq C 73 dX9_teacherAt_64 (by decide) h (fun h => ?_) (fun h => ?_)
        · exact w_j_X9_teacherAt_73 C C2 _ _ _ _ _ hrec_40 h
        · refine WG.sub [0, 3] rfl ?_
          exact hk_40_67 _ _ h
def j_X9_teacherAt_25 (a0 : Option Nat) (a1 : Int32) (a2 : Int32) (s0 : Int32) (s1 : Option Nat)  : OO Int32 :=
  pI s1 12 20 s0 (
    gI a0 12 20 fun v3 =>
    (if (3 : Int32) ≤ v3 then
    lets (0 : Int32) fun (v4 : Int32) =>
    L_X9_teacherAt_40 a0 a1 a2 (fun (v11 : Int32) => rcv a0 12 fun r13 => call (f_X9_plain r13 v11) (fun (v12 : Int32) =>
    rtn v12) nox) (rtn (0 : Int32)) 100000 v4
    else
    rtn (0 : Int32)))
set_option maxRecDepth 100000 in
set_option maxHeartbeats 4000000 in
theorem w_j_X9_teacherAt_25 (C : Cx G l p s m args c RX9 cX9_teacherAt 4) (C2 : Cy meth c (some .int)) {hs : Hs} (a0 : Option Nat) (a1 : Int32) (a2 : Int32) (s0 : Int32) (s1 : Option Nat)   (h : j_X9_teacherAt_25 a0 a1 a2 s0 s1 hs = some (o, hs')) : WG G p l e { frames := 3, cells := 0, slots := 0, locals := 64 } s m args below meth c 4 0 0 (vx_MQ below (QcT G o hs' tvI) (XCT G o hs') args s 0 0 (gA G)) hs [(0, va_rf a0), (1, .int a1), (2, .int a2)] [.int s0, va_rf s1] 25 := by
  unfold j_X9_teacherAt_25 at h
  refine q_pI C fw_X9_71 (fun z => nomatch z) dX9_teacherAt_25 h (fun hs h => ?_)
  refine q_aload_n C 0 dX9_teacherAt_28 rfl ?_
  refine q_gI C fl_X9_71 dX9_teacherAt_29 h (fun v3 h => ?_)
  refine q_iconst C (3 : Int32) dX9_teacherAt_32 (by decide) ?_
  refine q_icmp_ge C 38 dX9_teacherAt_33 (by decide) h (fun h => ?_) (fun h => ?_)
  · refine q_iconst C (0 : Int32) dX9_teacherAt_38 (by decide) ?_
    refine q_istore_n C (fun v4 => [(3, .int v4), (0, va_rf a0), (1, .int a1), (2, .int a2)]) dX9_teacherAt_39 (by decide) (fun _ => rfl) h (fun v4 h => ?_)
    refine WG.sub [1, 2, 3, 0] rfl ?_
    refine w_L_X9_teacherAt_40 C C2 _ _ _ _ _ ?_ ?_ _ _ _ h
    · intro v11 hs h
      refine q_aload_n C 0 dX9_teacherAt_67 rfl ?_
      refine q_iload_n C 1 dX9_teacherAt_68 rfl ?_
      refine q_callV C (CN := RX9) (T := TX9) (N := 28) [.int v11] [] (fun a0 o2 hs1 hm => m_X9_plain hm) lk_X9_211 im_X9_plain se_X9_X9_plain rfl ⟨(Nat.le_of_ble_eq_true rfl), (Nat.le_of_ble_eq_true rfl)⟩ ⟨(Nat.le_of_ble_eq_true rfl), (Nat.le_of_ble_eq_true rfl)⟩ rfl rfl (by decide) dX9_teacherAt_69 h (fun v12 hs h => WG_st (st' := [.int v12]) rfl ?_)
      exact q_iret C C2 rfl (Nat.le_of_ble_eq_true rfl) (Nat.le_of_ble_eq_true rfl) dX9_teacherAt_72 h
    · intro  hs h
      refine q_iconst C (0 : Int32) dX9_teacherAt_79 (by decide) ?_
      exact q_iret C C2 rfl (Nat.le_of_ble_eq_true rfl) (Nat.le_of_ble_eq_true rfl) dX9_teacherAt_80 h
  · refine q_iconst C (0 : Int32) dX9_teacherAt_36 (by decide) ?_
    exact q_iret C C2 rfl (Nat.le_of_ble_eq_true rfl) (Nat.le_of_ble_eq_true rfl) dX9_teacherAt_37 h
end M_X9_teacherAt
def f_X9_teacherAt (a0 : Nat) (p1 : Int32) (p2 : Int32) : OO Int32 :=
    rcv (some a0) 12 fun r14 => call (f_X9_isTeacher r14 p1) (fun (v1 : Int32) =>
    (if ¬ v1 = 0 then
    call (f_X9_isSlot p2) (fun (v2 : Int32) =>
    (if ¬ v2 = 0 then
    j_X9_teacherAt_25 (some a0) p1 p2 (3 : Int32) (some a0)
    else
    j_X9_teacherAt_25 (some a0) p1 p2 (2 : Int32) (some a0))) nox
    else
    j_X9_teacherAt_25 (some a0) p1 p2 (1 : Int32) (some a0))) nox
set_option maxRecDepth 100000 in
set_option maxHeartbeats 4000000 in
theorem m_X9_teacherAt {G : GG} {l : Launch} {a0 : Nat} {p1 : Int32} {p2 : Int32} {hs hs' : Hs} {o : Except Nat Int32} (h : f_X9_teacherAt a0 p1 p2 hs = some (o, hs')) : CT G l yX9_teacherAt cX9_teacherAt 4 (some .int) 3 64 0 0 [.ref a0, .int p1, .int p2] hs o hs' tvI := by
  refine vx_ofW (cc := cX9_teacherAt) (maxL := 4) (ret := (some .int)) (by decide +kernel) rfl ?_
  intro p e s m args below meth c s₁ B hml hxt hv
  obtain ⟨hav, hR, hKn⟩ := hv
  subst hav
  have hts := atoms_spec (ws := .code yX9_teacherAt cX9_teacherAt 4 (some .int) :: Tg) B.pre
  have C : Cx G l p s m _ c RX9 cX9_teacherAt 4 := ⟨B.exec, B.bytes, hml, findClass_of_methodNamed B.named, fun w hw => hts w (List.mem_cons_of_mem _ hw), hKn, fun q hq => Nat.le_trans hR.2.2.1 hq⟩
  have C2 : Cy meth c (some .int) := ⟨B.returns, B.notSynchronized, hxt⟩
  have key : WG G p l e { frames := 3, cells := 0, slots := 0, locals := 64 } s m ([.ref a0, .int p1, .int p2] : List Value).toArray below meth c 4 0 0 (vx_MQ below (QcT G o hs' tvI) (XCT G o hs') ([.ref a0, .int p1, .int p2] : List Value).toArray s 0 0 (gA G)) hs [(0, va_rf (some a0)), (1, .int p1), (2, .int p2)] [] 0 := by
    unfold f_X9_teacherAt at h
    refine q_aload_n C 0 dX9_teacherAt_0 rfl ?_
    refine q_aload_n C 0 dX9_teacherAt_1 rfl ?_
    refine q_iload_n C 1 dX9_teacherAt_2 rfl ?_
    refine q_callV C (CN := RX9) (T := TX9) (N := 28) [.int p1] [va_rf (some a0)] (fun a0 o2 hs1 hm => m_X9_isTeacher hm) lk_X9_104 im_X9_isTeacher se_X9_X9_isTeacher rfl ⟨(Nat.le_of_ble_eq_true rfl), (Nat.le_of_ble_eq_true rfl)⟩ ⟨(Nat.le_of_ble_eq_true rfl), (Nat.le_of_ble_eq_true rfl)⟩ rfl rfl (by simp only [List.map, cat_rf, cat_i, cat_a]; decide) dX9_teacherAt_3 h (fun v1 hs h => WG_st (st' := [.int v1, va_rf (some a0)]) rfl ?_)
    refine q_if_ne C 13 dX9_teacherAt_6 (by decide) h (fun h => ?_) (fun h => ?_)
    · refine q_iload_n C 2 dX9_teacherAt_13 rfl ?_
      refine q_callS C [.int p2] [va_rf (some a0)] (fun o2 hs1 hm => m_X9_isSlot hm) lk_X9_107 sm_X9_isSlot ⟨(Nat.le_of_ble_eq_true rfl), (Nat.le_of_ble_eq_true rfl)⟩ ⟨(Nat.le_of_ble_eq_true rfl), (Nat.le_of_ble_eq_true rfl)⟩ rfl rfl (by simp only [List.map, cat_rf, cat_i, cat_a]; decide) dX9_teacherAt_14 h (fun v2 hs h => WG_st (st' := [.int v2, va_rf (some a0)]) rfl ?_)
      refine q_if_ne C 24 dX9_teacherAt_17 (by decide) h (fun h => ?_) (fun h => ?_)
      · refine q_iconst C (3 : Int32) dX9_teacherAt_24 (by decide) ?_
        exact w_j_X9_teacherAt_25 C C2 _ _ _ _ _   h
      · refine q_iconst C (2 : Int32) dX9_teacherAt_20 (by decide) ?_
        refine q_goto C 25 dX9_teacherAt_21 (by decide) ?_
        exact w_j_X9_teacherAt_25 C C2 _ _ _ _ _   h
    · refine q_iconst C (1 : Int32) dX9_teacherAt_9 (by decide) ?_
      refine q_goto C 25 dX9_teacherAt_10 (by decide) ?_
      exact w_j_X9_teacherAt_25 C C2 _ _ _ _ _   h
  rw [lg_entry_eq]
  exact key _ _ _ hR va_S.rf ⟨lv_entry _ (n := 4) (Nat.le_of_ble_eq_true rfl), (c1_r (c1_i (c1_i c1_n)))⟩

theorem cd_X9_possible : Cond.code yX9_possible cX9_possible 2 (some .int) ∈ Tg := Tg_of (i := 1773) (by decide +kernel) (by decide +kernel)
section M_X9_possible
variable {p : Program} {l : Launch} {e : Env} {s : State} {m : MethodId} {args : Array Value} {below : List Frame} {meth : Method} {c : Code} {G : GG} {o : Except Nat Int32} {hs' : Hs}
end M_X9_possible
def f_X9_possible (a0 : Nat) (p1 : Int32) : OO Int32 :=
    rcv (some a0) 12 fun r6 => call (f_X9_isLesson r6 p1) (fun (v1 : Int32) =>
    rcv (some a0) 12 fun r5 => call (f_X9_checked r5 v1) (fun (v2 : Int32) =>
    (if v2 ≤ 0 then
    rcv (some a0) 12 fun r4 => call (f_X9_manyPossible r4 p1) (fun (v3 : Int32) =>
    rtn v3) nox
    else
    rtn (0 : Int32))) nox) nox
set_option maxRecDepth 100000 in
set_option maxHeartbeats 4000000 in
theorem m_X9_possible {G : GG} {l : Launch} {a0 : Nat} {p1 : Int32} {hs hs' : Hs} {o : Except Nat Int32} (h : f_X9_possible a0 p1 hs = some (o, hs')) : CT G l yX9_possible cX9_possible 2 (some .int) 7 163 0 0 [.ref a0, .int p1] hs o hs' tvI := by
  refine vx_ofW (cc := cX9_possible) (maxL := 2) (ret := (some .int)) (by decide +kernel) rfl ?_
  intro p e s m args below meth c s₁ B hml hxt hv
  obtain ⟨hav, hR, hKn⟩ := hv
  subst hav
  have hts := atoms_spec (ws := .code yX9_possible cX9_possible 2 (some .int) :: Tg) B.pre
  have C : Cx G l p s m _ c RX9 cX9_possible 2 := ⟨B.exec, B.bytes, hml, findClass_of_methodNamed B.named, fun w hw => hts w (List.mem_cons_of_mem _ hw), hKn, fun q hq => Nat.le_trans hR.2.2.1 hq⟩
  have C2 : Cy meth c (some .int) := ⟨B.returns, B.notSynchronized, hxt⟩
  have key : WG G p l e { frames := 7, cells := 0, slots := 0, locals := 163 } s m ([.ref a0, .int p1] : List Value).toArray below meth c 2 0 0 (vx_MQ below (QcT G o hs' tvI) (XCT G o hs') ([.ref a0, .int p1] : List Value).toArray s 0 0 (gA G)) hs [(0, va_rf (some a0)), (1, .int p1)] [] 0 := by
    unfold f_X9_possible at h
    refine q_aload_n C 0 dX9_possible_0 rfl ?_
    refine q_aload_n C 0 dX9_possible_1 rfl ?_
    refine q_iload_n C 1 dX9_possible_2 rfl ?_
    refine q_callV C (CN := RX9) (T := TX9) (N := 28) [.int p1] [va_rf (some a0)] (fun a0 o2 hs1 hm => m_X9_isLesson hm) lk_X9_148 im_X9_isLesson se_X9_X9_isLesson rfl ⟨(Nat.le_of_ble_eq_true rfl), (Nat.le_of_ble_eq_true rfl)⟩ ⟨(Nat.le_of_ble_eq_true rfl), (Nat.le_of_ble_eq_true rfl)⟩ rfl rfl (by simp only [List.map, cat_rf, cat_i, cat_a]; decide) dX9_possible_3 h (fun v1 hs h => WG_st (st' := [.int v1, va_rf (some a0)]) rfl ?_)
    refine q_callV C (CN := RX9) (T := TX9) (N := 28) [.int v1] [] (fun a0 o2 hs1 hm => m_X9_checked hm) lk_X9_110 im_X9_checked se_X9_X9_checked rfl ⟨(Nat.le_of_ble_eq_true rfl), (Nat.le_of_ble_eq_true rfl)⟩ ⟨(Nat.le_of_ble_eq_true rfl), (Nat.le_of_ble_eq_true rfl)⟩ rfl rfl (by decide) dX9_possible_6 h (fun v2 hs h => WG_st (st' := [.int v2]) rfl ?_)
    refine q_if_le C 16 dX9_possible_9 (by decide) h (fun h => ?_) (fun h => ?_)
    · refine q_aload_n C 0 dX9_possible_16 rfl ?_
      refine q_iload_n C 1 dX9_possible_17 rfl ?_
      refine q_callV C (CN := RX9) (T := TX9) (N := 28) [.int p1] [] (fun a0 o2 hs1 hm => m_X9_manyPossible hm) lk_X9_199 im_X9_manyPossible se_X9_X9_manyPossible rfl ⟨(Nat.le_of_ble_eq_true rfl), (Nat.le_of_ble_eq_true rfl)⟩ ⟨(Nat.le_of_ble_eq_true rfl), (Nat.le_of_ble_eq_true rfl)⟩ rfl rfl (by decide) dX9_possible_18 h (fun v3 hs h => WG_st (st' := [.int v3]) rfl ?_)
      exact q_iret C C2 rfl (Nat.le_of_ble_eq_true rfl) (Nat.le_of_ble_eq_true rfl) dX9_possible_21 h
    · refine q_iconst C (0 : Int32) dX9_possible_12 (by decide) ?_
      refine q_goto C 21 dX9_possible_13 (by decide) ?_
      exact q_iret C C2 rfl (Nat.le_of_ble_eq_true rfl) (Nat.le_of_ble_eq_true rfl) dX9_possible_21 h
  rw [lg_entry_eq]
  exact key _ _ _ hR va_S.rf ⟨lv_entry _ (n := 2) (Nat.le_of_ble_eq_true rfl), (c1_r (c1_i c1_n))⟩

