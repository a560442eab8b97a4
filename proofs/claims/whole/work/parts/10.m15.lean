theorem cd_X9_possibleAt : Cond.code yX9_possibleAt cX9_possibleAt 5 (some .int) ∈ Tg := Tg_of (i := 1785) (by decide +kernel) (by decide +kernel)
section M_X9_possibleAt
variable {p : Program} {l : Launch} {e : Env} {s : State} {m : MethodId} {args : Array Value} {below : List Frame} {meth : Method} {c : Code} {G : GG} {o : Except Nat Int32} {hs' : Hs}
def j_X9_possibleAt_71 (a0 : Option Nat) (a1 : Int32) (a3 : Int32) (a4 : Int32)  (rec_36 : Int32 → Int32 → OO Int32) : OO Int32 :=
  lets (a4 + (1 : Int32)) fun (v7 : Int32) =>
    rec_36 a3 v7
set_option maxRecDepth 100000 in
set_option maxHeartbeats 4000000 in
theorem w_j_X9_possibleAt_71 (C : Cx G l p s m args c RX9 cX9_possibleAt 5) (C2 : Cy meth c (some .int)) {hs : Hs} (a0 : Option Nat) (a1 : Int32) (a3 : Int32) (a4 : Int32)  (rec_36 : Int32 → Int32 → OO Int32) (hrec_36 : ∀ (y3 : Int32) (y4 : Int32) hs, rec_36 y3 y4 hs = some (o, hs') → WG G p l e { frames := 6, cells := 0, slots := 0, locals := 140 } s m args below meth c 5 0 0 (vx_MQ below (QcT G o hs' tvI) (XCT G o hs') args s 0 0 (gA G)) hs [(0, va_rf a0), (1, .int a1), (3, .int y3), (4, .int y4)] [] 36) (h : j_X9_possibleAt_71 a0 a1 a3 a4 rec_36 hs = some (o, hs')) : WG G p l e { frames := 6, cells := 0, slots := 0, locals := 140 } s m args below meth c 5 0 0 (vx_MQ below (QcT G o hs' tvI) (XCT G o hs') args s 0 0 (gA G)) hs [(0, va_rf a0), (1, .int a1), (3, .int a3), (4, .int a4)] [] 71 := by
  unfold j_X9_possibleAt_71 at h
  refine q_iinc C 3 (1 : Int32) (fun v7 => [(4, .int v7), (0, va_rf a0), (1, .int a1), (3, .int a3)]) dX9_possibleAt_71 rfl (by decide) (by decide) (fun _ => rfl) h (fun v7 h => ?_)
  refine q_goto C 36 dX9_possibleAt_74 (by decide) ?_
  refine WG.sub [1, 2, 3, 0] rfl ?_
  exact hrec_36 _ _ _ h
def L_X9_possibleAt_36 (a0 : Option Nat) (a1 : Int32) (k_36_61 : Int32 → OO Int32) (k_36_77 : OO Int32) : Nat → Int32 → Int32 → OO Int32
  | 0, _, _ => failO
  | n + 1, x3, x4 =>
    (if (240 : Int32) ≤ x4 then
    k_36_77
    else
    rcv a0 12 fun r8 => call (f_X9_isPossible r8 a1 x4) (fun (v5 : Int32) =>
    (if ¬ v5 = 0 then
    (if ¬ x3 = 0 then
    lets (x3 + (-1 : Int32)) fun (v6 : Int32) =>
    j_X9_possibleAt_71 a0 a1 v6 x4 (L_X9_possibleAt_36 a0 a1 k_36_61 k_36_77 n)
    else
    k_36_61 x4)
    else
    j_X9_possibleAt_71 a0 a1 x3 x4 (L_X9_possibleAt_36 a0 a1 k_36_61 k_36_77 n))) nox)
set_option maxRecDepth 100000 in
set_option maxHeartbeats 4000000 in
theorem w_L_X9_possibleAt_36 (C : Cx G l p s m args c RX9 cX9_possibleAt 5) (C2 : Cy meth c (some .int)) (a0 : Option Nat) (a1 : Int32) (k_36_61 : Int32 → OO Int32) (k_36_77 : OO Int32) (hk_36_61 : ∀ (y4 : Int32) hs, k_36_61 y4 hs = some (o, hs') → WG G p l e { frames := 6, cells := 0, slots := 0, locals := 140 } s m args below meth c 5 0 0 (vx_MQ below (QcT G o hs' tvI) (XCT G o hs') args s 0 0 (gA G)) hs [(0, va_rf a0), (4, .int y4)] [] 61) (hk_36_77 : ∀ hs, k_36_77  hs = some (o, hs') → WG G p l e { frames := 6, cells := 0, slots := 0, locals := 140 } s m args below meth c 5 0 0 (vx_MQ below (QcT G o hs' tvI) (XCT G o hs') args s 0 0 (gA G)) hs [] [] 77) : ∀ (n : Nat) (x3 : Int32) (x4 : Int32) (hs : Hs), L_X9_possibleAt_36 a0 a1 k_36_61 k_36_77 n x3 x4 hs = some (o, hs') → WG G p l e { frames := 6, cells := 0, slots := 0, locals := 140 } s m args below meth c 5 0 0 (vx_MQ below (QcT G o hs' tvI) (XCT G o hs') args s 0 0 (gA G)) hs [(0, va_rf a0), (1, .int a1), (3, .int x3), (4, .int x4)] [] 36 := by
  intro n
  induction n with
  | zero =>
    intro x3 x4 hs h
    rw [L_X9_possibleAt_36] at h
    exact absurd h failO_e
  | succ n hrec_36 =>
    intro x3 x4 hs h
    rw [L_X9_possibleAt_36] at h
    refine q_iload C 3 dX9_possibleAt_36 rfl ?_
    refine q_sipush C (240 : Int32) dX9_possibleAt_38 (by decide) ?_
    refine q_icmp_ge C 77 dX9_possibleAt_41 (by decide) h (fun h => ?_) (fun h => ?_)
    · refine WG.sub [] rfl ?_
      exact hk_36_77 _ h
    · refine q_aload_n C 0 dX9_possibleAt_44 rfl ?_
      refine q_iload_n C 1 dX9_possibleAt_45 rfl ?_
      refine q_iload C 3 dX9_possibleAt_46 rfl ?_
      refine q_callV C (CN := RX9) (T := TX9) (N := 28) [.int a1, .int x4] [] (fun a0 o2 hs1 hm => m_X9_isPossible hm) lk_X9_193 im_X9_isPossible se_X9_X9_isPossible rfl ⟨(Nat.le_of_ble_eq_true rfl), (Nat.le_of_ble_eq_true rfl)⟩ ⟨(Nat.le_of_ble_eq_true rfl), (Nat.le_of_ble_eq_true rfl)⟩ rfl rfl (by decide) dX9_possibleAt_48 h (fun v5 hs h => WG_st (st' := [.int v5]) rfl ?_)
      refine q_if_ne C 57 dX9_possibleAt_51 (by decide) h (fun h => ?_) (fun h => ?_)
      · refine q_iload_n C 2 dX9_possibleAt_57 rfl ?_
        refine q_if_ne C 68 dX9_possibleAt_58 (by decide) h (fun h => ?_) (fun h => ?_)
        · refine q_iinc C 2 (-1 : Int32) (fun v6 => [(3, .int v6), (0, va_rf a0), (1, .int a1), (4, .int x4)]) dX9_possibleAt_68 rfl (by decide) (by decide) (fun _ => rfl) h (fun v6 h => ?_)
          refine WG.sub [1, 2, 0, 3] rfl ?_
          exact w_j_X9_possibleAt_71 C C2 _ _ _ _ _ hrec_36 h
        · refine WG.sub [0, 3] rfl ?_
          exact hk_36_61 _ _ h
      · refine q_goto C 71 dX9_possibleAt_54 (by decide) ?_
        exact w_j_X9_possibleAt_71 C C2 _ _ _ _ _ hrec_36 h
def j_X9_possibleAt_14 (a0 : Option Nat) (a1 : Int32) (a2 : Int32) (s0 : Int32) (s1 : Option Nat)  : OO Int32 :=
  pI s1 12 20 s0 (
    gI a0 12 20 fun v2 =>
    (if v2 = (1 : Int32) then
    rtn (0 : Int32)
    else
    (if 0 ≤ a2 then
    lets a2 fun (v3 : Int32) =>
    lets (0 : Int32) fun (v4 : Int32) =>
    L_X9_possibleAt_36 a0 a1 (fun (v9 : Int32) => rcv a0 12 fun r11 => call (f_X9_plain r11 v9) (fun (v10 : Int32) =>
    rtn v10) nox) (rtn (0 : Int32)) 100000 v3 v4
    else
    rtn (0 : Int32))))
set_option maxRecDepth 100000 in
set_option maxHeartbeats 4000000 in
theorem w_j_X9_possibleAt_14 (C : Cx G l p s m args c RX9 cX9_possibleAt 5) (C2 : Cy meth c (some .int)) {hs : Hs} (a0 : Option Nat) (a1 : Int32) (a2 : Int32) (s0 : Int32) (s1 : Option Nat)   (h : j_X9_possibleAt_14 a0 a1 a2 s0 s1 hs = some (o, hs')) : WG G p l e { frames := 6, cells := 0, slots := 0, locals := 140 } s m args below meth c 5 0 0 (vx_MQ below (QcT G o hs' tvI) (XCT G o hs') args s 0 0 (gA G)) hs [(0, va_rf a0), (1, .int a1), (2, .int a2)] [.int s0, va_rf s1] 14 := by
  unfold j_X9_possibleAt_14 at h
  refine q_pI C fw_X9_71 (fun z => nomatch z) dX9_possibleAt_14 h (fun hs h => ?_)
  refine q_aload_n C 0 dX9_possibleAt_17 rfl ?_
  refine q_gI C fl_X9_71 dX9_possibleAt_18 h (fun v2 h => ?_)
  refine q_iconst C (1 : Int32) dX9_possibleAt_21 (by decide) ?_
  refine q_icmp_eq C 29 dX9_possibleAt_22 (by decide) h (fun h => ?_) (fun h => ?_)
  · refine q_iconst C (0 : Int32) dX9_possibleAt_29 (by decide) ?_
    exact q_iret C C2 rfl (Nat.le_of_ble_eq_true rfl) (Nat.le_of_ble_eq_true rfl) dX9_possibleAt_30 h
  · refine q_iload_n C 2 dX9_possibleAt_25 rfl ?_
    refine q_if_ge C 31 dX9_possibleAt_26 (by decide) h (fun h => ?_) (fun h => ?_)
    · refine q_iload_n C 2 dX9_possibleAt_31 rfl ?_
      refine q_istore_n C (fun v3 => [(3, .int v3), (0, va_rf a0), (1, .int a1), (2, .int a2)]) dX9_possibleAt_32 (by decide) (fun _ => rfl) h (fun v3 h => ?_)
      refine q_iconst C (0 : Int32) dX9_possibleAt_33 (by decide) ?_
      refine q_istore C (fun v4 => [(4, .int v4), (3, .int v3), (0, va_rf a0), (1, .int a1), (2, .int a2)]) dX9_possibleAt_34 (by decide) (fun _ => rfl) h (fun v4 h => ?_)
      refine WG.sub [2, 3, 1, 0] rfl ?_
      refine w_L_X9_possibleAt_36 C C2 _ _ _ _ ?_ ?_ _ _ _ _ h
      · intro v9 hs h
        refine q_aload_n C 0 dX9_possibleAt_61 rfl ?_
        refine q_iload C 1 dX9_possibleAt_62 rfl ?_
        refine q_callV C (CN := RX9) (T := TX9) (N := 28) [.int v9] [] (fun a0 o2 hs1 hm => m_X9_plain hm) lk_X9_211 im_X9_plain se_X9_X9_plain rfl ⟨(Nat.le_of_ble_eq_true rfl), (Nat.le_of_ble_eq_true rfl)⟩ ⟨(Nat.le_of_ble_eq_true rfl), (Nat.le_of_ble_eq_true rfl)⟩ rfl rfl (by decide) dX9_possibleAt_64 h (fun v10 hs h => WG_st (st' := [.int v10]) rfl ?_)
        exact q_iret C C2 rfl (Nat.le_of_ble_eq_true rfl) (Nat.le_of_ble_eq_true rfl) dX9_possibleAt_67 h
      · intro  hs h
        refine q_iconst C (0 : Int32) dX9_possibleAt_77 (by decide) ?_
        exact q_iret C C2 rfl (Nat.le_of_ble_eq_true rfl) (Nat.le_of_ble_eq_true rfl) dX9_possibleAt_78 h
    · refine q_iconst C (0 : Int32) dX9_possibleAt_29 (by decide) ?_
      exact q_iret C C2 rfl (Nat.le_of_ble_eq_true rfl) (Nat.le_of_ble_eq_true rfl) dX9_possibleAt_30 h
end M_X9_possibleAt
def f_X9_possibleAt (a0 : Nat) (p1 : Int32) (p2 : Int32) : OO Int32 :=
    rcv (some a0) 12 fun r12 => call (f_X9_isLesson r12 p1) (fun (v1 : Int32) =>
    (if ¬ v1 = 0 then
    j_X9_possibleAt_14 (some a0) p1 p2 (2 : Int32) (some a0)
    else
    j_X9_possibleAt_14 (some a0) p1 p2 (1 : Int32) (some a0))) nox
set_option maxRecDepth 100000 in
set_option maxHeartbeats 4000000 in
theorem m_X9_possibleAt {G : GG} {l : Launch} {a0 : Nat} {p1 : Int32} {p2 : Int32} {hs hs' : Hs} {o : Except Nat Int32} (h : f_X9_possibleAt a0 p1 p2 hs = some (o, hs')) : CT G l yX9_possibleAt cX9_possibleAt 5 (some .int) 6 140 0 0 [.ref a0, .int p1, .int p2] hs o hs' tvI := by
  refine vx_ofW (cc := cX9_possibleAt) (maxL := 5) (ret := (some .int)) (by decide +kernel) rfl ?_
  intro p e s m args below meth c s₁ B hml hxt hv
  obtain ⟨hav, hR, hKn⟩ := hv
  subst hav
  have hts := atoms_spec (ws := .code yX9_possibleAt cX9_possibleAt 5 (some .int) :: Tg) B.pre
  have C : Cx G l p s m _ c RX9 cX9_possibleAt 5 := ⟨B.exec, B.bytes, hml, findClass_of_methodNamed B.named, fun w hw => hts w (List.mem_cons_of_mem _ hw), hKn, fun q hq => Nat.le_trans hR.2.2.1 hq⟩
  have C2 : Cy meth c (some .int) := ⟨B.returns, B.notSynchronized, hxt⟩
  have key : WG G p l e { frames := 6, cells := 0, slots := 0, locals := 140 } s m ([.ref a0, .int p1, .int p2] : List Value).toArray below meth c 5 0 0 (vx_MQ below (QcT G o hs' tvI) (XCT G o hs') ([.ref a0, .int p1, .int p2] : List Value).toArray s 0 0 (gA G)) hs [(0, va_rf (some a0)), (1, .int p1), (2, .int p2)] [] 0 := by
    unfold f_X9_possibleAt at h
    refine q_aload_n C 0 dX9_possibleAt_0 rfl ?_
    refine q_aload_n C 0 dX9_possibleAt_1 rfl ?_
    refine q_iload_n C 1 dX9_possibleAt_2 rfl ?_
    refine q_callV C (CN := RX9) (T := TX9) (N := 28) [.int p1] [va_rf (some a0)] (fun a0 o2 hs1 hm => m_X9_isLesson hm) lk_X9_148 im_X9_isLesson se_X9_X9_isLesson rfl ⟨(Nat.le_of_ble_eq_true rfl), (Nat.le_of_ble_eq_true rfl)⟩ ⟨(Nat.le_of_ble_eq_true rfl), (Nat.le_of_ble_eq_true rfl)⟩ rfl rfl (by simp only [List.map, cat_rf, cat_i, cat_a]; decide) dX9_possibleAt_3 h (fun v1 hs h => WG_st (st' := [.int v1, va_rf (some a0)]) rfl ?_)
    refine q_if_ne C 13 dX9_possibleAt_6 (by decide) h (fun h => ?_) (fun h => ?_)
    · refine q_iconst C (2 : Int32) dX9_possibleAt_13 (by decide) ?_
      exact w_j_X9_possibleAt_14 C C2 _ _ _ _ _   h
    · refine q_iconst C (1 : Int32) dX9_possibleAt_9 (by decide) ?_
      refine q_goto C 14 dX9_possibleAt_10 (by decide) ?_
      exact w_j_X9_possibleAt_14 C C2 _ _ _ _ _   h
  rw [lg_entry_eq]
  exact key _ _ _ hR va_S.rf ⟨lv_entry _ (n := 5) (Nat.le_of_ble_eq_true rfl), (c1_r (c1_i (c1_i c1_n)))⟩

theorem cd_X9_cheapest : Cond.code yX9_cheapest cX9_cheapest 3 (some .int) ∈ Tg := Tg_of (i := 1789) (by decide +kernel) (by decide +kernel)
theorem ml_X9_214 : Cond.methodLink RX9 214 yX9_cheapestOf ∈ Tg := Tg_of (i := 1790) (by decide +kernel) (by decide +kernel)
theorem lk_X9_214 : Lk RX9 214 yX9_cheapestOf cX9_cheapestOf 6 (some .int) 1 := ⟨ml_X9_214, cd_X9_cheapestOf, iw_X9, by decide +kernel⟩
theorem im_X9_cheapestOf : Cond.instanceMethod yX9_cheapestOf ∈ Tg := Tg_of (i := 1792) (by decide +kernel) (by decide +kernel)
theorem se_X9_X9_cheapestOf : Cond.selects RX9 yX9_cheapestOf yX9_cheapestOf ∈ Tg := Tg_of (i := 66) (by decide +kernel) (by decide +kernel)
section M_X9_cheapest
variable {p : Program} {l : Launch} {e : Env} {s : State} {m : MethodId} {args : Array Value} {below : List Frame} {meth : Method} {c : Code} {G : GG} {o : Except Nat Int32} {hs' : Hs}
def j_X9_cheapest_30 (a0 : Option Nat) (a2 : Int32) (s0 : Int32) (s1 : Option Nat)  : OO Int32 :=
  pI s1 12 20 s0 (
    gI a0 12 20 fun v5 =>
    (if v5 ≤ 0 then
    rtn a2
    else
    rtn (0 : Int32)))
set_option maxRecDepth 100000 in
set_option maxHeartbeats 4000000 in
theorem w_j_X9_cheapest_30 (C : Cx G l p s m args c RX9 cX9_cheapest 3) (C2 : Cy meth c (some .int)) {hs : Hs} (a0 : Option Nat) (a2 : Int32) (s0 : Int32) (s1 : Option Nat)   (h : j_X9_cheapest_30 a0 a2 s0 s1 hs = some (o, hs')) : WG G p l e { frames := 9, cells := 0, slots := 0, locals := 207 } s m args below meth c 3 0 0 (vx_MQ below (QcT G o hs' tvI) (XCT G o hs') args s 0 0 (gA G)) hs [(0, va_rf a0), (2, .int a2)] [.int s0, va_rf s1] 30 := by
  unfold j_X9_cheapest_30 at h
  refine q_pI C fw_X9_71 (fun z => nomatch z) dX9_cheapest_30 h (fun hs h => ?_)
  refine q_aload_n C 0 dX9_cheapest_33 rfl ?_
  refine q_gI C fl_X9_71 dX9_cheapest_34 h (fun v5 h => ?_)
  refine q_if_le C 44 dX9_cheapest_37 (by decide) h (fun h => ?_) (fun h => ?_)
  · refine q_iload_n C 1 dX9_cheapest_44 rfl ?_
    exact q_iret C C2 rfl (Nat.le_of_ble_eq_true rfl) (Nat.le_of_ble_eq_true rfl) dX9_cheapest_45 h
  · refine q_iconst C (0 : Int32) dX9_cheapest_40 (by decide) ?_
    refine q_goto C 45 dX9_cheapest_41 (by decide) ?_
    exact q_iret C C2 rfl (Nat.le_of_ble_eq_true rfl) (Nat.le_of_ble_eq_true rfl) dX9_cheapest_45 h
end M_X9_cheapest
def f_X9_cheapest (a0 : Nat) (p1 : Int32) : OO Int32 :=
    rcv (some a0) 12 fun r8 => call (f_X9_isLesson r8 p1) (fun (v1 : Int32) =>
    rcv (some a0) 12 fun r7 => call (f_X9_checked r7 v1) (fun (v2 : Int32) =>
    (if v2 ≤ 0 then
    rcv (some a0) 12 fun r6 => call (f_X9_cheapestOf r6 p1) (fun (v3 : Int32) =>
    lets v3 fun (v4 : Int32) =>
    (if 0 ≤ v4 then
    j_X9_cheapest_30 (some a0) v4 (0 : Int32) (some a0)
    else
    j_X9_cheapest_30 (some a0) v4 (2 : Int32) (some a0))) nox
    else
    rtn (0 : Int32))) nox) nox
set_option maxRecDepth 100000 in
set_option maxHeartbeats 4000000 in
theorem m_X9_cheapest {G : GG} {l : Launch} {a0 : Nat} {p1 : Int32} {hs hs' : Hs} {o : Except Nat Int32} (h : f_X9_cheapest a0 p1 hs = some (o, hs')) : CT G l yX9_cheapest cX9_cheapest 3 (some .int) 9 207 0 0 [.ref a0, .int p1] hs o hs' tvI := by
  refine vx_ofW (cc := cX9_cheapest) (maxL := 3) (ret := (some .int)) (by decide +kernel) rfl ?_
  intro p e s m args below meth c s₁ B hml hxt hv
  obtain ⟨hav, hR, hKn⟩ := hv
  subst hav
  have hts := atoms_spec (ws := .code yX9_cheapest cX9_cheapest 3 (some .int) :: Tg) B.pre
  have C : Cx G l p s m _ c RX9 cX9_cheapest 3 := ⟨B.exec, B.bytes, hml, findClass_of_methodNamed B.named, fun w hw => hts w (List.mem_cons_of_mem _ hw), hKn, fun q hq => Nat.le_trans hR.2.2.1 hq⟩
  have C2 : Cy meth c (some .int) := ⟨B.returns, B.notSynchronized, hxt⟩
  have key : WG G p l e { frames := 9, cells := 0, slots := 0, locals := 207 } s m ([.ref a0, .int p1] : List Value).toArray below meth c 3 0 0 (vx_MQ below (QcT G o hs' tvI) (XCT G o hs') ([.ref a0, .int p1] : List Value).toArray s 0 0 (gA G)) hs [(0, va_rf (some a0)), (1, .int p1)] [] 0 := by
    unfold f_X9_cheapest at h
    refine q_aload_n C 0 dX9_cheapest_0 rfl ?_
    refine q_aload_n C 0 dX9_cheapest_1 rfl ?_
    refine q_iload_n C 1 dX9_cheapest_2 rfl ?_
    refine q_callV C (CN := RX9) (T := TX9) (N := 28) [.int p1] [va_rf (some a0)] (fun a0 o2 hs1 hm => m_X9_isLesson hm) lk_X9_148 im_X9_isLesson se_X9_X9_isLesson rfl ⟨(Nat.le_of_ble_eq_true rfl), (Nat.le_of_ble_eq_true rfl)⟩ ⟨(Nat.le_of_ble_eq_true rfl), (Nat.le_of_ble_eq_true rfl)⟩ rfl rfl (by simp only [List.map, cat_rf, cat_i, cat_a]; decide) dX9_cheapest_3 h (fun v1 hs h => WG_st (st' := [.int v1, va_rf (some a0)]) rfl ?_)
    refine q_callV C (CN := RX9) (T := TX9) (N := 28) [.int v1] [] (fun a0 o2 hs1 hm => m_X9_checked hm) lk_X9_110 im_X9_checked se_X9_X9_checked rfl ⟨(Nat.le_of_ble_eq_true rfl), (Nat.le_of_ble_eq_true rfl)⟩ ⟨(Nat.le_of_ble_eq_true rfl), (Nat.le_of_ble_eq_true rfl)⟩ rfl rfl (by decide) dX9_cheapest_6 h (fun v2 hs h => WG_st (st' := [.int v2]) rfl ?_)
    refine q_if_le C 14 dX9_cheapest_9 (by decide) h (fun h => ?_) (fun h => ?_)
    · refine q_aload_n C 0 dX9_cheapest_14 rfl ?_
      refine q_iload_n C 1 dX9_cheapest_15 rfl ?_
      refine q_callV C (CN := RX9) (T := TX9) (N := 28) [.int p1] [] (fun a0 o2 hs1 hm => m_X9_cheapestOf hm) lk_X9_214 im_X9_cheapestOf se_X9_X9_cheapestOf rfl ⟨(Nat.le_of_ble_eq_true rfl), (Nat.le_of_ble_eq_true rfl)⟩ ⟨(Nat.le_of_ble_eq_true rfl), (Nat.le_of_ble_eq_true rfl)⟩ rfl rfl (by decide) dX9_cheapest_16 h (fun v3 hs h => WG_st (st' := [.int v3]) rfl ?_)
      refine q_istore_n C (fun v4 => [(2, .int v4), (0, va_rf (some a0)), (1, .int p1)]) dX9_cheapest_19 (by decide) (fun _ => rfl) h (fun v4 h => ?_)
      refine q_aload_n C 1 dX9_cheapest_20 rfl ?_
      refine q_iload_n C 0 dX9_cheapest_21 rfl ?_
      refine q_if_ge C 29 dX9_cheapest_22 (by decide) h (fun h => ?_) (fun h => ?_)
      · refine q_iconst C (0 : Int32) dX9_cheapest_29 (by decide) ?_
        refine WG.sub [1, 0] rfl ?_
        exact w_j_X9_cheapest_30 C C2 _ _ _ _   h
      · refine q_iconst C (2 : Int32) dX9_cheapest_25 (by decide) ?_
        refine q_goto C 30 dX9_cheapest_26 (by decide) ?_
        refine WG.sub [1, 0] rfl ?_
        exact w_j_X9_cheapest_30 C C2 _ _ _ _   h
    · refine q_iconst C (0 : Int32) dX9_cheapest_12 (by decide) ?_
      exact q_iret C C2 rfl (Nat.le_of_ble_eq_true rfl) (Nat.le_of_ble_eq_true rfl) dX9_cheapest_13 h
  rw [lg_entry_eq]
  exact key _ _ _ hR va_S.rf ⟨lv_entry _ (n := 3) (Nat.le_of_ble_eq_true rfl), (c1_r (c1_i c1_n))⟩

theorem cd_X9_costWith : Cond.code yX9_costWith cX9_costWith 4 (some .int) ∈ Tg := Tg_of (i := 1801) (by decide +kernel) (by decide +kernel)
section M_X9_costWith
variable {p : Program} {l : Launch} {e : Env} {s : State} {m : MethodId} {args : Array Value} {below : List Frame} {meth : Method} {c : Code} {G : GG} {o : Except Nat Int32} {hs' : Hs}
def j_X9_costWith_37 (a0 : Option Nat) (a1 : Int32) (a2 : Int32) (a3 : Int32)   : OO Int32 :=
  gI a0 12 20 fun v3 =>
    (if v3 ≤ 0 then
    rcv a0 12 fun r5 => call (f_X9_costAt r5 a1 (((8 : Int32) * a2) + a3)) (fun (v4 : Int32) =>
    rtn v4) nox
    else
    rtn (0 : Int32))
set_option maxRecDepth 100000 in
set_option maxHeartbeats 4000000 in
theorem w_j_X9_costWith_37 (C : Cx G l p s m args c RX9 cX9_costWith 4) (C2 : Cy meth c (some .int)) {hs : Hs} (a0 : Option Nat) (a1 : Int32) (a2 : Int32) (a3 : Int32)    (h : j_X9_costWith_37 a0 a1 a2 a3 hs = some (o, hs')) : WG G p l e { frames := 8, cells := 0, slots := 0, locals := 182 } s m args below meth c 4 0 0 (vx_MQ below (QcT G o hs' tvI) (XCT G o hs') args s 0 0 (gA G)) hs [(0, va_rf a0), (1, .int a1), (2, .int a2), (3, .int a3)] [] 37 := by
  unfold j_X9_costWith_37 at h
  refine q_aload_n C 0 dX9_costWith_37 rfl ?_
  refine q_gI C fl_X9_71 dX9_costWith_38 h (fun v3 h => ?_)
  refine q_if_le C 48 dX9_costWith_41 (by decide) h (fun h => ?_) (fun h => ?_)
  · refine q_aload_n C 0 dX9_costWith_48 rfl ?_
    refine q_iload_n C 1 dX9_costWith_49 rfl ?_
    refine q_bipush C (8 : Int32) dX9_costWith_50 (by decide) ?_
    refine q_iload_n C 2 dX9_costWith_52 rfl ?_
    refine q_imul C dX9_costWith_53 ?_
    refine q_iload_n C 3 dX9_costWith_54 rfl ?_
    refine q_iadd C dX9_costWith_55 ?_
    refine q_callV C (CN := RX9) (T := TX9) (N := 28) [.int a1, .int (((8 : Int32) * a2) + a3)] [] (fun a0 o2 hs1 hm => m_X9_costAt hm) lk_X9_196 im_X9_costAt se_X9_X9_costAt rfl ⟨(Nat.le_of_ble_eq_true rfl), (Nat.le_of_ble_eq_true rfl)⟩ ⟨(Nat.le_of_ble_eq_true rfl), (Nat.le_of_ble_eq_true rfl)⟩ rfl rfl (by decide) dX9_costWith_56 h (fun v4 hs h => WG_st (st' := [.int v4]) rfl ?_)
    exact q_iret C C2 rfl (Nat.le_of_ble_eq_true rfl) (Nat.le_of_ble_eq_true rfl) dX9_costWith_59 h
  · refine q_iconst C (0 : Int32) dX9_costWith_44 (by decide) ?_
    refine q_goto C 59 dX9_costWith_45 (by decide) ?_
    exact q_iret C C2 rfl (Nat.le_of_ble_eq_true rfl) (Nat.le_of_ble_eq_true rfl) dX9_costWith_59 h
def j_X9_costWith_34 (a0 : Option Nat) (a1 : Int32) (a2 : Int32) (a3 : Int32) (s0 : Int32) (s1 : Option Nat)  : OO Int32 :=
  pI s1 12 20 s0 (
    j_X9_costWith_37 a0 a1 a2 a3)
set_option maxRecDepth 100000 in
set_option maxHeartbeats 4000000 in
theorem w_j_X9_costWith_34 (C : Cx G l p s m args c RX9 cX9_costWith 4) (C2 : Cy meth c (some .int)) {hs : Hs} (a0 : Option Nat) (a1 : Int32) (a2 : Int32) (a3 : Int32) (s0 : Int32) (s1 : Option Nat)   (h : j_X9_costWith_34 a0 a1 a2 a3 s0 s1 hs = some (o, hs')) : WG G p l e { frames := 8, cells := 0, slots := 0, locals := 182 } s m args below meth c 4 0 0 (vx_MQ below (QcT G o hs' tvI) (XCT G o hs') args s 0 0 (gA G)) hs [(0, va_rf a0), (1, .int a1), (2, .int a2), (3, .int a3)] [.int s0, va_rf s1] 34 := by
  unfold j_X9_costWith_34 at h
  refine q_pI C fw_X9_71 (fun z => nomatch z) dX9_costWith_34 h (fun hs h => ?_)
  exact w_j_X9_costWith_37 C C2 _ _ _ _   h
end M_X9_costWith
def f_X9_costWith (a0 : Nat) (p1 : Int32) (p2 : Int32) (p3 : Int32) : OO Int32 :=
    rcv (some a0) 12 fun r8 => call (f_X9_wrongPlace r8 p1 p2 p3) (fun (v1 : Int32) =>
    pI (some a0) 12 20 v1 (
    gI (some a0) 12 20 fun v2 =>
    (if ¬ v2 = 0 then
    j_X9_costWith_37 (some a0) p1 p2 p3
    else
    rcv (some a0) 12 fun r7 => call (f_X9_letters r7 p1 p2 p3) (fun (v6 : Int32) =>
    (if v6 ≤ 0 then
    j_X9_costWith_34 (some a0) p1 p2 p3 (0 : Int32) (some a0)
    else
    j_X9_costWith_34 (some a0) p1 p2 p3 (3 : Int32) (some a0))) nox))) nox
set_option maxRecDepth 100000 in
set_option maxHeartbeats 4000000 in
theorem m_X9_costWith {G : GG} {l : Launch} {a0 : Nat} {p1 : Int32} {p2 : Int32} {p3 : Int32} {hs hs' : Hs} {o : Except Nat Int32} (h : f_X9_costWith a0 p1 p2 p3 hs = some (o, hs')) : CT G l yX9_costWith cX9_costWith 4 (some .int) 8 182 0 0 [.ref a0, .int p1, .int p2, .int p3] hs o hs' tvI := by
  refine vx_ofW (cc := cX9_costWith) (maxL := 4) (ret := (some .int)) (by decide +kernel) rfl ?_
  intro p e s m args below meth c s₁ B hml hxt hv
  obtain ⟨hav, hR, hKn⟩ := hv
  subst hav
  have hts := atoms_spec (ws := .code yX9_costWith cX9_costWith 4 (some .int) :: Tg) B.pre
  have C : Cx G l p s m _ c RX9 cX9_costWith 4 := ⟨B.exec, B.bytes, hml, findClass_of_methodNamed B.named, fun w hw => hts w (List.mem_cons_of_mem _ hw), hKn, fun q hq => Nat.le_trans hR.2.2.1 hq⟩
  have C2 : Cy meth c (some .int) := ⟨B.returns, B.notSynchronized, hxt⟩
  have key : WG G p l e { frames := 8, cells := 0, slots := 0, locals := 182 } s m ([.ref a0, .int p1, .int p2, .int p3] : List Value).toArray below meth c 4 0 0 (vx_MQ below (QcT G o hs' tvI) (XCT G o hs') ([.ref a0, .int p1, .int p2, .int p3] : List Value).toArray s 0 0 (gA G)) hs [(0, va_rf (some a0)), (1, .int p1), (2, .int p2), (3, .int p3)] [] 0 := by
    unfold f_X9_costWith at h
    refine q_aload_n C 0 dX9_costWith_0 rfl ?_
    refine q_aload_n C 0 dX9_costWith_1 rfl ?_
    refine q_iload_n C 1 dX9_costWith_2 rfl ?_
    refine q_iload_n C 2 dX9_costWith_3 rfl ?_
    refine q_iload_n C 3 dX9_costWith_4 rfl ?_
    refine q_callV C (CN := RX9) (T := TX9) (N := 28) [.int p1, .int p2, .int p3] [va_rf (some a0)] (fun a0 o2 hs1 hm => m_X9_wrongPlace hm) lk_X9_154 im_X9_wrongPlace se_X9_X9_wrongPlace rfl ⟨(Nat.le_of_ble_eq_true rfl), (Nat.le_of_ble_eq_true rfl)⟩ ⟨(Nat.le_of_ble_eq_true rfl), (Nat.le_of_ble_eq_true rfl)⟩ rfl rfl (by simp only [List.map, cat_rf, cat_i, cat_a]; decide) dX9_costWith_5 h (fun v1 hs h => WG_st (st' := [.int v1, va_rf (some a0)]) rfl ?_)
    refine q_pI C fw_X9_71 (fun z => nomatch z) dX9_costWith_8 h (fun hs h => ?_)
    refine q_aload_n C 0 dX9_costWith_11 rfl ?_
    refine q_gI C fl_X9_71 dX9_costWith_12 h (fun v2 h => ?_)
    refine q_if_ne C 37 dX9_costWith_15 (by decide) h (fun h => ?_) (fun h => ?_)
    · exact w_j_X9_costWith_37 C C2 _ _ _ _   h
    · refine q_aload_n C 0 dX9_costWith_18 rfl ?_
      refine q_aload_n C 0 dX9_costWith_19 rfl ?_
      refine q_iload_n C 1 dX9_costWith_20 rfl ?_
      refine q_iload_n C 2 dX9_costWith_21 rfl ?_
      refine q_iload_n C 3 dX9_costWith_22 rfl ?_
      refine q_callV C (CN := RX9) (T := TX9) (N := 28) [.int p1, .int p2, .int p3] [va_rf (some a0)] (fun a0 o2 hs1 hm => m_X9_letters hm) lk_X9_145 im_X9_letters se_X9_X9_letters rfl ⟨(Nat.le_of_ble_eq_true rfl), (Nat.le_of_ble_eq_true rfl)⟩ ⟨(Nat.le_of_ble_eq_true rfl), (Nat.le_of_ble_eq_true rfl)⟩ rfl rfl (by simp only [List.map, cat_rf, cat_i, cat_a]; decide) dX9_costWith_23 h (fun v6 hs h => WG_st (st' := [.int v6, va_rf (some a0)]) rfl ?_)
      refine q_if_le C 33 dX9_costWith_26 (by decide) h (fun h => ?_) (fun h => ?_)
      · refine q_iconst C (0 : Int32) dX9_costWith_33 (by decide) ?_
        exact w_j_X9_costWith_34 C C2 _ _ _ _ _ _   h
      · refine q_iconst C (3 : Int32) dX9_costWith_29 (by decide) ?_
        refine q_goto C 34 dX9_costWith_30 (by decide) ?_
        exact w_j_X9_costWith_34 C C2 _ _ _ _ _ _   h
  rw [lg_entry_eq]
  exact key _ _ _ hR va_S.rf ⟨lv_entry _ (n := 4) (Nat.le_of_ble_eq_true rfl), (c1_r (c1_i (c1_i (c1_i c1_n))))⟩

theorem cd_X9_unplaced : Cond.code yX9_unplaced cX9_unplaced 3 (some (.array .boolean)) ∈ Tg := Tg_of (i := 1809) (by decide +kernel) (by decide +kernel)
section M_X9_unplaced
variable {p : Program} {l : Launch} {e : Env} {s : State} {m : MethodId} {args : Array Value} {below : List Frame} {meth : Method} {c : Code} {G : GG} {o : Except Nat (Option Nat)} {hs' : Hs}
def j_X9_unplaced_30 (a0 : Option Nat) (a1 : Option Nat) (a2 : Int32) (s0 : Int32) (s1 : Int32) (s2 : Option Nat) (rec_7 : Int32 → OO (Option Nat)) : OO (Option Nat) :=
  stZ s2 s1 s0 (
    lets (a2 + (1 : Int32)) fun (v6 : Int32) =>
    rec_7 v6)
set_option maxRecDepth 100000 in
set_option maxHeartbeats 4000000 in
theorem w_j_X9_unplaced_30 (C : Cx G l p s m args c RX9 cX9_unplaced 3) (C2 : Cy meth c (some (.array .boolean))) {hs : Hs} (a0 : Option Nat) (a1 : Option Nat) (a2 : Int32) (s0 : Int32) (s1 : Int32) (s2 : Option Nat) (rec_7 : Int32 → OO (Option Nat)) (hrec_7 : ∀ (y2 : Int32) hs, rec_7 y2 hs = some (o, hs') → WG G p l e { frames := 1, cells := 1, slots := 16, locals := 21 } s m args below meth c 3 1 16 (vx_MQ below (QcT G o hs' tvR) (XCT G o hs') args s 1 16 (gA G)) hs [(0, va_rf a0), (1, va_rf a1), (2, .int y2)] [] 7) (h : j_X9_unplaced_30 a0 a1 a2 s0 s1 s2 rec_7 hs = some (o, hs')) : WG G p l e { frames := 1, cells := 1, slots := 16, locals := 21 } s m args below meth c 3 1 16 (vx_MQ below (QcT G o hs' tvR) (XCT G o hs') args s 1 16 (gA G)) hs [(0, va_rf a0), (1, va_rf a1), (2, .int a2)] [.int s0, .int s1, va_rf s2] 30 := by
  unfold j_X9_unplaced_30 at h
  refine q_zast C dX9_unplaced_30 h (fun hs h => ?_)
  refine q_iinc C 2 (1 : Int32) (fun v6 => [(2, .int v6), (0, va_rf a0), (1, va_rf a1)]) dX9_unplaced_31 rfl (by decide) (by decide) (fun _ => rfl) h (fun v6 h => ?_)
  refine q_goto C 7 dX9_unplaced_34 (by decide) ?_
  refine WG.sub [1, 2, 0] rfl ?_
  exact hrec_7 _ _ h
def L_X9_unplaced_7 (a0 : Option Nat) (a1 : Option Nat) (k_7_37 : OO (Option Nat)) : Nat → Int32 → OO (Option Nat)
  | 0, _ => failO
  | n + 1, x2 =>
    gI a0 12 24 fun v4 =>
    (if v4 ≤ x2 then
    k_7_37
    else
    rcv a0 12 fun r7 => call (f_X9_isPlaced r7 x2) (fun (v5 : Int32) =>
    (if ¬ v5 = 0 then
    j_X9_unplaced_30 a0 a1 x2 (0 : Int32) x2 a1 (L_X9_unplaced_7 a0 a1 k_7_37 n)
    else
    j_X9_unplaced_30 a0 a1 x2 (1 : Int32) x2 a1 (L_X9_unplaced_7 a0 a1 k_7_37 n))) nox)
set_option maxRecDepth 100000 in
set_option maxHeartbeats 4000000 in
theorem w_L_X9_unplaced_7 (C : Cx G l p s m args c RX9 cX9_unplaced 3) (C2 : Cy meth c (some (.array .boolean))) (a0 : Option Nat) (a1 : Option Nat) (k_7_37 : OO (Option Nat)) (hk_7_37 : ∀ hs, k_7_37  hs = some (o, hs') → WG G p l e { frames := 1, cells := 1, slots := 16, locals := 21 } s m args below meth c 3 1 16 (vx_MQ below (QcT G o hs' tvR) (XCT G o hs') args s 1 16 (gA G)) hs [(1, va_rf a1)] [] 37) : ∀ (n : Nat) (x2 : Int32) (hs : Hs), L_X9_unplaced_7 a0 a1 k_7_37 n x2 hs = some (o, hs') → WG G p l e { frames := 1, cells := 1, slots := 16, locals := 21 } s m args below meth c 3 1 16 (vx_MQ below (QcT G o hs' tvR) (XCT G o hs') args s 1 16 (gA G)) hs [(0, va_rf a0), (1, va_rf a1), (2, .int x2)] [] 7 := by
  intro n
  induction n with
  | zero =>
    intro x2 hs h
    rw [L_X9_unplaced_7] at h
    exact absurd h failO_e
  | succ n hrec_7 =>
    intro x2 hs h
    rw [L_X9_unplaced_7] at h
    refine q_iload_n C 2 dX9_unplaced_7 rfl ?_
    refine q_aload_n C 0 dX9_unplaced_8 rfl ?_
    refine q_gI C fl_X9_84 dX9_unplaced_9 h (fun v4 h => ?_)
    refine q_icmp_ge C 37 dX9_unplaced_12 (by decide) h (fun h => ?_) (fun h => ?_)
    · refine WG.sub [1] rfl ?_
      exact hk_7_37 _ h
    · refine q_aload_n C 1 dX9_unplaced_15 rfl ?_
      refine q_iload_n C 2 dX9_unplaced_16 rfl ?_
      refine q_aload_n C 0 dX9_unplaced_17 rfl ?_
      refine q_iload_n C 2 dX9_unplaced_18 rfl ?_
      refine q_callV C (CN := RX9) (T := TX9) (N := 28) [.int x2] [.int x2, va_rf a1] (fun a0 o2 hs1 hm => m_X9_isPlaced hm) lk_X9_118 im_X9_isPlaced se_X9_X9_isPlaced rfl ⟨(Nat.le_of_ble_eq_true rfl), (Nat.le_of_ble_eq_true rfl)⟩ ⟨(Nat.le_of_ble_eq_true rfl), (Nat.le_of_ble_eq_true rfl)⟩ rfl rfl (by simp only [List.map, cat_rf, cat_i, cat_a]; decide) dX9_unplaced_19 h (fun v5 hs h => WG_st (st' := [.int v5, .int x2, va_rf a1]) rfl ?_)
      refine q_if_ne C 29 dX9_unplaced_22 (by decide) h (fun h => ?_) (fun h => ?_)
      · refine q_iconst C (0 : Int32) dX9_unplaced_29 (by decide) ?_
        exact w_j_X9_unplaced_30 C C2 _ _ _ _ _ _ _ hrec_7 h
      · refine q_iconst C (1 : Int32) dX9_unplaced_25 (by decide) ?_
        refine q_goto C 30 dX9_unplaced_26 (by decide) ?_
        exact w_j_X9_unplaced_30 C C2 _ _ _ _ _ _ _ hrec_7 h
end M_X9_unplaced
def f_X9_unplaced (a0 : Nat) : OO (Option Nat) :=
    nwI 1 (16 : Int32) 16 fun q1 =>
    lets (some q1) fun (v2 : Option Nat) =>
    lets (0 : Int32) fun (v3 : Int32) =>
    L_X9_unplaced_7 (some a0) v2 (rtn v2) 100000 v3
set_option maxRecDepth 100000 in
set_option maxHeartbeats 4000000 in
theorem m_X9_unplaced {G : GG} {l : Launch} {a0 : Nat} {hs hs' : Hs} {o : Except Nat (Option Nat)} (h : f_X9_unplaced a0 hs = some (o, hs')) : CT G l yX9_unplaced cX9_unplaced 3 (some (.array .boolean)) 1 21 1 16 [.ref a0] hs o hs' tvR := by
  refine vx_ofW (cc := cX9_unplaced) (maxL := 3) (ret := (some (.array .boolean))) (by decide +kernel) rfl ?_
  intro p e s m args below meth c s₁ B hml hxt hv
  obtain ⟨hav, hR, hKn⟩ := hv
  subst hav
  have hts := atoms_spec (ws := .code yX9_unplaced cX9_unplaced 3 (some (.array .boolean)) :: Tg) B.pre
  have C : Cx G l p s m _ c RX9 cX9_unplaced 3 := ⟨B.exec, B.bytes, hml, findClass_of_methodNamed B.named, fun w hw => hts w (List.mem_cons_of_mem _ hw), hKn, fun q hq => Nat.le_trans hR.2.2.1 hq⟩
  have C2 : Cy meth c (some (.array .boolean)) := ⟨B.returns, B.notSynchronized, hxt⟩
  have key : WG G p l e { frames := 1, cells := 1, slots := 16, locals := 21 } s m ([.ref a0] : List Value).toArray below meth c 3 0 0 (vx_MQ below (QcT G o hs' tvR) (XCT G o hs') ([.ref a0] : List Value).toArray s 1 16 (gA G)) hs [(0, va_rf (some a0))] [] 0 := by
    unfold f_X9_unplaced at h
    refine q_bipush C (16 : Int32) dX9_unplaced_0 (by decide) ?_
    refine q_newZ C 16 (Nat.le_of_ble_eq_true rfl) ac_1 (Nat.le_of_ble_eq_true rfl) (Nat.le_of_ble_eq_true rfl) dX9_unplaced_2 h (fun q1 hs h => ?_)
    refine q_astore_n C (fun v2 => [(1, va_rf v2), (0, va_rf (some a0))]) dX9_unplaced_4 (by decide) (fun _ => rfl) h (fun v2 h => ?_)
    refine q_iconst C (0 : Int32) dX9_unplaced_5 (by decide) ?_
    refine q_istore_n C (fun v3 => [(2, .int v3), (1, va_rf v2), (0, va_rf (some a0))]) dX9_unplaced_6 (by decide) (fun _ => rfl) h (fun v3 h => ?_)
    refine WG.sub [2, 1, 0] rfl ?_
    refine w_L_X9_unplaced_7 C C2 _ _ _ ?_ _ _ _ h
    · intro  hs h
      refine q_aload_n C 0 dX9_unplaced_37 rfl ?_
      exact q_aret C C2 rfl (Or.inr ⟨_, rfl⟩) (Nat.le_of_ble_eq_true rfl) (Nat.le_of_ble_eq_true rfl) dX9_unplaced_38 h
  rw [lg_entry_eq]
  exact key _ _ _ hR va_S.rf ⟨lv_entry _ (n := 3) (Nat.le_of_ble_eq_true rfl), (c1_r c1_n)⟩

theorem cd_X9_hardest : Cond.code yX9_hardest cX9_hardest 2 (some .int) ∈ Tg := Tg_of (i := 1805) (by decide +kernel) (by decide +kernel)
theorem ml_X9_217 : Cond.methodLink RX9 217 yX9_unplaced ∈ Tg := Tg_of (i := 1806) (by decide +kernel) (by decide +kernel)
theorem lk_X9_217 : Lk RX9 217 yX9_unplaced cX9_unplaced 3 (some (.array .boolean)) 0 := ⟨ml_X9_217, cd_X9_unplaced, iw_X9, by decide +kernel⟩
theorem ml_X9_221 : Cond.methodLink RX9 221 yX9_hardestOf ∈ Tg := Tg_of (i := 1810) (by decide +kernel) (by decide +kernel)
theorem lk_X9_221 : Lk RX9 221 yX9_hardestOf cX9_hardestOf 6 (some .int) 1 := ⟨ml_X9_221, cd_X9_hardestOf, iw_X9, by decide +kernel⟩
theorem im_X9_hardestOf : Cond.instanceMethod yX9_hardestOf ∈ Tg := Tg_of (i := 1812) (by decide +kernel) (by decide +kernel)
theorem se_X9_X9_hardestOf : Cond.selects RX9 yX9_hardestOf yX9_hardestOf ∈ Tg := Tg_of (i := 69) (by decide +kernel) (by decide +kernel)
theorem im_X9_unplaced : Cond.instanceMethod yX9_unplaced ∈ Tg := Tg_of (i := 1808) (by decide +kernel) (by decide +kernel)
theorem se_X9_X9_unplaced : Cond.selects RX9 yX9_unplaced yX9_unplaced ∈ Tg := Tg_of (i := 68) (by decide +kernel) (by decide +kernel)
section M_X9_hardest
variable {p : Program} {l : Launch} {e : Env} {s : State} {m : MethodId} {args : Array Value} {below : List Frame} {meth : Method} {c : Code} {G : GG} {o : Except Nat Int32} {hs' : Hs}
def j_X9_hardest_19 (a1 : Int32) (s0 : Int32) (s1 : Option Nat)  : OO Int32 :=
  rcv s1 12 fun r5 => call (f_X9_checked r5 s0) (fun (v4 : Int32) =>
    (if v4 ≤ 0 then
    rtn a1
    else
    rtn (0 : Int32))) nox
set_option maxRecDepth 100000 in
set_option maxHeartbeats 4000000 in
theorem w_j_X9_hardest_19 (C : Cx G l p s m args c RX9 cX9_hardest 2) (C2 : Cy meth c (some .int)) {hs : Hs} (a1 : Int32) (s0 : Int32) (s1 : Option Nat)   (h : j_X9_hardest_19 a1 s0 s1 hs = some (o, hs')) : WG G p l e { frames := 8, cells := 1, slots := 16, locals := 188 } s m args below meth c 2 1 16 (vx_MQ below (QcT G o hs' tvI) (XCT G o hs') args s 1 16 (gA G)) hs [(1, .int a1)] [.int s0, va_rf s1] 19 := by
  unfold j_X9_hardest_19 at h
  refine q_callV C (CN := RX9) (T := TX9) (N := 28) [.int s0] [] (fun a0 o2 hs1 hm => m_X9_checked hm) lk_X9_110 im_X9_checked se_X9_X9_checked rfl ⟨(Nat.le_of_ble_eq_true rfl), (Nat.le_of_ble_eq_true rfl)⟩ ⟨(Nat.le_of_ble_eq_true rfl), (Nat.le_of_ble_eq_true rfl)⟩ rfl rfl (by decide) dX9_hardest_19 h (fun v4 hs h => WG_st (st' := [.int v4]) rfl ?_)
  refine q_if_le C 29 dX9_hardest_22 (by decide) h (fun h => ?_) (fun h => ?_)
  · refine q_iload_n C 0 dX9_hardest_29 rfl ?_
    exact q_iret C C2 rfl (Nat.le_of_ble_eq_true rfl) (Nat.le_of_ble_eq_true rfl) dX9_hardest_30 h
  · refine q_iconst C (0 : Int32) dX9_hardest_25 (by decide) ?_
    refine q_goto C 30 dX9_hardest_26 (by decide) ?_
    exact q_iret C C2 rfl (Nat.le_of_ble_eq_true rfl) (Nat.le_of_ble_eq_true rfl) dX9_hardest_30 h
end M_X9_hardest
def f_X9_hardest (a0 : Nat) : OO Int32 :=
    rcv (some a0) 12 fun r7 => call (f_X9_unplaced r7 ) (fun (v1 : Option Nat) =>
    rcv (some a0) 12 fun r6 => call (f_X9_hardestOf r6 v1) (fun (v2 : Int32) =>
    lets v2 fun (v3 : Int32) =>
    (if v3 < 0 then
    j_X9_hardest_19 v3 (0 : Int32) (some a0)
    else
    j_X9_hardest_19 v3 (1 : Int32) (some a0))) nox) nox
set_option maxRecDepth 100000 in
set_option maxHeartbeats 4000000 in
theorem m_X9_hardest {G : GG} {l : Launch} {a0 : Nat} {hs hs' : Hs} {o : Except Nat Int32} (h : f_X9_hardest a0 hs = some (o, hs')) : CT G l yX9_hardest cX9_hardest 2 (some .int) 8 188 1 16 [.ref a0] hs o hs' tvI := by
  refine vx_ofW (cc := cX9_hardest) (maxL := 2) (ret := (some .int)) (by decide +kernel) rfl ?_
  intro p e s m args below meth c s₁ B hml hxt hv
  obtain ⟨hav, hR, hKn⟩ := hv
  subst hav
  have hts := atoms_spec (ws := .code yX9_hardest cX9_hardest 2 (some .int) :: Tg) B.pre
  have C : Cx G l p s m _ c RX9 cX9_hardest 2 := ⟨B.exec, B.bytes, hml, findClass_of_methodNamed B.named, fun w hw => hts w (List.mem_cons_of_mem _ hw), hKn, fun q hq => Nat.le_trans hR.2.2.1 hq⟩
  have C2 : Cy meth c (some .int) := ⟨B.returns, B.notSynchronized, hxt⟩
  have key : WG G p l e { frames := 8, cells := 1, slots := 16, locals := 188 } s m ([.ref a0] : List Value).toArray below meth c 2 0 0 (vx_MQ below (QcT G o hs' tvI) (XCT G o hs') ([.ref a0] : List Value).toArray s 1 16 (gA G)) hs [(0, va_rf (some a0))] [] 0 := by
    unfold f_X9_hardest at h
    refine q_aload_n C 0 dX9_hardest_0 rfl ?_
    refine q_aload_n C 0 dX9_hardest_1 rfl ?_
    refine q_callV C (CN := RX9) (T := TX9) (N := 28) [] [va_rf (some a0)] (fun a0 o2 hs1 hm => m_X9_unplaced hm) lk_X9_217 im_X9_unplaced se_X9_X9_unplaced rfl ⟨(Nat.le_of_ble_eq_true rfl), (Nat.le_of_ble_eq_true rfl)⟩ ⟨(Nat.le_of_ble_eq_true rfl), (Nat.le_of_ble_eq_true rfl)⟩ rfl rfl (by simp only [List.map, cat_rf, cat_i, cat_a]; decide) dX9_hardest_2 h (fun v1 hs h => WG_st (st' := [va_rf v1, va_rf (some a0)]) rfl ?_)
    refine q_callV C (CN := RX9) (T := TX9) (N := 28) [va_rf v1] [] (fun a0 o2 hs1 hm => m_X9_hardestOf hm) lk_X9_221 im_X9_hardestOf se_X9_X9_hardestOf rfl ⟨(Nat.le_of_ble_eq_true rfl), (Nat.le_of_ble_eq_true rfl)⟩ ⟨(Nat.le_of_ble_eq_true rfl), (Nat.le_of_ble_eq_true rfl)⟩ rfl rfl (by decide) dX9_hardest_5 h (fun v2 hs h => WG_st (st' := [.int v2]) rfl ?_)
    refine q_istore_n C (fun v3 => [(1, .int v3), (0, va_rf (some a0))]) dX9_hardest_8 (by decide) (fun _ => rfl) h (fun v3 h => ?_)
    refine q_aload_n C 1 dX9_hardest_9 rfl ?_
    refine q_iload_n C 0 dX9_hardest_10 rfl ?_
    refine q_if_lt C 18 dX9_hardest_11 (by decide) h (fun h => ?_) (fun h => ?_)
    · refine q_iconst C (0 : Int32) dX9_hardest_18 (by decide) ?_
      refine WG.sub [0] rfl ?_
      exact w_j_X9_hardest_19 C C2 _ _ _   h
    · refine q_iconst C (1 : Int32) dX9_hardest_14 (by decide) ?_
      refine q_goto C 19 dX9_hardest_15 (by decide) ?_
      refine WG.sub [0] rfl ?_
      exact w_j_X9_hardest_19 C C2 _ _ _   h
  rw [lg_entry_eq]
  exact key _ _ _ hR va_S.rf ⟨lv_entry _ (n := 2) (Nat.le_of_ble_eq_true rfl), (c1_r c1_n)⟩

theorem cd_X9_barring : Cond.code yX9_barring cX9_barring 5 (some .int) ∈ Tg := Tg_of (i := 1825) (by decide +kernel) (by decide +kernel)
section M_X9_barring
variable {p : Program} {l : Launch} {e : Env} {s : State} {m : MethodId} {args : Array Value} {below : List Frame} {meth : Method} {c : Code} {G : GG} {o : Except Nat Int32} {hs' : Hs}
def j_X9_barring_83 (a0 : Option Nat) (a1 : Int32) (a2 : Int32) (a3 : Int32) (a4 : Int32)  (rec_34 : Int32 → Int32 → OO Int32) : OO Int32 :=
  lets (a4 + (1 : Int32)) fun (v10 : Int32) =>
    rec_34 a3 v10
set_option maxRecDepth 100000 in
set_option maxHeartbeats 4000000 in
theorem w_j_X9_barring_83 (C : Cx G l p s m args c RX9 cX9_barring 5) (C2 : Cy meth c (some .int)) {hs : Hs} (a0 : Option Nat) (a1 : Int32) (a2 : Int32) (a3 : Int32) (a4 : Int32)  (rec_34 : Int32 → Int32 → OO Int32) (hrec_34 : ∀ (y3 : Int32) (y4 : Int32) hs, rec_34 y3 y4 hs = some (o, hs') → WG G p l e { frames := 4, cells := 0, slots := 0, locals := 93 } s m args below meth c 5 0 0 (vx_MQ below (QcT G o hs' tvI) (XCT G o hs') args s 0 0 (gA G)) hs [(0, va_rf a0), (1, .int a1), (2, .int a2), (3, .int y3), (4, .int y4)] [] 34) (h : j_X9_barring_83 a0 a1 a2 a3 a4 rec_34 hs = some (o, hs')) : WG G p l e { frames := 4, cells := 0, slots := 0, locals := 93 } s m args below meth c 5 0 0 (vx_MQ below (QcT G o hs' tvI) (XCT G o hs') args s 0 0 (gA G)) hs [(0, va_rf a0), (1, .int a1), (2, .int a2), (3, .int a3), (4, .int a4)] [] 83 := by
  unfold j_X9_barring_83 at h
  refine q_iinc C 4 (1 : Int32) (fun v10 => [(4, .int v10), (0, va_rf a0), (1, .int a1), (2, .int a2), (3, .int a3)]) dX9_barring_83 rfl (by decide) (by decide) (fun _ => rfl) h (fun v10 h => ?_)
  refine q_goto C 34 dX9_barring_86 (by decide) ?_
  refine WG.sub [1, 2, 3, 4, 0] rfl ?_
  exact hrec_34 _ _ _ h
def L_X9_barring_34 (a0 : Option Nat) (a1 : Int32) (a2 : Int32) (k_34_74 : OO Int32) (k_34_89 : Int32 → OO Int32) : Nat → Int32 → Int32 → OO Int32
  | 0, _, _ => failO
  | n + 1, x3, x4 =>
    gI a0 12 24 fun v5 =>
    (if v5 ≤ x4 then
    k_34_89 x3
    else
    dvz (8 : Int32) (
    dvz (8 : Int32) (
    rcv a0 12 fun r11 => call (f_X9_lettersBy r11 x4 a1 (a2 / (8 : Int32)) (irem a2 (8 : Int32))) (fun (v6 : Int32) =>
    (if ¬ v6 = 0 then
    gR a0 12 8 fun v7 =>
    ldI 1 v7 x4 fun v8 =>
    (if v8 = 0 then
    lets ((x3 + (((1 : Int32) <<< (x4 &&& 31))))) fun (v9 : Int32) =>
    j_X9_barring_83 a0 a1 a2 v9 x4 (L_X9_barring_34 a0 a1 a2 k_34_74 k_34_89 n)
    else
    k_34_74)
    else
    j_X9_barring_83 a0 a1 a2 x3 x4 (L_X9_barring_34 a0 a1 a2 k_34_74 k_34_89 n))) nox)))
set_option maxRecDepth 100000 in
set_option maxHeartbeats 4000000 in
theorem w_L_X9_barring_34 (C : Cx G l p s m args c RX9 cX9_barring 5) (C2 : Cy meth c (some .int)) (a0 : Option Nat) (a1 : Int32) (a2 : Int32) (k_34_74 : OO Int32) (k_34_89 : Int32 → OO Int32) (hk_34_74 : ∀ hs, k_34_74  hs = some (o, hs') → WG G p l e { frames := 4, cells := 0, slots := 0, locals := 93 } s m args below meth c 5 0 0 (vx_MQ below (QcT G o hs' tvI) (XCT G o hs') args s 0 0 (gA G)) hs [] [] 74) (hk_34_89 : ∀ (y3 : Int32) hs, k_34_89 y3 hs = some (o, hs') → WG G p l e { frames := 4, cells := 0, slots := 0, locals := 93 } s m args below meth c 5 0 0 (vx_MQ below (QcT G o hs' tvI) (XCT G o hs') args s 0 0 (gA G)) hs [(3, .int y3)] [] 89) : ∀ (n : Nat) (x3 : Int32) (x4 : Int32) (hs : Hs), L_X9_barring_34 a0 a1 a2 k_34_74 k_34_89 n x3 x4 hs = some (o, hs') → WG G p l e { frames := 4, cells := 0, slots := 0, locals := 93 } s m args below meth c 5 0 0 (vx_MQ below (QcT G o hs' tvI) (XCT G o hs') args s 0 0 (gA G)) hs [(0, va_rf a0), (1, .int a1), (2, .int a2), (3, .int x3), (4, .int x4)] [] 34 := by
  intro n
  induction n with
  | zero =>
    intro x3 x4 hs h
    rw [L_X9_barring_34] at h
    exact absurd h failO_e
  | succ n hrec_34 =>
    intro x3 x4 hs h
    rw [L_X9_barring_34] at h
    refine q_iload C 4 dX9_barring_34 rfl ?_
    refine q_aload_n C 0 dX9_barring_36 rfl ?_
    refine q_gI C fl_X9_84 dX9_barring_37 h (fun v5 h => ?_)
    refine q_icmp_ge C 89 dX9_barring_40 (by decide) h (fun h => ?_) (fun h => ?_)
    · refine WG.sub [3] rfl ?_
      exact hk_34_89 _ _ h
    · refine q_aload_n C 0 dX9_barring_43 rfl ?_
      refine q_iload C 4 dX9_barring_44 rfl ?_
      refine q_iload_n C 1 dX9_barring_46 rfl ?_
      refine q_iload_n C 2 dX9_barring_47 rfl ?_
      refine q_bipush C (8 : Int32) dX9_barring_48 (by decide) ?_
      refine q_idiv C dX9_barring_50 h (fun h => ?_)
      refine q_iload_n C 2 dX9_barring_51 rfl ?_
      refine q_bipush C (8 : Int32) dX9_barring_52 (by decide) ?_
      refine q_irem C dX9_barring_54 h (fun h => ?_)
      refine q_callV C (CN := RX9) (T := TX9) (N := 28) [.int x4, .int a1, .int (a2 / (8 : Int32)), .int (irem a2 (8 : Int32))] [] (fun a0 o2 hs1 hm => m_X9_lettersBy hm) lk_X9_138 im_X9_lettersBy se_X9_X9_lettersBy rfl ⟨(Nat.le_of_ble_eq_true rfl), (Nat.le_of_ble_eq_true rfl)⟩ ⟨(Nat.le_of_ble_eq_true rfl), (Nat.le_of_ble_eq_true rfl)⟩ rfl rfl (by decide) dX9_barring_55 h (fun v6 hs h => WG_st (st' := [.int v6]) rfl ?_)
      refine q_if_ne C 64 dX9_barring_58 (by decide) h (fun h => ?_) (fun h => ?_)
      · refine q_aload_n C 0 dX9_barring_64 rfl ?_
        refine q_gR C fl_X9_35 dX9_barring_65 h (fun v7 h => ?_)
        refine q_iload C 4 dX9_barring_68 rfl ?_
        refine q_zald C dX9_barring_70 h (fun v8 h => ?_)
        refine q_if_eq C 76 dX9_barring_71 (by decide) h (fun h => ?_) (fun h => ?_)
        · refine q_iload_n C 3 dX9_barring_76 rfl ?_
          refine q_iconst C (1 : Int32) dX9_barring_77 (by decide) ?_
          refine q_iload C 4 dX9_barring_78 rfl ?_
          refine q_ishl C dX9_barring_80 ?_
          refine q_iadd C dX9_barring_81 ?_
          refine q_istore_n C (fun v9 => [(3, .int v9), (0, va_rf a0), (1, .int a1), (2, .int a2), (4, .int x4)]) dX9_barring_82 (by decide) (fun _ => rfl) h (fun v9 h => ?_)
          refine WG.sub [1, 2, 3, 0, 4] rfl ?_
          exact w_j_X9_barring_83 C C2 _ _ _ _ _ _ hrec_34 h
        · refine WG.sub [] rfl ?_
          exact hk_34_74 _ h
      · refine q_goto C 83 dX9_barring_61 (by decide) ?_
        exact w_j_X9_barring_83 C C2 _ _ _ _ _ _ hrec_34 h
end M_X9_barring
def f_X9_barring (a0 : Nat) (p1 : Int32) (p2 : Int32) : OO Int32 :=
    dvz (8 : Int32) (
    gI (some a0) 12 21 fun v1 =>
    (if v1 ≤ (irem p2 (8 : Int32)) then
    rtn (-1 : Int32)
    else
    dvz (8 : Int32) (
    dvz (8 : Int32) (
    rcv (some a0) 12 fun r13 => call (f_X9_plainLetters r13 p1 (p2 / (8 : Int32)) (irem p2 (8 : Int32))) (fun (v2 : Int32) =>
    (if v2 ≤ 0 then
    lets (0 : Int32) fun (v3 : Int32) =>
    lets (0 : Int32) fun (v4 : Int32) =>
    L_X9_barring_34 (some a0) p1 p2 (rtn (-1 : Int32)) (fun (v12 : Int32) => rtn v12) 100000 v3 v4
    else
    rtn (-1 : Int32))) nox))))
set_option maxRecDepth 100000 in
set_option maxHeartbeats 4000000 in
theorem m_X9_barring {G : GG} {l : Launch} {a0 : Nat} {p1 : Int32} {p2 : Int32} {hs hs' : Hs} {o : Except Nat Int32} (h : f_X9_barring a0 p1 p2 hs = some (o, hs')) : CT G l yX9_barring cX9_barring 5 (some .int) 4 93 0 0 [.ref a0, .int p1, .int p2] hs o hs' tvI := by
  refine vx_ofW (cc := cX9_barring) (maxL := 5) (ret := (some .int)) (by decide +kernel) rfl ?_
  intro p e s m args below meth c s₁ B hml hxt hv
  obtain ⟨hav, hR, hKn⟩ := hv
  subst hav
  have hts := atoms_spec (ws := .code yX9_barring cX9_barring 5 (some .int) :: Tg) B.pre
  have C : Cx G l p s m _ c RX9 cX9_barring 5 := ⟨B.exec, B.bytes, hml, findClass_of_methodNamed B.named, fun w hw => hts w (List.mem_cons_of_mem _ hw), hKn, fun q hq => Nat.le_trans hR.2.2.1 hq⟩
  have C2 : Cy meth c (some .int) := ⟨B.returns, B.notSynchronized, hxt⟩
  have key : WG G p l e { frames := 4, cells := 0, slots := 0, locals := 93 } s m ([.ref a0, .int p1, .int p2] : List Value).toArray below meth c 5 0 0 (vx_MQ below (QcT G o hs' tvI) (XCT G o hs') ([.ref a0, .int p1, .int p2] : List Value).toArray s 0 0 (gA G)) hs [(0, va_rf (some a0)), (1, .int p1), (2, .int p2)] [] 0 := by
    unfold f_X9_barring at h
    refine q_iload_n C 2 dX9_barring_0 rfl ?_
    refine q_bipush C (8 : Int32) dX9_barring_1 (by decide) ?_
    refine q_irem C dX9_barring_3 h (fun h => ?_)
    refine q_aload_n C 0 dX9_barring_4 rfl ?_
    refine q_gI C fl_X9_75 dX9_barring_5 h (fun v1 h => ?_)
    refine q_icmp_ge C 27 dX9_barring_8 (by decide) h (fun h => ?_) (fun h => ?_)
    · refine q_iconst C (-1 : Int32) dX9_barring_27 (by decide) ?_
      exact q_iret C C2 rfl (Nat.le_of_ble_eq_true rfl) (Nat.le_of_ble_eq_true rfl) dX9_barring_28 h
    · refine q_aload_n C 0 dX9_barring_11 rfl ?_
      refine q_iload_n C 1 dX9_barring_12 rfl ?_
      refine q_iload_n C 2 dX9_barring_13 rfl ?_
      refine q_bipush C (8 : Int32) dX9_barring_14 (by decide) ?_
      refine q_idiv C dX9_barring_16 h (fun h => ?_)
      refine q_iload_n C 2 dX9_barring_17 rfl ?_
      refine q_bipush C (8 : Int32) dX9_barring_18 (by decide) ?_
      refine q_irem C dX9_barring_20 h (fun h => ?_)
      refine q_callV C (CN := RX9) (T := TX9) (N := 28) [.int p1, .int (p2 / (8 : Int32)), .int (irem p2 (8 : Int32))] [] (fun a0 o2 hs1 hm => m_X9_plainLetters hm) lk_X9_134 im_X9_plainLetters se_X9_X9_plainLetters rfl ⟨(Nat.le_of_ble_eq_true rfl), (Nat.le_of_ble_eq_true rfl)⟩ ⟨(Nat.le_of_ble_eq_true rfl), (Nat.le_of_ble_eq_true rfl)⟩ rfl rfl (by decide) dX9_barring_21 h (fun v2 hs h => WG_st (st' := [.int v2]) rfl ?_)
      refine q_if_le C 29 dX9_barring_24 (by decide) h (fun h => ?_) (fun h => ?_)
      · refine q_iconst C (0 : Int32) dX9_barring_29 (by decide) ?_
        refine q_istore_n C (fun v3 => [(3, .int v3), (0, va_rf (some a0)), (1, .int p1), (2, .int p2)]) dX9_barring_30 (by decide) (fun _ => rfl) h (fun v3 h => ?_)
        refine q_iconst C (0 : Int32) dX9_barring_31 (by decide) ?_
        refine q_istore C (fun v4 => [(4, .int v4), (3, .int v3), (0, va_rf (some a0)), (1, .int p1), (2, .int p2)]) dX9_barring_32 (by decide) (fun _ => rfl) h (fun v4 h => ?_)
        refine WG.sub [2, 3, 4, 1, 0] rfl ?_
        refine w_L_X9_barring_34 C C2 _ _ _ _ _ ?_ ?_ _ _ _ _ h
        · intro  hs h
          refine q_iconst C (-1 : Int32) dX9_barring_74 (by decide) ?_
          exact q_iret C C2 rfl (Nat.le_of_ble_eq_true rfl) (Nat.le_of_ble_eq_true rfl) dX9_barring_75 h
        · intro v12 hs h
          refine q_iload_n C 0 dX9_barring_89 rfl ?_
          exact q_iret C C2 rfl (Nat.le_of_ble_eq_true rfl) (Nat.le_of_ble_eq_true rfl) dX9_barring_90 h
      · refine q_iconst C (-1 : Int32) dX9_barring_27 (by decide) ?_
        exact q_iret C C2 rfl (Nat.le_of_ble_eq_true rfl) (Nat.le_of_ble_eq_true rfl) dX9_barring_28 h
  rw [lg_entry_eq]
  exact key _ _ _ hR va_S.rf ⟨lv_entry _ (n := 5) (Nat.le_of_ble_eq_true rfl), (c1_r (c1_i (c1_i c1_n)))⟩

theorem cd_X9_throwsOut : Cond.code yX9_throwsOut cX9_throwsOut 6 (some .boolean) ∈ Tg := Tg_of (i := 1821) (by decide +kernel) (by decide +kernel)
theorem ml_X9_225 : Cond.methodLink RX9 225 yX9_barring ∈ Tg := Tg_of (i := 1822) (by decide +kernel) (by decide +kernel)
theorem lk_X9_225 : Lk RX9 225 yX9_barring cX9_barring 5 (some .int) 2 := ⟨ml_X9_225, cd_X9_barring, iw_X9, by decide +kernel⟩
theorem im_X9_barring : Cond.instanceMethod yX9_barring ∈ Tg := Tg_of (i := 1824) (by decide +kernel) (by decide +kernel)
theorem se_X9_X9_barring : Cond.selects RX9 yX9_barring yX9_barring ∈ Tg := Tg_of (i := 71) (by decide +kernel) (by decide +kernel)
section M_X9_throwsOut
variable {p : Program} {l : Launch} {e : Env} {s : State} {m : MethodId} {args : Array Value} {below : List Frame} {meth : Method} {c : Code} {G : GG} {o : Except Nat Int32} {hs' : Hs}
def j_X9_throwsOut_54 (a0 : Option Nat) (a1 : Int32) (a2 : Int32) (a3 : Int32) (a4 : Int32)  (rec_7 : Int32 → Int32 → Int32 → OO Int32) : OO Int32 :=
  lets (a4 + (1 : Int32)) fun (v6 : Int32) =>
    rec_7 a2 a3 v6
set_option maxRecDepth 100000 in
set_option maxHeartbeats 4000000 in
theorem w_j_X9_throwsOut_54 (C : Cx G l p s m args c RX9 cX9_throwsOut 6) (C2 : Cy meth c (some .boolean)) {hs : Hs} (a0 : Option Nat) (a1 : Int32) (a2 : Int32) (a3 : Int32) (a4 : Int32)  (rec_7 : Int32 → Int32 → Int32 → OO Int32) (hrec_7 : ∀ (y2 : Int32) (y3 : Int32) (y4 : Int32) hs, rec_7 y2 y3 y4 hs = some (o, hs') → WG G p l e { frames := 5, cells := 0, slots := 0, locals := 117 } s m args below meth c 6 0 0 (vx_MQ below (QcT G o hs' tvI) (XCT G o hs') args s 0 0 (gA G)) hs [(0, va_rf a0), (1, .int a1), (2, .int y2), (3, .int y3), (4, .int y4)] [] 7) (h : j_X9_throwsOut_54 a0 a1 a2 a3 a4 rec_7 hs = some (o, hs')) : WG G p l e { frames := 5, cells := 0, slots := 0, locals := 117 } s m args below meth c 6 0 0 (vx_MQ below (QcT G o hs' tvI) (XCT G o hs') args s 0 0 (gA G)) hs [(0, va_rf a0), (1, .int a1), (2, .int a2), (3, .int a3), (4, .int a4)] [] 54 := by
  unfold j_X9_throwsOut_54 at h
  refine q_iinc C 4 (1 : Int32) (fun v6 => [(4, .int v6), (0, va_rf a0), (1, .int a1), (2, .int a2), (3, .int a3)]) dX9_throwsOut_54 rfl (by decide) (by decide) (fun _ => rfl) h (fun v6 h => ?_)
  refine q_goto C 7 dX9_throwsOut_57 (by decide) ?_
  refine WG.sub [1, 2, 3, 4, 0] rfl ?_
  exact hrec_7 _ _ _ _ h
def j_X9_throwsOut_48 (a0 : Option Nat) (a1 : Int32) (a4 : Int32) (a5 : Int32)  (rec_7 : Int32 → Int32 → Int32 → OO Int32) : OO Int32 :=
  lets a4 fun (v7 : Int32) =>
    lets a5 fun (v8 : Int32) =>
    j_X9_throwsOut_54 a0 a1 v7 v8 a4 rec_7
set_option maxRecDepth 100000 in
set_option maxHeartbeats 4000000 in
theorem w_j_X9_throwsOut_48 (C : Cx G l p s m args c RX9 cX9_throwsOut 6) (C2 : Cy meth c (some .boolean)) {hs : Hs} (a0 : Option Nat) (a1 : Int32) (a4 : Int32) (a5 : Int32)  (rec_7 : Int32 → Int32 → Int32 → OO Int32) (hrec_7 : ∀ (y2 : Int32) (y3 : Int32) (y4 : Int32) hs, rec_7 y2 y3 y4 hs = some (o, hs') → WG G p l e { frames := 5, cells := 0, slots := 0, locals := 117 } s m args below meth c 6 0 0 (vx_MQ below (QcT G o hs' tvI) (XCT G o hs') args s 0 0 (gA G)) hs [(0, va_rf a0), (1, .int a1), (2, .int y2), (3, .int y3), (4, .int y4)] [] 7) (h : j_X9_throwsOut_48 a0 a1 a4 a5 rec_7 hs = some (o, hs')) : WG G p l e { frames := 5, cells := 0, slots := 0, locals := 117 } s m args below meth c 6 0 0 (vx_MQ below (QcT G o hs' tvI) (XCT G o hs') args s 0 0 (gA G)) hs [(0, va_rf a0), (1, .int a1), (4, .int a4), (5, .int a5)] [] 48 := by
  unfold j_X9_throwsOut_48 at h
  refine q_iload C 2 dX9_throwsOut_48 rfl ?_
  refine q_istore_n C (fun v7 => [(2, .int v7), (0, va_rf a0), (1, .int a1), (4, .int a4), (5, .int a5)]) dX9_throwsOut_50 (by decide) (fun _ => rfl) h (fun v7 h => ?_)
  refine q_iload C 4 dX9_throwsOut_51 rfl ?_
  refine q_istore_n C (fun v8 => [(3, .int v8), (2, .int v7), (0, va_rf a0), (1, .int a1), (4, .int a4), (5, .int a5)]) dX9_throwsOut_53 (by decide) (fun _ => rfl) h (fun v8 h => ?_)
  refine WG.sub [2, 3, 1, 0, 4] rfl ?_
  exact w_j_X9_throwsOut_54 C C2 _ _ _ _ _ _ hrec_7 h
def L_X9_throwsOut_7 (a0 : Option Nat) (a1 : Int32) (k_7_60 : Int32 → Int32 → OO Int32) : Nat → Int32 → Int32 → Int32 → OO Int32
  | 0, _, _, _ => failO
  | n + 1, x2, x3, x4 =>
    (if (240 : Int32) ≤ x4 then
    k_7_60 x2 x3
    else
    rcv a0 12 fun r11 => call (f_X9_barring r11 a1 x4) (fun (v4 : Int32) =>
    lets v4 fun (v5 : Int32) =>
    (if v5 < 0 then
    j_X9_throwsOut_54 a0 a1 x2 x3 x4 (L_X9_throwsOut_7 a0 a1 k_7_60 n)
    else
    (if x2 < 0 then
    j_X9_throwsOut_48 a0 a1 x4 v5 (L_X9_throwsOut_7 a0 a1 k_7_60 n)
    else
    call (f_X9_manyBits v5) (fun (v9 : Int32) =>
    call (f_X9_manyBits x3) (fun (v10 : Int32) =>
    (if v9 < v10 then
    j_X9_throwsOut_48 a0 a1 x4 v5 (L_X9_throwsOut_7 a0 a1 k_7_60 n)
    else
    j_X9_throwsOut_54 a0 a1 x2 x3 x4 (L_X9_throwsOut_7 a0 a1 k_7_60 n))) nox) nox))) nox)
set_option maxRecDepth 100000 in
set_option maxHeartbeats 4000000 in
theorem w_L_X9_throwsOut_7 (C : Cx G l p s m args c RX9 cX9_throwsOut 6) (C2 : Cy meth c (some .boolean)) (a0 : Option Nat) (a1 : Int32) (k_7_60 : Int32 → Int32 → OO Int32) (hk_7_60 : ∀ (y2 : Int32) (y3 : Int32) hs, k_7_60 y2 y3 hs = some (o, hs') → WG G p l e { frames := 5, cells := 0, slots := 0, locals := 117 } s m args below meth c 6 0 0 (vx_MQ below (QcT G o hs' tvI) (XCT G o hs') args s 0 0 (gA G)) hs [(0, va_rf a0), (1, .int a1), (2, .int y2), (3, .int y3)] [] 60) : ∀ (n : Nat) (x2 : Int32) (x3 : Int32) (x4 : Int32) (hs : Hs), L_X9_throwsOut_7 a0 a1 k_7_60 n x2 x3 x4 hs = some (o, hs') → WG G p l e { frames := 5, cells := 0, slots := 0, locals := 117 } s m args below meth c 6 0 0 (vx_MQ below (QcT G o hs' tvI) (XCT G o hs') args s 0 0 (gA G)) hs [(0, va_rf a0), (1, .int a1), (2, .int x2), (3, .int x3), (4, .int x4)] [] 7 := by
  intro n
  induction n with
  | zero =>
    intro x2 x3 x4 hs h
    rw [L_X9_throwsOut_7] at h
    exact absurd h failO_e
  | succ n hrec_7 =>
    intro x2 x3 x4 hs h
    rw [L_X9_throwsOut_7] at h
    refine q_iload C 4 dX9_throwsOut_7 rfl ?_
    refine q_sipush C (240 : Int32) dX9_throwsOut_9 (by decide) ?_
    refine q_icmp_ge C 60 dX9_throwsOut_12 (by decide) h (fun h => ?_) (fun h => ?_)
    · refine WG.sub [0, 1, 2, 3] rfl ?_
      exact hk_7_60 _ _ _ h
    · refine q_aload_n C 0 dX9_throwsOut_15 rfl ?_
      refine q_iload_n C 1 dX9_throwsOut_16 rfl ?_
      refine q_iload C 4 dX9_throwsOut_17 rfl ?_
      refine q_callV C (CN := RX9) (T := TX9) (N := 28) [.int a1, .int x4] [] (fun a0 o2 hs1 hm => m_X9_barring hm) lk_X9_225 im_X9_barring se_X9_X9_barring rfl ⟨(Nat.le_of_ble_eq_true rfl), (Nat.le_of_ble_eq_true rfl)⟩ ⟨(Nat.le_of_ble_eq_true rfl), (Nat.le_of_ble_eq_true rfl)⟩ rfl rfl (by decide) dX9_throwsOut_19 h (fun v4 hs h => WG_st (st' := [.int v4]) rfl ?_)
      refine q_istore C (fun v5 => [(5, .int v5), (0, va_rf a0), (1, .int a1), (2, .int x2), (3, .int x3), (4, .int x4)]) dX9_throwsOut_22 (by decide) (fun _ => rfl) h (fun v5 h => ?_)
      refine q_iload C 0 dX9_throwsOut_24 rfl ?_
      refine q_if_lt C 54 dX9_throwsOut_26 (by decide) h (fun h => ?_) (fun h => ?_)
      · refine WG.sub [1, 2, 3, 4, 5] rfl ?_
        exact w_j_X9_throwsOut_54 C C2 _ _ _ _ _ _ hrec_7 h
      · refine q_iload_n C 3 dX9_throwsOut_29 rfl ?_
        refine q_if_lt C 48 dX9_throwsOut_30 (by decide) h (fun h => ?_) (fun h => ?_)
        · refine WG.sub [1, 2, 5, 0] rfl ?_
          exact w_j_X9_throwsOut_48 C C2 _ _ _ _ _ hrec_7 h
        · refine q_iload C 0 dX9_throwsOut_33 rfl ?_
          refine q_callS C [.int v5] [] (fun o2 hs1 hm => m_X9_manyBits hm) lk_X9_168 sm_X9_manyBits ⟨(Nat.le_of_ble_eq_true rfl), (Nat.le_of_ble_eq_true rfl)⟩ ⟨(Nat.le_of_ble_eq_true rfl), (Nat.le_of_ble_eq_true rfl)⟩ rfl rfl (by decide) dX9_throwsOut_35 h (fun v9 hs h => WG_st (st' := [.int v9]) rfl ?_)
          refine q_iload_n C 4 dX9_throwsOut_38 rfl ?_
          refine q_callS C [.int x3] [.int v9] (fun o2 hs1 hm => m_X9_manyBits hm) lk_X9_168 sm_X9_manyBits ⟨(Nat.le_of_ble_eq_true rfl), (Nat.le_of_ble_eq_true rfl)⟩ ⟨(Nat.le_of_ble_eq_true rfl), (Nat.le_of_ble_eq_true rfl)⟩ rfl rfl (by simp only [List.map, cat_rf, cat_i, cat_a]; decide) dX9_throwsOut_39 h (fun v10 hs h => WG_st (st' := [.int v10, .int v9]) rfl ?_)
          refine q_icmp_lt C 48 dX9_throwsOut_42 (by decide) h (fun h => ?_) (fun h => ?_)
          · refine WG.sub [1, 2, 5, 0] rfl ?_
            exact w_j_X9_throwsOut_48 C C2 _ _ _ _ _ hrec_7 h
          · refine q_goto C 54 dX9_throwsOut_45 (by decide) ?_
            refine WG.sub [1, 2, 3, 4, 5] rfl ?_
            exact w_j_X9_throwsOut_54 C C2 _ _ _ _ _ _ hrec_7 h
def j_X9_throwsOut_96 (a0 : Option Nat) (a1 : Int32) (a2 : Int32) (a3 : Int32) (a4 : Int32)  (rec_69 : Int32 → OO Int32) : OO Int32 :=
  lets (a4 + (1 : Int32)) fun (v16 : Int32) =>
    rec_69 v16
set_option maxRecDepth 100000 in
set_option maxHeartbeats 4000000 in
theorem w_j_X9_throwsOut_96 (C : Cx G l p s m args c RX9 cX9_throwsOut 6) (C2 : Cy meth c (some .boolean)) {hs : Hs} (a0 : Option Nat) (a1 : Int32) (a2 : Int32) (a3 : Int32) (a4 : Int32)  (rec_69 : Int32 → OO Int32) (hrec_69 : ∀ (y4 : Int32) hs, rec_69 y4 hs = some (o, hs') → WG G p l e { frames := 5, cells := 0, slots := 0, locals := 117 } s m args below meth c 6 0 0 (vx_MQ below (QcT G o hs' tvI) (XCT G o hs') args s 0 0 (gA G)) hs [(0, va_rf a0), (1, .int a1), (2, .int a2), (3, .int a3), (4, .int y4)] [] 69) (h : j_X9_throwsOut_96 a0 a1 a2 a3 a4 rec_69 hs = some (o, hs')) : WG G p l e { frames := 5, cells := 0, slots := 0, locals := 117 } s m args below meth c 6 0 0 (vx_MQ below (QcT G o hs' tvI) (XCT G o hs') args s 0 0 (gA G)) hs [(0, va_rf a0), (1, .int a1), (2, .int a2), (3, .int a3), (4, .int a4)] [] 96 := by
  unfold j_X9_throwsOut_96 at h
  refine q_iinc C 4 (1 : Int32) (fun v16 => [(4, .int v16), (0, va_rf a0), (1, .int a1), (2, .int a2), (3, .int a3)]) dX9_throwsOut_96 rfl (by decide) (by decide) (fun _ => rfl) h (fun v16 h => ?_)
  refine q_goto C 69 dX9_throwsOut_99 (by decide) ?_
  refine WG.sub [1, 2, 3, 4, 0] rfl ?_
  exact hrec_69 _ _ h
def L_X9_throwsOut_69 (a0 : Option Nat) (a1 : Int32) (a2 : Int32) (a3 : Int32) (k_69_102 : OO Int32) : Nat → Int32 → OO Int32
  | 0, _ => failO
  | n + 1, x4 =>
    gI a0 12 24 fun v15 =>
    (if v15 ≤ x4 then
    k_69_102
    else
    dvz (2 : Int32) (
    (if ¬ ((irem (a3 >>> (x4 &&& 31)) (2 : Int32))) = (1 : Int32) then
    j_X9_throwsOut_96 a0 a1 a2 a3 x4 (L_X9_throwsOut_69 a0 a1 a2 a3 k_69_102 n)
    else
    gR a0 12 14 fun v17 =>
    stI v17 x4 (-1 : Int32) (
    j_X9_throwsOut_96 a0 a1 a2 a3 x4 (L_X9_throwsOut_69 a0 a1 a2 a3 k_69_102 n)))))
set_option maxRecDepth 100000 in
set_option maxHeartbeats 4000000 in
theorem w_L_X9_throwsOut_69 (C : Cx G l p s m args c RX9 cX9_throwsOut 6) (C2 : Cy meth c (some .boolean)) (a0 : Option Nat) (a1 : Int32) (a2 : Int32) (a3 : Int32) (k_69_102 : OO Int32) (hk_69_102 : ∀ hs, k_69_102  hs = some (o, hs') → WG G p l e { frames := 5, cells := 0, slots := 0, locals := 117 } s m args below meth c 6 0 0 (vx_MQ below (QcT G o hs' tvI) (XCT G o hs') args s 0 0 (gA G)) hs [(0, va_rf a0), (1, .int a1), (2, .int a2)] [] 102) : ∀ (n : Nat) (x4 : Int32) (hs : Hs), L_X9_throwsOut_69 a0 a1 a2 a3 k_69_102 n x4 hs = some (o, hs') → WG G p l e { frames := 5, cells := 0, slots := 0, locals := 117 } s m args below meth c 6 0 0 (vx_MQ below (QcT G o hs' tvI) (XCT G o hs') args s 0 0 (gA G)) hs [(0, va_rf a0), (1, .int a1), (2, .int a2), (3, .int a3), (4, .int x4)] [] 69 := by
  intro n
  induction n with
  | zero =>
    intro x4 hs h
    rw [L_X9_throwsOut_69] at h
    exact absurd h failO_e
  | succ n hrec_69 =>
    intro x4 hs h
    rw [L_X9_throwsOut_69] at h
    refine q_iload C 4 dX9_throwsOut_69 rfl ?_
    refine q_aload_n C 0 dX9_throwsOut_71 rfl ?_
    refine q_gI C fl_X9_84 dX9_throwsOut_72 h (fun v15 h => ?_)
    refine q_icmp_ge C 102 dX9_throwsOut_75 (by decide) h (fun h => ?_) (fun h => ?_)
    · refine WG.sub [0, 1, 2] rfl ?_
      exact hk_69_102 _ h
    · refine q_iload_n C 3 dX9_throwsOut_78 rfl ?_
      refine q_iload C 4 dX9_throwsOut_79 rfl ?_
      refine q_ishr C dX9_throwsOut_81 ?_
      refine q_iconst C (2 : Int32) dX9_throwsOut_82 (by decide) ?_
      refine q_irem C dX9_throwsOut_83 h (fun h => ?_)
      refine q_iconst C (1 : Int32) dX9_throwsOut_84 (by decide) ?_
      refine q_icmp_ne C 96 dX9_throwsOut_85 (by decide) h (fun h => ?_) (fun h => ?_)
      · exact w_j_X9_throwsOut_96 C C2 _ _ _ _ _ _ hrec_69 h
      · refine q_aload_n C 0 dX9_throwsOut_88 rfl ?_
        refine q_gR C fl_X9_53 dX9_throwsOut_89 h (fun v17 h => ?_)
        refine q_iload C 4 dX9_throwsOut_92 rfl ?_
        refine q_iconst C (-1 : Int32) dX9_throwsOut_94 (by decide) ?_
        refine q_iast C dX9_throwsOut_95 h (fun hs h => ?_)
        exact w_j_X9_throwsOut_96 C C2 _ _ _ _ _ _ hrec_69 h
end M_X9_throwsOut
def f_X9_throwsOut (a0 : Nat) (p1 : Int32) : OO Int32 :=
    lets (-1 : Int32) fun (v1 : Int32) =>
    lets (0 : Int32) fun (v2 : Int32) =>
    lets (0 : Int32) fun (v3 : Int32) =>
    L_X9_throwsOut_7 (some a0) p1 (fun (v12 : Int32) (v13 : Int32) => (if 0 ≤ v12 then
    lets (0 : Int32) fun (v14 : Int32) =>
    L_X9_throwsOut_69 (some a0) p1 v12 v13 (gR (some a0) 12 14 fun v18 =>
    stI v18 p1 v12 (
    retZ (1 : Int32))) 100000 v14
    else
    retZ (0 : Int32))) 100000 v1 v2 v3
set_option maxRecDepth 100000 in
set_option maxHeartbeats 4000000 in
theorem m_X9_throwsOut {G : GG} {l : Launch} {a0 : Nat} {p1 : Int32} {hs hs' : Hs} {o : Except Nat Int32} (h : f_X9_throwsOut a0 p1 hs = some (o, hs')) : CT G l yX9_throwsOut cX9_throwsOut 6 (some .boolean) 5 117 0 0 [.ref a0, .int p1] hs o hs' tvI := by
  refine vx_ofW (cc := cX9_throwsOut) (maxL := 6) (ret := (some .boolean)) (by decide +kernel) rfl ?_
  intro p e s m args below meth c s₁ B hml hxt hv
  obtain ⟨hav, hR, hKn⟩ := hv
  subst hav
  have hts := atoms_spec (ws := .code yX9_throwsOut cX9_throwsOut 6 (some .boolean) :: Tg) B.pre
  have C : Cx G l p s m _ c RX9 cX9_throwsOut 6 := ⟨B.exec, B.bytes, hml, findClass_of_methodNamed B.named, fun w hw => hts w (List.mem_cons_of_mem _ hw), hKn, fun q hq => Nat.le_trans hR.2.2.1 hq⟩
  have C2 : Cy meth c (some .boolean) := ⟨B.returns, B.notSynchronized, hxt⟩
  have key : WG G p l e { frames := 5, cells := 0, slots := 0, locals := 117 } s m ([.ref a0, .int p1] : List Value).toArray below meth c 6 0 0 (vx_MQ below (QcT G o hs' tvI) (XCT G o hs') ([.ref a0, .int p1] : List Value).toArray s 0 0 (gA G)) hs [(0, va_rf (some a0)), (1, .int p1)] [] 0 := by
    unfold f_X9_throwsOut at h
    refine q_iconst C (-1 : Int32) dX9_throwsOut_0 (by decide) ?_
    refine q_istore_n C (fun v1 => [(2, .int v1), (0, va_rf (some a0)), (1, .int p1)]) dX9_throwsOut_1 (by decide) (fun _ => rfl) h (fun v1 h => ?_)
    refine q_iconst C (0 : Int32) dX9_throwsOut_2 (by decide) ?_
    refine q_istore_n C (fun v2 => [(3, .int v2), (2, .int v1), (0, va_rf (some a0)), (1, .int p1)]) dX9_throwsOut_3 (by decide) (fun _ => rfl) h (fun v2 h => ?_)
    refine q_iconst C (0 : Int32) dX9_throwsOut_4 (by decide) ?_
    refine q_istore C (fun v3 => [(4, .int v3), (3, .int v2), (2, .int v1), (0, va_rf (some a0)), (1, .int p1)]) dX9_throwsOut_5 (by decide) (fun _ => rfl) h (fun v3 h => ?_)
    refine WG.sub [3, 4, 2, 1, 0] rfl ?_
    refine w_L_X9_throwsOut_7 C C2 _ _ _ ?_ _ _ _ _ _ h
    · intro v12 v13 hs h
      refine q_iload_n C 2 dX9_throwsOut_60 rfl ?_
      refine q_if_ge C 66 dX9_throwsOut_61 (by decide) h (fun h => ?_) (fun h => ?_)
      · refine q_iconst C (0 : Int32) dX9_throwsOut_66 (by decide) ?_
        refine q_istore C (fun v14 => [(4, .int v14), (0, va_rf (some a0)), (1, .int p1), (2, .int v12), (3, .int v13)]) dX9_throwsOut_67 (by decide) (fun _ => rfl) h (fun v14 h => ?_)
        refine WG.sub [1, 2, 3, 4, 0] rfl ?_
        refine w_L_X9_throwsOut_69 C C2 _ _ _ _ _ ?_ _ _ _ h
        · intro  hs h
          refine q_aload_n C 0 dX9_throwsOut_102 rfl ?_
          refine q_gR C fl_X9_53 dX9_throwsOut_103 h (fun v18 h => ?_)
          refine q_iload_n C 1 dX9_throwsOut_106 rfl ?_
          refine q_iload_n C 2 dX9_throwsOut_107 rfl ?_
          refine q_iast C dX9_throwsOut_108 h (fun hs h => ?_)
          refine q_iconst C (1 : Int32) dX9_throwsOut_109 (by decide) ?_
          exact q_zret C C2 rfl (Nat.le_of_ble_eq_true rfl) (Nat.le_of_ble_eq_true rfl) dX9_throwsOut_110 h
      · refine q_iconst C (0 : Int32) dX9_throwsOut_64 (by decide) ?_
        exact q_zret C C2 rfl (Nat.le_of_ble_eq_true rfl) (Nat.le_of_ble_eq_true rfl) dX9_throwsOut_65 h
  rw [lg_entry_eq]
  exact key _ _ _ hR va_S.rf ⟨lv_entry _ (n := 6) (Nat.le_of_ble_eq_true rfl), (c1_r (c1_i c1_n))⟩

theorem cd_X9_fill : Cond.code yX9_fill cX9_fill 7 (some .int) ∈ Tg := Tg_of (i := 1817) (by decide +kernel) (by decide +kernel)
theorem ml_X9_228 : Cond.methodLink RX9 228 yX9_throwsOut ∈ Tg := Tg_of (i := 1818) (by decide +kernel) (by decide +kernel)
theorem lk_X9_228 : Lk RX9 228 yX9_throwsOut cX9_throwsOut 6 (some .boolean) 1 := ⟨ml_X9_228, cd_X9_throwsOut, iw_X9, by decide +kernel⟩
theorem im_X9_throwsOut : Cond.instanceMethod yX9_throwsOut ∈ Tg := Tg_of (i := 1820) (by decide +kernel) (by decide +kernel)
theorem se_X9_X9_throwsOut : Cond.selects RX9 yX9_throwsOut yX9_throwsOut ∈ Tg := Tg_of (i := 70) (by decide +kernel) (by decide +kernel)
section M_X9_fill
variable {p : Program} {l : Launch} {e : Env} {s : State} {m : MethodId} {args : Array Value} {below : List Frame} {meth : Method} {c : Code} {G : GG} {o : Except Nat Int32} {hs' : Hs}
def j_X9_fill_119 (a0 : Option Nat) (a1 : Option Nat) (a2 : Int32) (a3 : Option Nat) (a6 : Int32) (s0 : Int32) (s1 : Int32) (s2 : Option Nat) (rec_88 : Int32 → OO Int32) : OO Int32 :=
  stZ s2 s1 s0 (
    lets (a6 + (1 : Int32)) fun (v15 : Int32) =>
    rec_88 v15)
set_option maxRecDepth 100000 in
set_option maxHeartbeats 4000000 in
theorem w_j_X9_fill_119 (C : Cx G l p s m args c RX9 cX9_fill 7) (C2 : Cy meth c (some .int)) {kc ks : Nat} (hk0 : kc ≤ 302 ∧ ks ≤ 4832) (hk1 : kc + 1 ≤ 302 ∧ ks + 16 ≤ 4832) {hs : Hs} (a0 : Option Nat) (a1 : Option Nat) (a2 : Int32) (a3 : Option Nat) (a6 : Int32) (s0 : Int32) (s1 : Int32) (s2 : Option Nat) (rec_88 : Int32 → OO Int32) (hrec_88 : ∀ (y6 : Int32) hs, rec_88 y6 hs = some (o, hs') → WG G p l e { frames := 9, cells := 302, slots := 4832, locals := 207 } s m args below meth c 7 (kc + 1) (ks + 16) (vx_MQ below (QcT G o hs' tvI) (XCT G o hs') args s 302 4832 (gA G)) hs [(0, va_rf a0), (1, va_rf a1), (2, .int a2), (3, va_rf a3), (6, .int y6)] [] 88) (h : j_X9_fill_119 a0 a1 a2 a3 a6 s0 s1 s2 rec_88 hs = some (o, hs')) : WG G p l e { frames := 9, cells := 302, slots := 4832, locals := 207 } s m args below meth c 7 (kc + 1) (ks + 16) (vx_MQ below (QcT G o hs' tvI) (XCT G o hs') args s 302 4832 (gA G)) hs [(0, va_rf a0), (1, va_rf a1), (2, .int a2), (3, va_rf a3), (6, .int a6)] [.int s0, .int s1, va_rf s2] 119 := by
  unfold j_X9_fill_119 at h
  refine q_zast C dX9_fill_119 h (fun hs h => ?_)
  refine q_iinc C 4 (1 : Int32) (fun v15 => [(6, .int v15), (0, va_rf a0), (1, va_rf a1), (2, .int a2), (3, va_rf a3)]) dX9_fill_120 rfl (by decide) (by decide) (fun _ => rfl) h (fun v15 h => ?_)
  refine q_goto C 88 dX9_fill_123 (by decide) ?_
  refine WG.sub [1, 2, 3, 4, 0] rfl ?_
  exact hrec_88 _ _ h
def j_X9_fill_118 (a0 : Option Nat) (a1 : Option Nat) (a2 : Int32) (a3 : Option Nat) (a6 : Int32) (s0 : Int32) (s1 : Option Nat) (rec_88 : Int32 → OO Int32) : OO Int32 :=
  j_X9_fill_119 a0 a1 a2 a3 a6 (0 : Int32) s0 s1 rec_88
set_option maxRecDepth 100000 in
set_option maxHeartbeats 4000000 in
theorem w_j_X9_fill_118 (C : Cx G l p s m args c RX9 cX9_fill 7) (C2 : Cy meth c (some .int)) {kc ks : Nat} (hk0 : kc ≤ 302 ∧ ks ≤ 4832) (hk1 : kc + 1 ≤ 302 ∧ ks + 16 ≤ 4832) {hs : Hs} (a0 : Option Nat) (a1 : Option Nat) (a2 : Int32) (a3 : Option Nat) (a6 : Int32) (s0 : Int32) (s1 : Option Nat) (rec_88 : Int32 → OO Int32) (hrec_88 : ∀ (y6 : Int32) hs, rec_88 y6 hs = some (o, hs') → WG G p l e { frames := 9, cells := 302, slots := 4832, locals := 207 } s m args below meth c 7 (kc + 1) (ks + 16) (vx_MQ below (QcT G o hs' tvI) (XCT G o hs') args s 302 4832 (gA G)) hs [(0, va_rf a0), (1, va_rf a1), (2, .int a2), (3, va_rf a3), (6, .int y6)] [] 88) (h : j_X9_fill_118 a0 a1 a2 a3 a6 s0 s1 rec_88 hs = some (o, hs')) : WG G p l e { frames := 9, cells := 302, slots := 4832, locals := 207 } s m args below meth c 7 (kc + 1) (ks + 16) (vx_MQ below (QcT G o hs' tvI) (XCT G o hs') args s 302 4832 (gA G)) hs [(0, va_rf a0), (1, va_rf a1), (2, .int a2), (3, va_rf a3), (6, .int a6)] [.int s0, va_rf s1] 118 := by
  unfold j_X9_fill_118 at h
  refine q_iconst C (0 : Int32) dX9_fill_118 (by decide) ?_
  exact w_j_X9_fill_119 C C2 hk0 hk1 _ _ _ _ _ _ _ _ _ hrec_88 h
def L_X9_fill_88 (a0 : Option Nat) (a1 : Option Nat) (a2 : Int32) (a3 : Option Nat) (k_88_126 : OO Int32) : Nat → Int32 → OO Int32
  | 0, _ => failO
  | n + 1, x6 =>
    gI a0 12 24 fun v13 =>
    (if v13 ≤ x6 then
    k_88_126
    else
    ldI 1 a3 x6 fun v14 =>
    (if v14 = 0 then
    j_X9_fill_118 a0 a1 a2 a3 x6 x6 a3 (L_X9_fill_88 a0 a1 a2 a3 k_88_126 n)
    else
    ldI 1 a1 x6 fun v16 =>
    (if ¬ v16 = 0 then
    j_X9_fill_118 a0 a1 a2 a3 x6 x6 a3 (L_X9_fill_88 a0 a1 a2 a3 k_88_126 n)
    else
    j_X9_fill_119 a0 a1 a2 a3 x6 (1 : Int32) x6 a3 (L_X9_fill_88 a0 a1 a2 a3 k_88_126 n))))
set_option maxRecDepth 100000 in
set_option maxHeartbeats 4000000 in
theorem w_L_X9_fill_88 (C : Cx G l p s m args c RX9 cX9_fill 7) (C2 : Cy meth c (some .int)) {kc ks : Nat} (hk0 : kc ≤ 302 ∧ ks ≤ 4832) (hk1 : kc + 1 ≤ 302 ∧ ks + 16 ≤ 4832) (a0 : Option Nat) (a1 : Option Nat) (a2 : Int32) (a3 : Option Nat) (k_88_126 : OO Int32) (hk_88_126 : ∀ hs, k_88_126  hs = some (o, hs') → WG G p l e { frames := 9, cells := 302, slots := 4832, locals := 207 } s m args below meth c 7 (kc + 1) (ks + 16) (vx_MQ below (QcT G o hs' tvI) (XCT G o hs') args s 302 4832 (gA G)) hs [(0, va_rf a0), (1, va_rf a1), (2, .int a2), (3, va_rf a3)] [] 126) : ∀ (n : Nat) (x6 : Int32) (hs : Hs), L_X9_fill_88 a0 a1 a2 a3 k_88_126 n x6 hs = some (o, hs') → WG G p l e { frames := 9, cells := 302, slots := 4832, locals := 207 } s m args below meth c 7 (kc + 1) (ks + 16) (vx_MQ below (QcT G o hs' tvI) (XCT G o hs') args s 302 4832 (gA G)) hs [(0, va_rf a0), (1, va_rf a1), (2, .int a2), (3, va_rf a3), (6, .int x6)] [] 88 := by
  intro n
  induction n with
  | zero =>
    intro x6 hs h
    rw [L_X9_fill_88] at h
    exact absurd h failO_e
  | succ n hrec_88 =>
    intro x6 hs h
    rw [L_X9_fill_88] at h
    refine q_iload C 4 dX9_fill_88 rfl ?_
    refine q_aload_n C 0 dX9_fill_90 rfl ?_
    refine q_gI C fl_X9_84 dX9_fill_91 h (fun v13 h => ?_)
    refine q_icmp_ge C 126 dX9_fill_94 (by decide) h (fun h => ?_) (fun h => ?_)
    · refine WG.sub [0, 1, 2, 3] rfl ?_
      exact hk_88_126 _ h
    · refine q_aload_n C 3 dX9_fill_97 rfl ?_
      refine q_iload C 4 dX9_fill_98 rfl ?_
      refine q_aload_n C 3 dX9_fill_100 rfl ?_
      refine q_iload C 4 dX9_fill_101 rfl ?_
      refine q_zald C dX9_fill_103 h (fun v14 h => ?_)
      refine q_if_eq C 118 dX9_fill_104 (by decide) h (fun h => ?_) (fun h => ?_)
      · exact w_j_X9_fill_118 C C2 hk0 hk1 _ _ _ _ _ _ _ _ hrec_88 h
      · refine q_aload_n C 1 dX9_fill_107 rfl ?_
        refine q_iload C 4 dX9_fill_108 rfl ?_
        refine q_zald C dX9_fill_110 h (fun v16 h => ?_)
        refine q_if_ne C 118 dX9_fill_111 (by decide) h (fun h => ?_) (fun h => ?_)
        · exact w_j_X9_fill_118 C C2 hk0 hk1 _ _ _ _ _ _ _ _ hrec_88 h
        · refine q_iconst C (1 : Int32) dX9_fill_114 (by decide) ?_
          refine q_goto C 119 dX9_fill_115 (by decide) ?_
          exact w_j_X9_fill_119 C C2 hk0 hk1 _ _ _ _ _ _ _ _ _ hrec_88 h
def j_X9_fill_80 (a0 : Option Nat) (a1 : Option Nat) (a2 : Int32)  (rec_24 : Int32 → Int32 → OO Int32) : OO Int32 :=
  rcv a0 12 fun r20 => call (f_X9_unplaced r20 ) (fun (v10 : Option Nat) =>
    lets v10 fun (v11 : Option Nat) =>
    lets (0 : Int32) fun (v12 : Int32) =>
    L_X9_fill_88 a0 a1 a2 v11 (rcv a0 12 fun r19 => call (f_X9_hardestOf r19 v11) (fun (v17 : Int32) =>
    lets v17 fun (v18 : Int32) =>
    rec_24 a2 v18) nox) 300 v12) nox
set_option maxRecDepth 100000 in
set_option maxHeartbeats 4000000 in
theorem w_j_X9_fill_80 (C : Cx G l p s m args c RX9 cX9_fill 7) (C2 : Cy meth c (some .int)) {kc ks : Nat} (hk0 : kc ≤ 302 ∧ ks ≤ 4832) (hk1 : kc + 1 ≤ 302 ∧ ks + 16 ≤ 4832) {hs : Hs} (a0 : Option Nat) (a1 : Option Nat) (a2 : Int32)  (rec_24 : Int32 → Int32 → OO Int32) (hrec_24 : ∀ (y2 : Int32) (y4 : Int32) hs, rec_24 y2 y4 hs = some (o, hs') → WG G p l e { frames := 9, cells := 302, slots := 4832, locals := 207 } s m args below meth c 7 (kc + 1) (ks + 16) (vx_MQ below (QcT G o hs' tvI) (XCT G o hs') args s 302 4832 (gA G)) hs [(0, va_rf a0), (1, va_rf a1), (2, .int y2), (4, .int y4)] [] 24) (h : j_X9_fill_80 a0 a1 a2 rec_24 hs = some (o, hs')) : WG G p l e { frames := 9, cells := 302, slots := 4832, locals := 207 } s m args below meth c 7 kc ks (vx_MQ below (QcT G o hs' tvI) (XCT G o hs') args s 302 4832 (gA G)) hs [(0, va_rf a0), (1, va_rf a1), (2, .int a2)] [] 80 := by
  unfold j_X9_fill_80 at h
  refine q_aload_n C 0 dX9_fill_80 rfl ?_
  refine q_callV C (CN := RX9) (T := TX9) (N := 28) [] [] (fun a0 o2 hs1 hm => m_X9_unplaced hm) lk_X9_217 im_X9_unplaced se_X9_X9_unplaced rfl ⟨(Nat.le_of_ble_eq_true rfl), (Nat.le_of_ble_eq_true rfl)⟩ hk1 rfl rfl (by decide) dX9_fill_81 h (fun v10 hs h => WG_st (st' := [va_rf v10]) rfl ?_)
  refine q_astore_n C (fun v11 => [(3, va_rf v11), (0, va_rf a0), (1, va_rf a1), (2, .int a2)]) dX9_fill_84 (by decide) (fun _ => rfl) h (fun v11 h => ?_)
  refine q_iconst C (0 : Int32) dX9_fill_85 (by decide) ?_
  refine q_istore C (fun v12 => [(6, .int v12), (3, va_rf v11), (0, va_rf a0), (1, va_rf a1), (2, .int a2)]) dX9_fill_86 (by decide) (fun _ => rfl) h (fun v12 h => ?_)
  refine WG.sub [2, 3, 4, 1, 0] rfl ?_
  refine w_L_X9_fill_88 C C2 hk0 hk1 _ _ _ _ _ ?_ _ _ _ h
  · intro  hs h
    refine q_aload_n C 0 dX9_fill_126 rfl ?_
    refine q_aload_n C 3 dX9_fill_127 rfl ?_
    refine q_callV C (CN := RX9) (T := TX9) (N := 28) [va_rf v11] [] (fun a0 o2 hs1 hm => m_X9_hardestOf hm) lk_X9_221 im_X9_hardestOf se_X9_X9_hardestOf rfl ⟨(Nat.le_of_ble_eq_true rfl), (Nat.le_of_ble_eq_true rfl)⟩ hk1 rfl rfl (by decide) dX9_fill_128 h (fun v17 hs h => WG_st (st' := [.int v17]) rfl ?_)
    refine q_istore C (fun v18 => [(4, .int v18), (0, va_rf a0), (1, va_rf a1), (2, .int a2), (3, va_rf v11)]) dX9_fill_131 (by decide) (fun _ => rfl) h (fun v18 h => ?_)
    refine q_goto C 24 dX9_fill_133 (by decide) ?_
    refine WG.sub [1, 2, 3, 0] rfl ?_
    exact hrec_24 _ _ _ h
def j_X9_fill_75 (a0 : Option Nat) (a1 : Option Nat) (a2 : Int32) (a4 : Int32)  (rec_24 : Int32 → Int32 → OO Int32) : OO Int32 :=
  stZ a1 a4 (1 : Int32) (
    j_X9_fill_80 a0 a1 a2 rec_24)
set_option maxRecDepth 100000 in
set_option maxHeartbeats 4000000 in
theorem w_j_X9_fill_75 (C : Cx G l p s m args c RX9 cX9_fill 7) (C2 : Cy meth c (some .int)) {kc ks : Nat} (hk0 : kc ≤ 302 ∧ ks ≤ 4832) (hk1 : kc + 1 ≤ 302 ∧ ks + 16 ≤ 4832) {hs : Hs} (a0 : Option Nat) (a1 : Option Nat) (a2 : Int32) (a4 : Int32)  (rec_24 : Int32 → Int32 → OO Int32) (hrec_24 : ∀ (y2 : Int32) (y4 : Int32) hs, rec_24 y2 y4 hs = some (o, hs') → WG G p l e { frames := 9, cells := 302, slots := 4832, locals := 207 } s m args below meth c 7 (kc + 1) (ks + 16) (vx_MQ below (QcT G o hs' tvI) (XCT G o hs') args s 302 4832 (gA G)) hs [(0, va_rf a0), (1, va_rf a1), (2, .int y2), (4, .int y4)] [] 24) (h : j_X9_fill_75 a0 a1 a2 a4 rec_24 hs = some (o, hs')) : WG G p l e { frames := 9, cells := 302, slots := 4832, locals := 207 } s m args below meth c 7 kc ks (vx_MQ below (QcT G o hs' tvI) (XCT G o hs') args s 302 4832 (gA G)) hs [(0, va_rf a0), (1, va_rf a1), (2, .int a2), (4, .int a4)] [] 75 := by
  unfold j_X9_fill_75 at h
  refine q_aload_n C 1 dX9_fill_75 rfl ?_
  refine q_iload C 3 dX9_fill_76 rfl ?_
  refine q_iconst C (1 : Int32) dX9_fill_78 (by decide) ?_
  refine q_zast C dX9_fill_79 h (fun hs h => ?_)
  refine WG.sub [0, 1, 2] rfl ?_
  exact w_j_X9_fill_80 C C2 hk0 hk1 _ _ _ _ hrec_24 h
def L_X9_fill_24 (a0 : Option Nat) (a1 : Option Nat) (k_24_136 : OO Int32) : Nat → Int32 → Int32 → OO Int32
  | 0, _, _ => failO
  | n + 1, x2, x4 =>
    (if x4 < 0 then
    k_24_136
    else
    rcv a0 12 fun r25 => call (f_X9_cheapestOf r25 x4) (fun (v8 : Int32) =>
    lets v8 fun (v9 : Int32) =>
    (if v9 < 0 then
    (if (10 : Int32) ≤ x2 then
    j_X9_fill_75 a0 a1 x2 x4 (L_X9_fill_24 a0 a1 k_24_136 n)
    else
    rcv a0 12 fun r23 => call (f_X9_throwsOut r23 x4) (fun (v21 : Int32) =>
    (if v21 = 0 then
    j_X9_fill_75 a0 a1 x2 x4 (L_X9_fill_24 a0 a1 k_24_136 n)
    else
    lets (x2 + (1 : Int32)) fun (v22 : Int32) =>
    j_X9_fill_80 a0 a1 v22 (L_X9_fill_24 a0 a1 k_24_136 n))) nox)
    else
    gR a0 12 14 fun v24 =>
    stI v24 x4 v9 (
    j_X9_fill_80 a0 a1 x2 (L_X9_fill_24 a0 a1 k_24_136 n)))) nox)
set_option maxRecDepth 100000 in
set_option maxHeartbeats 4000000 in
theorem w_L_X9_fill_24 (C : Cx G l p s m args c RX9 cX9_fill 7) (C2 : Cy meth c (some .int)) (a0 : Option Nat) (a1 : Option Nat) (k_24_136 : OO Int32) (hk_24_136 : ∀ hs, k_24_136  hs = some (o, hs') → WG G p l e { frames := 9, cells := 302, slots := 4832, locals := 207 } s m args below meth c 7 302 4832 (vx_MQ below (QcT G o hs' tvI) (XCT G o hs') args s 302 4832 (gA G)) hs [(0, va_rf a0)] [] 136) : ∀ (n : Nat) (kc ks : Nat) (hk : kc + n ≤ 302 ∧ ks + 16 * n ≤ 4832) (x2 : Int32) (x4 : Int32) (hs : Hs), L_X9_fill_24 a0 a1 k_24_136 n x2 x4 hs = some (o, hs') → WG G p l e { frames := 9, cells := 302, slots := 4832, locals := 207 } s m args below meth c 7 kc ks (vx_MQ below (QcT G o hs' tvI) (XCT G o hs') args s 302 4832 (gA G)) hs [(0, va_rf a0), (1, va_rf a1), (2, .int x2), (4, .int x4)] [] 24 := by
  intro n
  induction n with
  | zero =>
    intro kc ks hk x2 x4 hs h
    rw [L_X9_fill_24] at h
    exact absurd h failO_e
  | succ n hrec_24 =>
    intro kc ks hk x2 x4 hs h
    rw [L_X9_fill_24] at h
    have hk0 : kc ≤ 302 ∧ ks ≤ 4832 := ⟨by omega, by omega⟩
    have hk1 : kc + 1 ≤ 302 ∧ ks + 16 ≤ 4832 := ⟨by omega, by omega⟩
    have hrec_24 := hrec_24 (kc + 1) (ks + 16) ⟨by omega, by omega⟩
    refine q_iload C 3 dX9_fill_24 rfl ?_
    refine q_if_lt C 136 dX9_fill_26 (by decide) h (fun h => ?_) (fun h => ?_)
    · refine WG.sub [0] rfl ?_
      refine WG.widen (k := 302) (n := 4832) hk0.1 hk0.2 ?_
      exact hk_24_136 _ h
    · refine q_aload_n C 0 dX9_fill_29 rfl ?_
      refine q_iload C 3 dX9_fill_30 rfl ?_
      refine q_callV C (CN := RX9) (T := TX9) (N := 28) [.int x4] [] (fun a0 o2 hs1 hm => m_X9_cheapestOf hm) lk_X9_214 im_X9_cheapestOf se_X9_X9_cheapestOf rfl ⟨(Nat.le_of_ble_eq_true rfl), (Nat.le_of_ble_eq_true rfl)⟩ hk0 rfl rfl (by decide) dX9_fill_32 h (fun v8 hs h => WG_st (st' := [.int v8]) rfl ?_)
      refine q_istore C (fun v9 => [(5, .int v9), (0, va_rf a0), (1, va_rf a1), (2, .int x2), (4, .int x4)]) dX9_fill_35 (by decide) (fun _ => rfl) h (fun v9 h => ?_)
      refine q_iload C 0 dX9_fill_37 rfl ?_
      refine q_if_lt C 54 dX9_fill_39 (by decide) h (fun h => ?_) (fun h => ?_)
      · refine q_iload_n C 3 dX9_fill_54 rfl ?_
        refine q_bipush C (10 : Int32) dX9_fill_55 (by decide) ?_
        refine q_icmp_ge C 75 dX9_fill_57 (by decide) h (fun h => ?_) (fun h => ?_)
        · refine WG.sub [1, 2, 3, 4] rfl ?_
          exact w_j_X9_fill_75 C C2 hk0 hk1 _ _ _ _ _ hrec_24 h
        · refine q_aload_n C 1 dX9_fill_60 rfl ?_
          refine q_iload C 4 dX9_fill_61 rfl ?_
          refine q_callV C (CN := RX9) (T := TX9) (N := 28) [.int x4] [] (fun a0 o2 hs1 hm => m_X9_throwsOut hm) lk_X9_228 im_X9_throwsOut se_X9_X9_throwsOut rfl ⟨(Nat.le_of_ble_eq_true rfl), (Nat.le_of_ble_eq_true rfl)⟩ hk0 rfl rfl (by decide) dX9_fill_63 h (fun v21 hs h => WG_st (st' := [.int v21]) rfl ?_)
          refine q_if_eq C 75 dX9_fill_66 (by decide) h (fun h => ?_) (fun h => ?_)
          · refine WG.sub [1, 2, 3, 4] rfl ?_
            exact w_j_X9_fill_75 C C2 hk0 hk1 _ _ _ _ _ hrec_24 h
          · refine q_iinc C 3 (1 : Int32) (fun v22 => [(2, .int v22), (5, .int v9), (0, va_rf a0), (1, va_rf a1), (4, .int x4)]) dX9_fill_69 rfl (by decide) (by decide) (fun _ => rfl) h (fun v22 h => ?_)
            refine q_goto C 80 dX9_fill_72 (by decide) ?_
            refine WG.sub [2, 3, 0] rfl ?_
            exact w_j_X9_fill_80 C C2 hk0 hk1 _ _ _ _ hrec_24 h
      · refine q_aload_n C 1 dX9_fill_42 rfl ?_
        refine q_gR C fl_X9_53 dX9_fill_43 h (fun v24 h => ?_)
        refine q_iload C 4 dX9_fill_46 rfl ?_
        refine q_iload C 0 dX9_fill_48 rfl ?_
        refine q_iast C dX9_fill_50 h (fun hs h => ?_)
        refine q_goto C 80 dX9_fill_51 (by decide) ?_
        refine WG.sub [1, 2, 3] rfl ?_
        exact w_j_X9_fill_80 C C2 hk0 hk1 _ _ _ _ hrec_24 h
def j_X9_fill_167 (a0 : Option Nat) (a6 : Int32) (s0 : Int32) (s1 : Int32) (rec_142 : Int32 → Int32 → OO Int32) : OO Int32 :=
  lets (s1 + s0) fun (v30 : Int32) =>
    lets (a6 + (1 : Int32)) fun (v31 : Int32) =>
    rec_142 v30 v31
set_option maxRecDepth 100000 in
set_option maxHeartbeats 4000000 in
theorem w_j_X9_fill_167 (C : Cx G l p s m args c RX9 cX9_fill 7) (C2 : Cy meth c (some .int)) {hs : Hs} (a0 : Option Nat) (a6 : Int32) (s0 : Int32) (s1 : Int32) (rec_142 : Int32 → Int32 → OO Int32) (hrec_142 : ∀ (y5 : Int32) (y6 : Int32) hs, rec_142 y5 y6 hs = some (o, hs') → WG G p l e { frames := 9, cells := 302, slots := 4832, locals := 207 } s m args below meth c 7 302 4832 (vx_MQ below (QcT G o hs' tvI) (XCT G o hs') args s 302 4832 (gA G)) hs [(0, va_rf a0), (5, .int y5), (6, .int y6)] [] 142) (h : j_X9_fill_167 a0 a6 s0 s1 rec_142 hs = some (o, hs')) : WG G p l e { frames := 9, cells := 302, slots := 4832, locals := 207 } s m args below meth c 7 302 4832 (vx_MQ below (QcT G o hs' tvI) (XCT G o hs') args s 302 4832 (gA G)) hs [(0, va_rf a0), (6, .int a6)] [.int s0, .int s1] 167 := by
  unfold j_X9_fill_167 at h
  refine q_iadd C dX9_fill_167 ?_
  refine q_istore C (fun v30 => [(5, .int v30), (0, va_rf a0), (6, .int a6)]) dX9_fill_168 (by decide) (fun _ => rfl) h (fun v30 h => ?_)
  refine q_iinc C 2 (1 : Int32) (fun v31 => [(6, .int v31), (5, .int v30), (0, va_rf a0)]) dX9_fill_170 rfl (by decide) (by decide) (fun _ => rfl) h (fun v31 h => ?_)
  refine q_goto C 142 dX9_fill_173 (by decide) ?_
  refine WG.sub [2, 1, 0] rfl ?_
  exact hrec_142 _ _ _ h
def L_X9_fill_142 (a0 : Option Nat) (k_142_176 : Int32 → OO Int32) : Nat → Int32 → Int32 → OO Int32
  | 0, _, _ => failO
  | n + 1, x5, x6 =>
    gI a0 12 24 fun v28 =>
    (if v28 ≤ x6 then
    k_142_176 x5
    else
    rcv a0 12 fun r32 => call (f_X9_isPlaced r32 x6) (fun (v29 : Int32) =>
    (if v29 = 0 then
    j_X9_fill_167 a0 x6 (1 : Int32) x5 (L_X9_fill_142 a0 k_142_176 n)
    else
    j_X9_fill_167 a0 x6 (0 : Int32) x5 (L_X9_fill_142 a0 k_142_176 n))) nox)
set_option maxRecDepth 100000 in
set_option maxHeartbeats 4000000 in
theorem w_L_X9_fill_142 (C : Cx G l p s m args c RX9 cX9_fill 7) (C2 : Cy meth c (some .int)) (a0 : Option Nat) (k_142_176 : Int32 → OO Int32) (hk_142_176 : ∀ (y5 : Int32) hs, k_142_176 y5 hs = some (o, hs') → WG G p l e { frames := 9, cells := 302, slots := 4832, locals := 207 } s m args below meth c 7 302 4832 (vx_MQ below (QcT G o hs' tvI) (XCT G o hs') args s 302 4832 (gA G)) hs [(5, .int y5)] [] 176) : ∀ (n : Nat) (x5 : Int32) (x6 : Int32) (hs : Hs), L_X9_fill_142 a0 k_142_176 n x5 x6 hs = some (o, hs') → WG G p l e { frames := 9, cells := 302, slots := 4832, locals := 207 } s m args below meth c 7 302 4832 (vx_MQ below (QcT G o hs' tvI) (XCT G o hs') args s 302 4832 (gA G)) hs [(0, va_rf a0), (5, .int x5), (6, .int x6)] [] 142 := by
  intro n
  induction n with
  | zero =>
    intro x5 x6 hs h
    rw [L_X9_fill_142] at h
    exact absurd h failO_e
  | succ n hrec_142 =>
    intro x5 x6 hs h
    rw [L_X9_fill_142] at h
    refine q_iload C 2 dX9_fill_142 rfl ?_
    refine q_aload_n C 0 dX9_fill_144 rfl ?_
    refine q_gI C fl_X9_84 dX9_fill_145 h (fun v28 h => ?_)
    refine q_icmp_ge C 176 dX9_fill_148 (by decide) h (fun h => ?_) (fun h => ?_)
    · refine WG.sub [1] rfl ?_
      exact hk_142_176 _ _ h
    · refine q_iload C 1 dX9_fill_151 rfl ?_
      refine q_aload_n C 0 dX9_fill_153 rfl ?_
      refine q_iload C 2 dX9_fill_154 rfl ?_
      refine q_callV C (CN := RX9) (T := TX9) (N := 28) [.int x6] [.int x5] (fun a0 o2 hs1 hm => m_X9_isPlaced hm) lk_X9_118 im_X9_isPlaced se_X9_X9_isPlaced rfl ⟨(Nat.le_of_ble_eq_true rfl), (Nat.le_of_ble_eq_true rfl)⟩ ⟨(Nat.le_of_ble_eq_true rfl), (Nat.le_of_ble_eq_true rfl)⟩ rfl rfl (by simp only [List.map, cat_rf, cat_i, cat_a]; decide) dX9_fill_156 h (fun v29 hs h => WG_st (st' := [.int v29, .int x5]) rfl ?_)
      refine q_if_eq C 166 dX9_fill_159 (by decide) h (fun h => ?_) (fun h => ?_)
      · refine q_iconst C (1 : Int32) dX9_fill_166 (by decide) ?_
        refine WG.sub [0, 2] rfl ?_
        exact w_j_X9_fill_167 C C2 _ _ _ _ _ hrec_142 h
      · refine q_iconst C (0 : Int32) dX9_fill_162 (by decide) ?_
        refine q_goto C 167 dX9_fill_163 (by decide) ?_
        refine WG.sub [0, 2] rfl ?_
        exact w_j_X9_fill_167 C C2 _ _ _ _ _ hrec_142 h
end M_X9_fill
def f_X9_fill (a0 : Nat) : OO Int32 :=
    pI (some a0) 12 20 (0 : Int32) (
    nwI 1 (16 : Int32) 16 fun q1 =>
    lets (some q1) fun (v2 : Option Nat) =>
    lets (0 : Int32) fun (v3 : Int32) =>
    rcv (some a0) 12 fun r35 => call (f_X9_unplaced r35 ) (fun (v4 : Option Nat) =>
    lets v4 fun (v5 : Option Nat) =>
    rcv (some a0) 12 fun r34 => call (f_X9_hardestOf r34 v5) (fun (v6 : Int32) =>
    lets v6 fun (v7 : Int32) =>
    L_X9_fill_24 (some a0) v2 (lets (0 : Int32) fun (v26 : Int32) =>
    lets (0 : Int32) fun (v27 : Int32) =>
    L_X9_fill_142 (some a0) (fun (v33 : Int32) => rtn v33) 300 v26 v27) 300 v3 v7) nox) nox)
set_option maxRecDepth 100000 in
set_option maxHeartbeats 4000000 in
theorem m_X9_fill {G : GG} {l : Launch} {a0 : Nat} {hs hs' : Hs} {o : Except Nat Int32} (h : f_X9_fill a0 hs = some (o, hs')) : CT G l yX9_fill cX9_fill 7 (some .int) 9 207 302 4832 [.ref a0] hs o hs' tvI := by
  refine vx_ofW (cc := cX9_fill) (maxL := 7) (ret := (some .int)) (by decide +kernel) rfl ?_
  intro p e s m args below meth c s₁ B hml hxt hv
  obtain ⟨hav, hR, hKn⟩ := hv
  subst hav
  have hts := atoms_spec (ws := .code yX9_fill cX9_fill 7 (some .int) :: Tg) B.pre
  have C : Cx G l p s m _ c RX9 cX9_fill 7 := ⟨B.exec, B.bytes, hml, findClass_of_methodNamed B.named, fun w hw => hts w (List.mem_cons_of_mem _ hw), hKn, fun q hq => Nat.le_trans hR.2.2.1 hq⟩
  have C2 : Cy meth c (some .int) := ⟨B.returns, B.notSynchronized, hxt⟩
  have key : WG G p l e { frames := 9, cells := 302, slots := 4832, locals := 207 } s m ([.ref a0] : List Value).toArray below meth c 7 0 0 (vx_MQ below (QcT G o hs' tvI) (XCT G o hs') ([.ref a0] : List Value).toArray s 302 4832 (gA G)) hs [(0, va_rf (some a0))] [] 0 := by
    unfold f_X9_fill at h
    refine q_aload_n C 0 dX9_fill_0 rfl ?_
    refine q_iconst C (0 : Int32) dX9_fill_1 (by decide) ?_
    refine q_pI C fw_X9_71 (fun z => nomatch z) dX9_fill_2 h (fun hs h => ?_)
    refine q_bipush C (16 : Int32) dX9_fill_5 (by decide) ?_
    refine q_newZ C 16 (Nat.le_of_ble_eq_true rfl) ac_1 (Nat.le_of_ble_eq_true rfl) (Nat.le_of_ble_eq_true rfl) dX9_fill_7 h (fun q1 hs h => ?_)
    refine q_astore_n C (fun v2 => [(1, va_rf v2), (0, va_rf (some a0))]) dX9_fill_9 (by decide) (fun _ => rfl) h (fun v2 h => ?_)
    refine q_iconst C (0 : Int32) dX9_fill_10 (by decide) ?_
    refine q_istore_n C (fun v3 => [(2, .int v3), (1, va_rf v2), (0, va_rf (some a0))]) dX9_fill_11 (by decide) (fun _ => rfl) h (fun v3 h => ?_)
    refine q_aload_n C 2 dX9_fill_12 rfl ?_
    refine q_callV C (CN := RX9) (T := TX9) (N := 28) [] [] (fun a0 o2 hs1 hm => m_X9_unplaced hm) lk_X9_217 im_X9_unplaced se_X9_X9_unplaced rfl ⟨(Nat.le_of_ble_eq_true rfl), (Nat.le_of_ble_eq_true rfl)⟩ ⟨(Nat.le_of_ble_eq_true rfl), (Nat.le_of_ble_eq_true rfl)⟩ rfl rfl (by decide) dX9_fill_13 h (fun v4 hs h => WG_st (st' := [va_rf v4]) rfl ?_)
    refine q_astore_n C (fun v5 => [(3, va_rf v5), (2, .int v3), (1, va_rf v2), (0, va_rf (some a0))]) dX9_fill_16 (by decide) (fun _ => rfl) h (fun v5 h => ?_)
    refine q_aload_n C 3 dX9_fill_17 rfl ?_
    refine q_aload_n C 0 dX9_fill_18 rfl ?_
    refine q_callV C (CN := RX9) (T := TX9) (N := 28) [va_rf v5] [] (fun a0 o2 hs1 hm => m_X9_hardestOf hm) lk_X9_221 im_X9_hardestOf se_X9_X9_hardestOf rfl ⟨(Nat.le_of_ble_eq_true rfl), (Nat.le_of_ble_eq_true rfl)⟩ ⟨(Nat.le_of_ble_eq_true rfl), (Nat.le_of_ble_eq_true rfl)⟩ rfl rfl (by decide) dX9_fill_19 h (fun v6 hs h => WG_st (st' := [.int v6]) rfl ?_)
    refine q_istore C (fun v7 => [(4, .int v7), (3, va_rf v5), (2, .int v3), (1, va_rf v2), (0, va_rf (some a0))]) dX9_fill_22 (by decide) (fun _ => rfl) h (fun v7 h => ?_)
    refine WG.sub [4, 3, 2, 0] rfl ?_
    refine w_L_X9_fill_24 C C2 _ _ _ ?_ _ 2 32 ⟨Nat.le_of_ble_eq_true rfl, Nat.le_of_ble_eq_true rfl⟩ _ _ _ h
    · intro  hs h
      refine q_iconst C (0 : Int32) dX9_fill_136 (by decide) ?_
      refine q_istore C (fun v26 => [(5, .int v26), (0, va_rf (some a0))]) dX9_fill_137 (by decide) (fun _ => rfl) h (fun v26 h => ?_)
      refine q_iconst C (0 : Int32) dX9_fill_139 (by decide) ?_
      refine q_istore C (fun v27 => [(6, .int v27), (5, .int v26), (0, va_rf (some a0))]) dX9_fill_140 (by decide) (fun _ => rfl) h (fun v27 h => ?_)
      refine WG.sub [2, 1, 0] rfl ?_
      refine w_L_X9_fill_142 C C2 _ _ ?_ _ _ _ _ h
      · intro v33 hs h
        refine q_iload C 0 dX9_fill_176 rfl ?_
        exact q_iret C C2 rfl (Nat.le_of_ble_eq_true rfl) (Nat.le_of_ble_eq_true rfl) dX9_fill_178 h
  rw [lg_entry_eq]
  exact key _ _ _ hR va_S.rf ⟨lv_entry _ (n := 7) (Nat.le_of_ble_eq_true rfl), (c1_r c1_n)⟩

theorem cd_X9_wasMoved : Cond.code yX9_wasMoved cX9_wasMoved 2 (some .boolean) ∈ Tg := Tg_of (i := 1837) (by decide +kernel) (by decide +kernel)
theorem fl_X9_65 : Fld RX9 65 12 18 (.array .int) := ⟨RX9, TX9, 28, RX9, rfl, by decide, wf_X9_65, (Or.inl rfl), gu_X9, tyX9_ok _ (by decide), ⟨tyX9, tyX9_ok⟩, nmX9⟩
section M_X9_wasMoved
variable {p : Program} {l : Launch} {e : Env} {s : State} {m : MethodId} {args : Array Value} {below : List Frame} {meth : Method} {c : Code} {G : GG} {o : Except Nat Int32} {hs' : Hs}
def j_X9_wasMoved_30    : OO Int32 :=
  retZ (1 : Int32)
set_option maxRecDepth 100000 in
set_option maxHeartbeats 4000000 in
theorem w_j_X9_wasMoved_30 (C : Cx G l p s m args c RX9 cX9_wasMoved 2) (C2 : Cy meth c (some .boolean)) {hs : Hs}     (h : j_X9_wasMoved_30 hs = some (o, hs')) : WG G p l e { frames := 0, cells := 0, slots := 0, locals := 0 } s m args below meth c 2 0 0 (vx_MQ below (QcT G o hs' tvI) (XCT G o hs') args s 0 0 (gA G)) hs [] [] 30 := by
  unfold j_X9_wasMoved_30 at h
  refine q_iconst C (1 : Int32) dX9_wasMoved_30 (by decide) ?_
  refine q_goto C 35 dX9_wasMoved_31 (by decide) ?_
  exact q_zret C C2 rfl (Nat.le_of_ble_eq_true rfl) (Nat.le_of_ble_eq_true rfl) dX9_wasMoved_35 h
end M_X9_wasMoved
def f_X9_wasMoved (a0 : Nat) (p1 : Int32) : OO Int32 :=
    gR (some a0) 12 18 fun v1 =>
    ldI 0 v1 (0 : Int32) fun v2 =>
    (if v2 = p1 then
    j_X9_wasMoved_30
    else
    gR (some a0) 12 18 fun v3 =>
    ldI 0 v3 (1 : Int32) fun v4 =>
    (if v4 = p1 then
    j_X9_wasMoved_30
    else
    gR (some a0) 12 18 fun v5 =>
    ldI 0 v5 (2 : Int32) fun v6 =>
    (if ¬ v6 = p1 then
    retZ (0 : Int32)
    else
    j_X9_wasMoved_30)))
set_option maxRecDepth 100000 in
set_option maxHeartbeats 4000000 in
theorem m_X9_wasMoved {G : GG} {l : Launch} {a0 : Nat} {p1 : Int32} {hs hs' : Hs} {o : Except Nat Int32} (h : f_X9_wasMoved a0 p1 hs = some (o, hs')) : CT G l yX9_wasMoved cX9_wasMoved 2 (some .boolean) 0 0 0 0 [.ref a0, .int p1] hs o hs' tvI := by
  refine vx_ofW (cc := cX9_wasMoved) (maxL := 2) (ret := (some .boolean)) (by decide +kernel) rfl ?_
  intro p e s m args below meth c s₁ B hml hxt hv
  obtain ⟨hav, hR, hKn⟩ := hv
  subst hav
  have hts := atoms_spec (ws := .code yX9_wasMoved cX9_wasMoved 2 (some .boolean) :: Tg) B.pre
  have C : Cx G l p s m _ c RX9 cX9_wasMoved 2 := ⟨B.exec, B.bytes, hml, findClass_of_methodNamed B.named, fun w hw => hts w (List.mem_cons_of_mem _ hw), hKn, fun q hq => Nat.le_trans hR.2.2.1 hq⟩
  have C2 : Cy meth c (some .boolean) := ⟨B.returns, B.notSynchronized, hxt⟩
  have key : WG G p l e { frames := 0, cells := 0, slots := 0, locals := 0 } s m ([.ref a0, .int p1] : List Value).toArray below meth c 2 0 0 (vx_MQ below (QcT G o hs' tvI) (XCT G o hs') ([.ref a0, .int p1] : List Value).toArray s 0 0 (gA G)) hs [(0, va_rf (some a0)), (1, .int p1)] [] 0 := by
    unfold f_X9_wasMoved at h
    refine q_aload_n C 0 dX9_wasMoved_0 rfl ?_
    refine q_gR C fl_X9_65 dX9_wasMoved_1 h (fun v1 h => ?_)
    refine q_iconst C (0 : Int32) dX9_wasMoved_4 (by decide) ?_
    refine q_iald C dX9_wasMoved_5 h (fun v2 h => ?_)
    refine q_iload_n C 1 dX9_wasMoved_6 rfl ?_
    refine q_icmp_eq C 30 dX9_wasMoved_7 (by decide) h (fun h => ?_) (fun h => ?_)
    · refine WG.sub [] rfl ?_
      exact w_j_X9_wasMoved_30 C C2    h
    · refine q_aload_n C 0 dX9_wasMoved_10 rfl ?_
      refine q_gR C fl_X9_65 dX9_wasMoved_11 h (fun v3 h => ?_)
      refine q_iconst C (1 : Int32) dX9_wasMoved_14 (by decide) ?_
      refine q_iald C dX9_wasMoved_15 h (fun v4 h => ?_)
      refine q_iload_n C 1 dX9_wasMoved_16 rfl ?_
      refine q_icmp_eq C 30 dX9_wasMoved_17 (by decide) h (fun h => ?_) (fun h => ?_)
      · refine WG.sub [] rfl ?_
        exact w_j_X9_wasMoved_30 C C2    h
      · refine q_aload_n C 0 dX9_wasMoved_20 rfl ?_
        refine q_gR C fl_X9_65 dX9_wasMoved_21 h (fun v5 h => ?_)
        refine q_iconst C (2 : Int32) dX9_wasMoved_24 (by decide) ?_
        refine q_iald C dX9_wasMoved_25 h (fun v6 h => ?_)
        refine q_iload_n C 1 dX9_wasMoved_26 rfl ?_
        refine q_icmp_ne C 34 dX9_wasMoved_27 (by decide) h (fun h => ?_) (fun h => ?_)
        · refine q_iconst C (0 : Int32) dX9_wasMoved_34 (by decide) ?_
          exact q_zret C C2 rfl (Nat.le_of_ble_eq_true rfl) (Nat.le_of_ble_eq_true rfl) dX9_wasMoved_35 h
        · refine WG.sub [] rfl ?_
          exact w_j_X9_wasMoved_30 C C2    h
  rw [lg_entry_eq]
  exact key _ _ _ hR va_S.rf ⟨lv_entry _ (n := 2) (Nat.le_of_ble_eq_true rfl), (c1_r (c1_i c1_n))⟩

