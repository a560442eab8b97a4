theorem cd_X9_manyBits : Cond.code yX9_manyBits cX9_manyBits 3 (some .int) ∈ Tg := Tg_of (i := 1693) (by decide +kernel) (by decide +kernel)
section M_X9_manyBits
variable {p : Program} {l : Launch} {e : Env} {s : State} {m : MethodId} {args : Array Value} {below : List Frame} {meth : Method} {c : Code} {G : GG} {o : Except Nat Int32} {hs' : Hs}
def L_X9_manyBits_4  (k_4_21 : Int32 → OO Int32) : Nat → Int32 → Int32 → OO Int32
  | 0, _, _ => failO
  | n + 1, x1, x2 =>
    (if x2 ≤ 0 then
    k_4_21 x1
    else
    dvz (2 : Int32) (
    lets (x1 + (irem x2 (2 : Int32))) fun (v3 : Int32) =>
    dvz (2 : Int32) (
    lets (x2 / (2 : Int32)) fun (v4 : Int32) =>
    (L_X9_manyBits_4 k_4_21 n) v3 v4)))
set_option maxRecDepth 100000 in
set_option maxHeartbeats 4000000 in
theorem w_L_X9_manyBits_4 (C : Cx G l p s m args c RX9 cX9_manyBits 3) (C2 : Cy meth c (some .int))  (k_4_21 : Int32 → OO Int32) (hk_4_21 : ∀ (y1 : Int32) hs, k_4_21 y1 hs = some (o, hs') → WG G p l e { frames := 0, cells := 0, slots := 0, locals := 0 } s m args below meth c 3 0 0 (vx_MQ below (QcT G o hs' tvI) (XCT G o hs') args s 0 0 (gA G)) hs [(1, .int y1)] [] 21) : ∀ (n : Nat) (x1 : Int32) (x2 : Int32) (hs : Hs), L_X9_manyBits_4 k_4_21 n x1 x2 hs = some (o, hs') → WG G p l e { frames := 0, cells := 0, slots := 0, locals := 0 } s m args below meth c 3 0 0 (vx_MQ below (QcT G o hs' tvI) (XCT G o hs') args s 0 0 (gA G)) hs [(1, .int x1), (2, .int x2)] [] 4 := by
  intro n
  induction n with
  | zero =>
    intro x1 x2 hs h
    rw [L_X9_manyBits_4] at h
    exact absurd h failO_e
  | succ n hrec_4 =>
    intro x1 x2 hs h
    rw [L_X9_manyBits_4] at h
    refine q_iload_n C 1 dX9_manyBits_4 rfl ?_
    refine q_if_le C 21 dX9_manyBits_5 (by decide) h (fun h => ?_) (fun h => ?_)
    · refine WG.sub [0] rfl ?_
      exact hk_4_21 _ _ h
    · refine q_iload_n C 0 dX9_manyBits_8 rfl ?_
      refine q_iload_n C 1 dX9_manyBits_9 rfl ?_
      refine q_iconst C (2 : Int32) dX9_manyBits_10 (by decide) ?_
      refine q_irem C dX9_manyBits_11 h (fun h => ?_)
      refine q_iadd C dX9_manyBits_12 ?_
      refine q_istore_n C (fun v3 => [(1, .int v3), (2, .int x2)]) dX9_manyBits_13 (by decide) (fun _ => rfl) h (fun v3 h => ?_)
      refine q_iload_n C 1 dX9_manyBits_14 rfl ?_
      refine q_iconst C (2 : Int32) dX9_manyBits_15 (by decide) ?_
      refine q_idiv C dX9_manyBits_16 h (fun h => ?_)
      refine q_istore_n C (fun v4 => [(2, .int v4), (1, .int v3)]) dX9_manyBits_17 (by decide) (fun _ => rfl) h (fun v4 h => ?_)
      refine q_goto C 4 dX9_manyBits_18 (by decide) ?_
      refine WG.sub [1, 0] rfl ?_
      exact hrec_4 _ _ _ h
end M_X9_manyBits
def f_X9_manyBits (p0 : Int32) : OO Int32 :=
    lets (0 : Int32) fun (v1 : Int32) =>
    lets p0 fun (v2 : Int32) =>
    L_X9_manyBits_4 (fun (v5 : Int32) => rtn v5) 100000 v1 v2
set_option maxRecDepth 100000 in
set_option maxHeartbeats 4000000 in
theorem m_X9_manyBits {G : GG} {l : Launch} {p0 : Int32} {hs hs' : Hs} {o : Except Nat Int32} (h : f_X9_manyBits p0 hs = some (o, hs')) : CT G l yX9_manyBits cX9_manyBits 3 (some .int) 0 0 0 0 [.int p0] hs o hs' tvI := by
  refine vx_ofW (cc := cX9_manyBits) (maxL := 3) (ret := (some .int)) (by decide +kernel) rfl ?_
  intro p e s m args below meth c s₁ B hml hxt hv
  obtain ⟨hav, hR, hKn⟩ := hv
  subst hav
  have hts := atoms_spec (ws := .code yX9_manyBits cX9_manyBits 3 (some .int) :: Tg) B.pre
  have C : Cx G l p s m _ c RX9 cX9_manyBits 3 := ⟨B.exec, B.bytes, hml, findClass_of_methodNamed B.named, fun w hw => hts w (List.mem_cons_of_mem _ hw), hKn, fun q hq => Nat.le_trans hR.2.2.1 hq⟩
  have C2 : Cy meth c (some .int) := ⟨B.returns, B.notSynchronized, hxt⟩
  have key : WG G p l e { frames := 0, cells := 0, slots := 0, locals := 0 } s m ([.int p0] : List Value).toArray below meth c 3 0 0 (vx_MQ below (QcT G o hs' tvI) (XCT G o hs') ([.int p0] : List Value).toArray s 0 0 (gA G)) hs [(0, .int p0)] [] 0 := by
    unfold f_X9_manyBits at h
    refine q_iconst C (0 : Int32) dX9_manyBits_0 (by decide) ?_
    refine q_istore_n C (fun v1 => [(1, .int v1), (0, .int p0)]) dX9_manyBits_1 (by decide) (fun _ => rfl) h (fun v1 h => ?_)
    refine q_iload_n C 1 dX9_manyBits_2 rfl ?_
    refine q_istore_n C (fun v2 => [(2, .int v2), (1, .int v1), (0, .int p0)]) dX9_manyBits_3 (by decide) (fun _ => rfl) h (fun v2 h => ?_)
    refine WG.sub [1, 0] rfl ?_
    refine w_L_X9_manyBits_4 C C2  _ ?_ _ _ _ _ h
    · intro v5 hs h
      refine q_iload_n C 0 dX9_manyBits_21 rfl ?_
      exact q_iret C C2 rfl (Nat.le_of_ble_eq_true rfl) (Nat.le_of_ble_eq_true rfl) dX9_manyBits_22 h
  rw [lg_entry_eq]
  exact key _ _ _ hR va_S.rf ⟨lv_entry _ (n := 3) (Nat.le_of_ble_eq_true rfl), (c1_i c1_n)⟩

theorem cd_X9_barsAll : Cond.code yX9_barsAll cX9_barsAll 5 (some .boolean) ∈ Tg := Tg_of (i := 1690) (by decide +kernel) (by decide +kernel)
section M_X9_barsAll
variable {p : Program} {l : Launch} {e : Env} {s : State} {m : MethodId} {args : Array Value} {below : List Frame} {meth : Method} {c : Code} {G : GG} {o : Except Nat Int32} {hs' : Hs}
def L_X9_barsAll_3 (a0 : Option Nat) (a1 : Int32) (a2 : Int32) (a3 : Int32) (k_3_25 : OO Int32) (k_3_33 : OO Int32) : Nat → Int32 → OO Int32
  | 0, _ => failO
  | n + 1, x4 =>
    gI a0 12 21 fun v2 =>
    (if v2 ≤ x4 then
    k_3_33
    else
    rcv a0 12 fun r5 => call (f_X9_letters r5 a2 a3 x4) (fun (v3 : Int32) =>
    (if ¬ (v3 &&& a1) = 0 then
    lets (x4 + (1 : Int32)) fun (v4 : Int32) =>
    (L_X9_barsAll_3 a0 a1 a2 a3 k_3_25 k_3_33 n) v4
    else
    k_3_25)) nox)
set_option maxRecDepth 100000 in
set_option maxHeartbeats 4000000 in
theorem w_L_X9_barsAll_3 (C : Cx G l p s m args c RX9 cX9_barsAll 5) (C2 : Cy meth c (some .boolean)) (a0 : Option Nat) (a1 : Int32) (a2 : Int32) (a3 : Int32) (k_3_25 : OO Int32) (k_3_33 : OO Int32) (hk_3_25 : ∀ hs, k_3_25  hs = some (o, hs') → WG G p l e { frames := 5, cells := 0, slots := 0, locals := 118 } s m args below meth c 5 0 0 (vx_MQ below (QcT G o hs' tvI) (XCT G o hs') args s 0 0 (gA G)) hs [] [] 25) (hk_3_33 : ∀ hs, k_3_33  hs = some (o, hs') → WG G p l e { frames := 5, cells := 0, slots := 0, locals := 118 } s m args below meth c 5 0 0 (vx_MQ below (QcT G o hs' tvI) (XCT G o hs') args s 0 0 (gA G)) hs [] [] 33) : ∀ (n : Nat) (x4 : Int32) (hs : Hs), L_X9_barsAll_3 a0 a1 a2 a3 k_3_25 k_3_33 n x4 hs = some (o, hs') → WG G p l e { frames := 5, cells := 0, slots := 0, locals := 118 } s m args below meth c 5 0 0 (vx_MQ below (QcT G o hs' tvI) (XCT G o hs') args s 0 0 (gA G)) hs [(0, va_rf a0), (1, .int a1), (2, .int a2), (3, .int a3), (4, .int x4)] [] 3 := by
  intro n
  induction n with
  | zero =>
    intro x4 hs h
    rw [L_X9_barsAll_3] at h
    exact absurd h failO_e
  | succ n hrec_3 =>
    intro x4 hs h
    rw [L_X9_barsAll_3] at h
    refine q_iload C 4 dX9_barsAll_3 rfl ?_
    refine q_aload_n C 0 dX9_barsAll_5 rfl ?_
    refine q_gI C fl_X9_75 dX9_barsAll_6 h (fun v2 h => ?_)
    refine q_icmp_ge C 33 dX9_barsAll_9 (by decide) h (fun h => ?_) (fun h => ?_)
    · refine WG.sub [] rfl ?_
      exact hk_3_33 _ h
    · refine q_aload_n C 0 dX9_barsAll_12 rfl ?_
      refine q_iload_n C 2 dX9_barsAll_13 rfl ?_
      refine q_iload_n C 3 dX9_barsAll_14 rfl ?_
      refine q_iload C 4 dX9_barsAll_15 rfl ?_
      refine q_callV C (CN := RX9) (T := TX9) (N := 28) [.int a2, .int a3, .int x4] [] (fun a0 o2 hs1 hm => m_X9_letters hm) lk_X9_145 im_X9_letters se_X9_X9_letters rfl ⟨(Nat.le_of_ble_eq_true rfl), (Nat.le_of_ble_eq_true rfl)⟩ ⟨(Nat.le_of_ble_eq_true rfl), (Nat.le_of_ble_eq_true rfl)⟩ rfl rfl (by decide) dX9_barsAll_17 h (fun v3 hs h => WG_st (st' := [.int v3]) rfl ?_)
      refine q_iload_n C 1 dX9_barsAll_20 rfl ?_
      refine q_iand C dX9_barsAll_21 ?_
      refine q_if_ne C 27 dX9_barsAll_22 (by decide) h (fun h => ?_) (fun h => ?_)
      · refine q_iinc C 4 (1 : Int32) (fun v4 => [(4, .int v4), (0, va_rf a0), (1, .int a1), (2, .int a2), (3, .int a3)]) dX9_barsAll_27 rfl (by decide) (by decide) (fun _ => rfl) h (fun v4 h => ?_)
        refine q_goto C 3 dX9_barsAll_30 (by decide) ?_
        refine WG.sub [1, 2, 3, 4, 0] rfl ?_
        exact hrec_3 _ _ h
      · refine WG.sub [] rfl ?_
        exact hk_3_25 _ h
end M_X9_barsAll
def f_X9_barsAll (a0 : Nat) (p1 : Int32) (p2 : Int32) (p3 : Int32) : OO Int32 :=
    lets (0 : Int32) fun (v1 : Int32) =>
    L_X9_barsAll_3 (some a0) p1 p2 p3 (retZ (0 : Int32)) (retZ (1 : Int32)) 100000 v1
set_option maxRecDepth 100000 in
set_option maxHeartbeats 4000000 in
theorem m_X9_barsAll {G : GG} {l : Launch} {a0 : Nat} {p1 : Int32} {p2 : Int32} {p3 : Int32} {hs hs' : Hs} {o : Except Nat Int32} (h : f_X9_barsAll a0 p1 p2 p3 hs = some (o, hs')) : CT G l yX9_barsAll cX9_barsAll 5 (some .boolean) 5 118 0 0 [.ref a0, .int p1, .int p2, .int p3] hs o hs' tvI := by
  refine vx_ofW (cc := cX9_barsAll) (maxL := 5) (ret := (some .boolean)) (by decide +kernel) rfl ?_
  intro p e s m args below meth c s₁ B hml hxt hv
  obtain ⟨hav, hR, hKn⟩ := hv
  subst hav
  have hts := atoms_spec (ws := .code yX9_barsAll cX9_barsAll 5 (some .boolean) :: Tg) B.pre
  have C : Cx G l p s m _ c RX9 cX9_barsAll 5 := ⟨B.exec, B.bytes, hml, findClass_of_methodNamed B.named, fun w hw => hts w (List.mem_cons_of_mem _ hw), hKn, fun q hq => Nat.le_trans hR.2.2.1 hq⟩
  have C2 : Cy meth c (some .boolean) := ⟨B.returns, B.notSynchronized, hxt⟩
  have key : WG G p l e { frames := 5, cells := 0, slots := 0, locals := 118 } s m ([.ref a0, .int p1, .int p2, .int p3] : List Value).toArray below meth c 5 0 0 (vx_MQ below (QcT G o hs' tvI) (XCT G o hs') ([.ref a0, .int p1, .int p2, .int p3] : List Value).toArray s 0 0 (gA G)) hs [(0, va_rf (some a0)), (1, .int p1), (2, .int p2), (3, .int p3)] [] 0 := by
    unfold f_X9_barsAll at h
    refine q_iconst C (0 : Int32) dX9_barsAll_0 (by decide) ?_
    refine q_istore C (fun v1 => [(4, .int v1), (0, va_rf (some a0)), (1, .int p1), (2, .int p2), (3, .int p3)]) dX9_barsAll_1 (by decide) (fun _ => rfl) h (fun v1 h => ?_)
    refine WG.sub [1, 2, 3, 4, 0] rfl ?_
    refine w_L_X9_barsAll_3 C C2 _ _ _ _ _ _ ?_ ?_ _ _ _ h
    · intro  hs h
      refine q_iconst C (0 : Int32) dX9_barsAll_25 (by decide) ?_
      exact q_zret C C2 rfl (Nat.le_of_ble_eq_true rfl) (Nat.le_of_ble_eq_true rfl) dX9_barsAll_26 h
    · intro  hs h
      refine q_iconst C (1 : Int32) dX9_barsAll_33 (by decide) ?_
      exact q_zret C C2 rfl (Nat.le_of_ble_eq_true rfl) (Nat.le_of_ble_eq_true rfl) dX9_barsAll_34 h
  rw [lg_entry_eq]
  exact key _ _ _ hR va_S.rf ⟨lv_entry _ (n := 5) (Nat.le_of_ble_eq_true rfl), (c1_r (c1_i (c1_i (c1_i c1_n))))⟩

theorem cd_X9_isOpenAt : Cond.code yX9_isOpenAt cX9_isOpenAt 4 (some .boolean) ∈ Tg := Tg_of (i := 1686) (by decide +kernel) (by decide +kernel)
section M_X9_isOpenAt
variable {p : Program} {l : Launch} {e : Env} {s : State} {m : MethodId} {args : Array Value} {below : List Frame} {meth : Method} {c : Code} {G : GG} {o : Except Nat Int32} {hs' : Hs}
def L_X9_isOpenAt_2 (a0 : Option Nat) (a1 : Int32) (a2 : Int32) (k_2_20 : OO Int32) (k_2_28 : OO Int32) : Nat → Int32 → OO Int32
  | 0, _ => failO
  | n + 1, x3 =>
    gI a0 12 21 fun v2 =>
    (if v2 ≤ x3 then
    k_2_28
    else
    rcv a0 12 fun r5 => call (f_X9_letters r5 a1 a2 x3) (fun (v3 : Int32) =>
    (if ¬ v3 = 0 then
    lets (x3 + (1 : Int32)) fun (v4 : Int32) =>
    (L_X9_isOpenAt_2 a0 a1 a2 k_2_20 k_2_28 n) v4
    else
    k_2_20)) nox)
set_option maxRecDepth 100000 in
set_option maxHeartbeats 4000000 in
theorem w_L_X9_isOpenAt_2 (C : Cx G l p s m args c RX9 cX9_isOpenAt 4) (C2 : Cy meth c (some .boolean)) (a0 : Option Nat) (a1 : Int32) (a2 : Int32) (k_2_20 : OO Int32) (k_2_28 : OO Int32) (hk_2_20 : ∀ hs, k_2_20  hs = some (o, hs') → WG G p l e { frames := 5, cells := 0, slots := 0, locals := 118 } s m args below meth c 4 0 0 (vx_MQ below (QcT G o hs' tvI) (XCT G o hs') args s 0 0 (gA G)) hs [] [] 20) (hk_2_28 : ∀ hs, k_2_28  hs = some (o, hs') → WG G p l e { frames := 5, cells := 0, slots := 0, locals := 118 } s m args below meth c 4 0 0 (vx_MQ below (QcT G o hs' tvI) (XCT G o hs') args s 0 0 (gA G)) hs [] [] 28) : ∀ (n : Nat) (x3 : Int32) (hs : Hs), L_X9_isOpenAt_2 a0 a1 a2 k_2_20 k_2_28 n x3 hs = some (o, hs') → WG G p l e { frames := 5, cells := 0, slots := 0, locals := 118 } s m args below meth c 4 0 0 (vx_MQ below (QcT G o hs' tvI) (XCT G o hs') args s 0 0 (gA G)) hs [(0, va_rf a0), (1, .int a1), (2, .int a2), (3, .int x3)] [] 2 := by
  intro n
  induction n with
  | zero =>
    intro x3 hs h
    rw [L_X9_isOpenAt_2] at h
    exact absurd h failO_e
  | succ n hrec_2 =>
    intro x3 hs h
    rw [L_X9_isOpenAt_2] at h
    refine q_iload_n C 3 dX9_isOpenAt_2 rfl ?_
    refine q_aload_n C 0 dX9_isOpenAt_3 rfl ?_
    refine q_gI C fl_X9_75 dX9_isOpenAt_4 h (fun v2 h => ?_)
    refine q_icmp_ge C 28 dX9_isOpenAt_7 (by decide) h (fun h => ?_) (fun h => ?_)
    · refine WG.sub [] rfl ?_
      exact hk_2_28 _ h
    · refine q_aload_n C 0 dX9_isOpenAt_10 rfl ?_
      refine q_iload_n C 1 dX9_isOpenAt_11 rfl ?_
      refine q_iload_n C 2 dX9_isOpenAt_12 rfl ?_
      refine q_iload_n C 3 dX9_isOpenAt_13 rfl ?_
      refine q_callV C (CN := RX9) (T := TX9) (N := 28) [.int a1, .int a2, .int x3] [] (fun a0 o2 hs1 hm => m_X9_letters hm) lk_X9_145 im_X9_letters se_X9_X9_letters rfl ⟨(Nat.le_of_ble_eq_true rfl), (Nat.le_of_ble_eq_true rfl)⟩ ⟨(Nat.le_of_ble_eq_true rfl), (Nat.le_of_ble_eq_true rfl)⟩ rfl rfl (by decide) dX9_isOpenAt_14 h (fun v3 hs h => WG_st (st' := [.int v3]) rfl ?_)
      refine q_if_ne C 22 dX9_isOpenAt_17 (by decide) h (fun h => ?_) (fun h => ?_)
      · refine q_iinc C 3 (1 : Int32) (fun v4 => [(3, .int v4), (0, va_rf a0), (1, .int a1), (2, .int a2)]) dX9_isOpenAt_22 rfl (by decide) (by decide) (fun _ => rfl) h (fun v4 h => ?_)
        refine q_goto C 2 dX9_isOpenAt_25 (by decide) ?_
        refine WG.sub [1, 2, 3, 0] rfl ?_
        exact hrec_2 _ _ h
      · refine WG.sub [] rfl ?_
        exact hk_2_20 _ h
end M_X9_isOpenAt
def f_X9_isOpenAt (a0 : Nat) (p1 : Int32) (p2 : Int32) : OO Int32 :=
    lets (0 : Int32) fun (v1 : Int32) =>
    L_X9_isOpenAt_2 (some a0) p1 p2 (retZ (1 : Int32)) (retZ (0 : Int32)) 100000 v1
set_option maxRecDepth 100000 in
set_option maxHeartbeats 4000000 in
theorem m_X9_isOpenAt {G : GG} {l : Launch} {a0 : Nat} {p1 : Int32} {p2 : Int32} {hs hs' : Hs} {o : Except Nat Int32} (h : f_X9_isOpenAt a0 p1 p2 hs = some (o, hs')) : CT G l yX9_isOpenAt cX9_isOpenAt 4 (some .boolean) 5 118 0 0 [.ref a0, .int p1, .int p2] hs o hs' tvI := by
  refine vx_ofW (cc := cX9_isOpenAt) (maxL := 4) (ret := (some .boolean)) (by decide +kernel) rfl ?_
  intro p e s m args below meth c s₁ B hml hxt hv
  obtain ⟨hav, hR, hKn⟩ := hv
  subst hav
  have hts := atoms_spec (ws := .code yX9_isOpenAt cX9_isOpenAt 4 (some .boolean) :: Tg) B.pre
  have C : Cx G l p s m _ c RX9 cX9_isOpenAt 4 := ⟨B.exec, B.bytes, hml, findClass_of_methodNamed B.named, fun w hw => hts w (List.mem_cons_of_mem _ hw), hKn, fun q hq => Nat.le_trans hR.2.2.1 hq⟩
  have C2 : Cy meth c (some .boolean) := ⟨B.returns, B.notSynchronized, hxt⟩
  have key : WG G p l e { frames := 5, cells := 0, slots := 0, locals := 118 } s m ([.ref a0, .int p1, .int p2] : List Value).toArray below meth c 4 0 0 (vx_MQ below (QcT G o hs' tvI) (XCT G o hs') ([.ref a0, .int p1, .int p2] : List Value).toArray s 0 0 (gA G)) hs [(0, va_rf (some a0)), (1, .int p1), (2, .int p2)] [] 0 := by
    unfold f_X9_isOpenAt at h
    refine q_iconst C (0 : Int32) dX9_isOpenAt_0 (by decide) ?_
    refine q_istore_n C (fun v1 => [(3, .int v1), (0, va_rf (some a0)), (1, .int p1), (2, .int p2)]) dX9_isOpenAt_1 (by decide) (fun _ => rfl) h (fun v1 h => ?_)
    refine WG.sub [1, 2, 3, 0] rfl ?_
    refine w_L_X9_isOpenAt_2 C C2 _ _ _ _ _ ?_ ?_ _ _ _ h
    · intro  hs h
      refine q_iconst C (1 : Int32) dX9_isOpenAt_20 (by decide) ?_
      exact q_zret C C2 rfl (Nat.le_of_ble_eq_true rfl) (Nat.le_of_ble_eq_true rfl) dX9_isOpenAt_21 h
    · intro  hs h
      refine q_iconst C (0 : Int32) dX9_isOpenAt_28 (by decide) ?_
      exact q_zret C C2 rfl (Nat.le_of_ble_eq_true rfl) (Nat.le_of_ble_eq_true rfl) dX9_isOpenAt_29 h
  rw [lg_entry_eq]
  exact key _ _ _ hR va_S.rf ⟨lv_entry _ (n := 4) (Nat.le_of_ble_eq_true rfl), (c1_r (c1_i (c1_i c1_n)))⟩

theorem cd_X9_reasons : Cond.code yX9_reasons cX9_reasons 5 (some .int) ∈ Tg := Tg_of (i := 1682) (by decide +kernel) (by decide +kernel)
theorem ml_X9_161 : Cond.methodLink RX9 161 yX9_isOpenAt ∈ Tg := Tg_of (i := 1683) (by decide +kernel) (by decide +kernel)
theorem lk_X9_161 : Lk RX9 161 yX9_isOpenAt cX9_isOpenAt 4 (some .boolean) 2 := ⟨ml_X9_161, cd_X9_isOpenAt, iw_X9, by decide +kernel⟩
theorem ml_X9_165 : Cond.methodLink RX9 165 yX9_barsAll ∈ Tg := Tg_of (i := 1687) (by decide +kernel) (by decide +kernel)
theorem lk_X9_165 : Lk RX9 165 yX9_barsAll cX9_barsAll 5 (some .boolean) 3 := ⟨ml_X9_165, cd_X9_barsAll, iw_X9, by decide +kernel⟩
theorem ml_X9_168 : Cond.methodLink RX9 168 yX9_manyBits ∈ Tg := Tg_of (i := 1691) (by decide +kernel) (by decide +kernel)
theorem lk_X9_168 : Lk RX9 168 yX9_manyBits cX9_manyBits 3 (some .int) 1 := ⟨ml_X9_168, cd_X9_manyBits, iw_X9, by decide +kernel⟩
theorem sm_X9_manyBits : Cond.static yX9_manyBits ∈ Tg := Tg_of (i := 1692) (by decide +kernel) (by decide +kernel)
theorem im_X9_barsAll : Cond.instanceMethod yX9_barsAll ∈ Tg := Tg_of (i := 1689) (by decide +kernel) (by decide +kernel)
theorem se_X9_X9_barsAll : Cond.selects RX9 yX9_barsAll yX9_barsAll ∈ Tg := Tg_of (i := 52) (by decide +kernel) (by decide +kernel)
theorem im_X9_isOpenAt : Cond.instanceMethod yX9_isOpenAt ∈ Tg := Tg_of (i := 1685) (by decide +kernel) (by decide +kernel)
theorem se_X9_X9_isOpenAt : Cond.selects RX9 yX9_isOpenAt yX9_isOpenAt ∈ Tg := Tg_of (i := 51) (by decide +kernel) (by decide +kernel)
section M_X9_reasons
variable {p : Program} {l : Launch} {e : Env} {s : State} {m : MethodId} {args : Array Value} {below : List Frame} {meth : Method} {c : Code} {G : GG} {o : Except Nat Int32} {hs' : Hs}
def j_X9_reasons_90 (a0 : Option Nat) (a1 : Int32) (a2 : Int32) (a3 : Int32) (a4 : Int32)  (rec_59 : Int32 → Int32 → OO Int32) : OO Int32 :=
  lets (a4 + (-1 : Int32)) fun (v8 : Int32) =>
    rec_59 a3 v8
set_option maxRecDepth 100000 in
set_option maxHeartbeats 4000000 in
theorem w_j_X9_reasons_90 (C : Cx G l p s m args c RX9 cX9_reasons 5) (C2 : Cy meth c (some .int)) {hs : Hs} (a0 : Option Nat) (a1 : Int32) (a2 : Int32) (a3 : Int32) (a4 : Int32)  (rec_59 : Int32 → Int32 → OO Int32) (hrec_59 : ∀ (y3 : Int32) (y4 : Int32) hs, rec_59 y3 y4 hs = some (o, hs') → WG G p l e { frames := 6, cells := 0, slots := 0, locals := 142 } s m args below meth c 5 0 0 (vx_MQ below (QcT G o hs' tvI) (XCT G o hs') args s 0 0 (gA G)) hs [(0, va_rf a0), (1, .int a1), (2, .int a2), (3, .int y3), (4, .int y4)] [] 59) (h : j_X9_reasons_90 a0 a1 a2 a3 a4 rec_59 hs = some (o, hs')) : WG G p l e { frames := 6, cells := 0, slots := 0, locals := 142 } s m args below meth c 5 0 0 (vx_MQ below (QcT G o hs' tvI) (XCT G o hs') args s 0 0 (gA G)) hs [(0, va_rf a0), (1, .int a1), (2, .int a2), (3, .int a3), (4, .int a4)] [] 90 := by
  unfold j_X9_reasons_90 at h
  refine q_iinc C 4 (-1 : Int32) (fun v8 => [(4, .int v8), (0, va_rf a0), (1, .int a1), (2, .int a2), (3, .int a3)]) dX9_reasons_90 rfl (by decide) (by decide) (fun _ => rfl) h (fun v8 h => ?_)
  refine q_goto C 59 dX9_reasons_93 (by decide) ?_
  refine WG.sub [1, 2, 3, 4, 0] rfl ?_
  exact hrec_59 _ _ _ h
def L_X9_reasons_59 (a0 : Option Nat) (a1 : Int32) (a2 : Int32) (k_59_96 : Int32 → OO Int32) : Nat → Int32 → Int32 → OO Int32
  | 0, _, _ => failO
  | n + 1, x3, x4 =>
    (if x4 < 0 then
    k_59_96 x3
    else
    rcv a0 12 fun r12 => call (f_X9_barsAll r12 x4 a1 a2) (fun (v7 : Int32) =>
    (if v7 = 0 then
    j_X9_reasons_90 a0 a1 a2 x3 x4 (L_X9_reasons_59 a0 a1 a2 k_59_96 n)
    else
    call (f_X9_manyBits x4) (fun (v9 : Int32) =>
    call (f_X9_manyBits x3) (fun (v10 : Int32) =>
    (if v10 < v9 then
    j_X9_reasons_90 a0 a1 a2 x3 x4 (L_X9_reasons_59 a0 a1 a2 k_59_96 n)
    else
    lets x4 fun (v11 : Int32) =>
    j_X9_reasons_90 a0 a1 a2 v11 x4 (L_X9_reasons_59 a0 a1 a2 k_59_96 n))) nox) nox)) nox)
set_option maxRecDepth 100000 in
set_option maxHeartbeats 4000000 in
theorem w_L_X9_reasons_59 (C : Cx G l p s m args c RX9 cX9_reasons 5) (C2 : Cy meth c (some .int)) (a0 : Option Nat) (a1 : Int32) (a2 : Int32) (k_59_96 : Int32 → OO Int32) (hk_59_96 : ∀ (y3 : Int32) hs, k_59_96 y3 hs = some (o, hs') → WG G p l e { frames := 6, cells := 0, slots := 0, locals := 142 } s m args below meth c 5 0 0 (vx_MQ below (QcT G o hs' tvI) (XCT G o hs') args s 0 0 (gA G)) hs [(3, .int y3)] [] 96) : ∀ (n : Nat) (x3 : Int32) (x4 : Int32) (hs : Hs), L_X9_reasons_59 a0 a1 a2 k_59_96 n x3 x4 hs = some (o, hs') → WG G p l e { frames := 6, cells := 0, slots := 0, locals := 142 } s m args below meth c 5 0 0 (vx_MQ below (QcT G o hs' tvI) (XCT G o hs') args s 0 0 (gA G)) hs [(0, va_rf a0), (1, .int a1), (2, .int a2), (3, .int x3), (4, .int x4)] [] 59 := by
  intro n
  induction n with
  | zero =>
    intro x3 x4 hs h
    rw [L_X9_reasons_59] at h
    exact absurd h failO_e
  | succ n hrec_59 =>
    intro x3 x4 hs h
    rw [L_X9_reasons_59] at h
    refine q_iload C 4 dX9_reasons_59 rfl ?_
    refine q_if_lt C 96 dX9_reasons_61 (by decide) h (fun h => ?_) (fun h => ?_)
    · refine WG.sub [3] rfl ?_
      exact hk_59_96 _ _ h
    · refine q_aload_n C 0 dX9_reasons_64 rfl ?_
      refine q_iload C 4 dX9_reasons_65 rfl ?_
      refine q_iload_n C 1 dX9_reasons_67 rfl ?_
      refine q_iload_n C 2 dX9_reasons_68 rfl ?_
      refine q_callV C (CN := RX9) (T := TX9) (N := 28) [.int x4, .int a1, .int a2] [] (fun a0 o2 hs1 hm => m_X9_barsAll hm) lk_X9_165 im_X9_barsAll se_X9_X9_barsAll rfl ⟨(Nat.le_of_ble_eq_true rfl), (Nat.le_of_ble_eq_true rfl)⟩ ⟨(Nat.le_of_ble_eq_true rfl), (Nat.le_of_ble_eq_true rfl)⟩ rfl rfl (by decide) dX9_reasons_69 h (fun v7 hs h => WG_st (st' := [.int v7]) rfl ?_)
      refine q_if_eq C 90 dX9_reasons_72 (by decide) h (fun h => ?_) (fun h => ?_)
      · exact w_j_X9_reasons_90 C C2 _ _ _ _ _ _ hrec_59 h
      · refine q_iload C 4 dX9_reasons_75 rfl ?_
        refine q_callS C [.int x4] [] (fun o2 hs1 hm => m_X9_manyBits hm) lk_X9_168 sm_X9_manyBits ⟨(Nat.le_of_ble_eq_true rfl), (Nat.le_of_ble_eq_true rfl)⟩ ⟨(Nat.le_of_ble_eq_true rfl), (Nat.le_of_ble_eq_true rfl)⟩ rfl rfl (by decide) dX9_reasons_77 h (fun v9 hs h => WG_st (st' := [.int v9]) rfl ?_)
        refine q_iload_n C 3 dX9_reasons_80 rfl ?_
        refine q_callS C [.int x3] [.int v9] (fun o2 hs1 hm => m_X9_manyBits hm) lk_X9_168 sm_X9_manyBits ⟨(Nat.le_of_ble_eq_true rfl), (Nat.le_of_ble_eq_true rfl)⟩ ⟨(Nat.le_of_ble_eq_true rfl), (Nat.le_of_ble_eq_true rfl)⟩ rfl rfl (by simp only [List.map, cat_rf, cat_i, cat_a]; decide) dX9_reasons_81 h (fun v10 hs h => WG_st (st' := [.int v10, .int v9]) rfl ?_)
        refine q_icmp_gt C 90 dX9_reasons_84 (by decide) h (fun h => ?_) (fun h => ?_)
        · exact w_j_X9_reasons_90 C C2 _ _ _ _ _ _ hrec_59 h
        · refine q_iload C 4 dX9_reasons_87 rfl ?_
          refine q_istore_n C (fun v11 => [(3, .int v11), (0, va_rf a0), (1, .int a1), (2, .int a2), (4, .int x4)]) dX9_reasons_89 (by decide) (fun _ => rfl) h (fun v11 h => ?_)
          refine WG.sub [1, 2, 3, 0, 4] rfl ?_
          exact w_j_X9_reasons_90 C C2 _ _ _ _ _ _ hrec_59 h
def j_X9_reasons_38 (a0 : Option Nat) (a1 : Int32) (a2 : Int32) (s0 : Int32) (s1 : Option Nat)  : OO Int32 :=
  pI s1 12 20 s0 (
    gI a0 12 20 fun v4 =>
    (if v4 ≤ 0 then
    lets (1023 : Int32) fun (v5 : Int32) =>
    lets (1022 : Int32) fun (v6 : Int32) =>
    L_X9_reasons_59 a0 a1 a2 (fun (v13 : Int32) => rtn v13) 100000 v5 v6
    else
    rtn (0 : Int32)))
set_option maxRecDepth 100000 in
set_option maxHeartbeats 4000000 in
theorem w_j_X9_reasons_38 (C : Cx G l p s m args c RX9 cX9_reasons 5) (C2 : Cy meth c (some .int)) {hs : Hs} (a0 : Option Nat) (a1 : Int32) (a2 : Int32) (s0 : Int32) (s1 : Option Nat)   (h : j_X9_reasons_38 a0 a1 a2 s0 s1 hs = some (o, hs')) : WG G p l e { frames := 6, cells := 0, slots := 0, locals := 142 } s m args below meth c 5 0 0 (vx_MQ below (QcT G o hs' tvI) (XCT G o hs') args s 0 0 (gA G)) hs [(0, va_rf a0), (1, .int a1), (2, .int a2)] [.int s0, va_rf s1] 38 := by
  unfold j_X9_reasons_38 at h
  refine q_pI C fw_X9_71 (fun z => nomatch z) dX9_reasons_38 h (fun hs h => ?_)
  refine q_aload_n C 0 dX9_reasons_41 rfl ?_
  refine q_gI C fl_X9_71 dX9_reasons_42 h (fun v4 h => ?_)
  refine q_if_le C 50 dX9_reasons_45 (by decide) h (fun h => ?_) (fun h => ?_)
  · refine q_sipush C (1023 : Int32) dX9_reasons_50 (by decide) ?_
    refine q_istore_n C (fun v5 => [(3, .int v5), (0, va_rf a0), (1, .int a1), (2, .int a2)]) dX9_reasons_53 (by decide) (fun _ => rfl) h (fun v5 h => ?_)
    refine q_sipush C (1022 : Int32) dX9_reasons_54 (by decide) ?_
    refine q_istore C (fun v6 => [(4, .int v6), (3, .int v5), (0, va_rf a0), (1, .int a1), (2, .int a2)]) dX9_reasons_57 (by decide) (fun _ => rfl) h (fun v6 h => ?_)
    refine WG.sub [2, 3, 4, 1, 0] rfl ?_
    refine w_L_X9_reasons_59 C C2 _ _ _ _ ?_ _ _ _ _ h
    · intro v13 hs h
      refine q_iload_n C 0 dX9_reasons_96 rfl ?_
      exact q_iret C C2 rfl (Nat.le_of_ble_eq_true rfl) (Nat.le_of_ble_eq_true rfl) dX9_reasons_97 h
  · refine q_iconst C (0 : Int32) dX9_reasons_48 (by decide) ?_
    exact q_iret C C2 rfl (Nat.le_of_ble_eq_true rfl) (Nat.le_of_ble_eq_true rfl) dX9_reasons_49 h
end M_X9_reasons
def f_X9_reasons (a0 : Nat) (p1 : Int32) (p2 : Int32) : OO Int32 :=
    rcv (some a0) 12 fun r15 => call (f_X9_isLesson r15 p1) (fun (v1 : Int32) =>
    (if ¬ v1 = 0 then
    call (f_X9_isSlot p2) (fun (v2 : Int32) =>
    (if ¬ v2 = 0 then
    rcv (some a0) 12 fun r14 => call (f_X9_isOpenAt r14 p1 p2) (fun (v3 : Int32) =>
    (if v3 = 0 then
    j_X9_reasons_38 (some a0) p1 p2 (0 : Int32) (some a0)
    else
    j_X9_reasons_38 (some a0) p1 p2 (3 : Int32) (some a0))) nox
    else
    j_X9_reasons_38 (some a0) p1 p2 (2 : Int32) (some a0))) nox
    else
    j_X9_reasons_38 (some a0) p1 p2 (1 : Int32) (some a0))) nox
set_option maxRecDepth 100000 in
set_option maxHeartbeats 4000000 in
theorem m_X9_reasons {G : GG} {l : Launch} {a0 : Nat} {p1 : Int32} {p2 : Int32} {hs hs' : Hs} {o : Except Nat Int32} (h : f_X9_reasons a0 p1 p2 hs = some (o, hs')) : CT G l yX9_reasons cX9_reasons 5 (some .int) 6 142 0 0 [.ref a0, .int p1, .int p2] hs o hs' tvI := by
  refine vx_ofW (cc := cX9_reasons) (maxL := 5) (ret := (some .int)) (by decide +kernel) rfl ?_
  intro p e s m args below meth c s₁ B hml hxt hv
  obtain ⟨hav, hR, hKn⟩ := hv
  subst hav
  have hts := atoms_spec (ws := .code yX9_reasons cX9_reasons 5 (some .int) :: Tg) B.pre
  have C : Cx G l p s m _ c RX9 cX9_reasons 5 := ⟨B.exec, B.bytes, hml, findClass_of_methodNamed B.named, fun w hw => hts w (List.mem_cons_of_mem _ hw), hKn, fun q hq => Nat.le_trans hR.2.2.1 hq⟩
  have C2 : Cy meth c (some .int) := ⟨B.returns, B.notSynchronized, hxt⟩
  have key : WG G p l e { frames := 6, cells := 0, slots := 0, locals := 142 } s m ([.ref a0, .int p1, .int p2] : List Value).toArray below meth c 5 0 0 (vx_MQ below (QcT G o hs' tvI) (XCT G o hs') ([.ref a0, .int p1, .int p2] : List Value).toArray s 0 0 (gA G)) hs [(0, va_rf (some a0)), (1, .int p1), (2, .int p2)] [] 0 := by
    unfold f_X9_reasons at h
    refine q_aload_n C 0 dX9_reasons_0 rfl ?_
    refine q_aload_n C 0 dX9_reasons_1 rfl ?_
    refine q_iload_n C 1 dX9_reasons_2 rfl ?_
    refine q_callV C (CN := RX9) (T := TX9) (N := 28) [.int p1] [va_rf (some a0)] (fun a0 o2 hs1 hm => m_X9_isLesson hm) lk_X9_148 im_X9_isLesson se_X9_X9_isLesson rfl ⟨(Nat.le_of_ble_eq_true rfl), (Nat.le_of_ble_eq_true rfl)⟩ ⟨(Nat.le_of_ble_eq_true rfl), (Nat.le_of_ble_eq_true rfl)⟩ rfl rfl (by simp only [List.map, cat_rf, cat_i, cat_a]; decide) dX9_reasons_3 h (fun v1 hs h => WG_st (st' := [.int v1, va_rf (some a0)]) rfl ?_)
    refine q_if_ne C 13 dX9_reasons_6 (by decide) h (fun h => ?_) (fun h => ?_)
    · refine q_iload_n C 2 dX9_reasons_13 rfl ?_
      refine q_callS C [.int p2] [va_rf (some a0)] (fun o2 hs1 hm => m_X9_isSlot hm) lk_X9_107 sm_X9_isSlot ⟨(Nat.le_of_ble_eq_true rfl), (Nat.le_of_ble_eq_true rfl)⟩ ⟨(Nat.le_of_ble_eq_true rfl), (Nat.le_of_ble_eq_true rfl)⟩ rfl rfl (by simp only [List.map, cat_rf, cat_i, cat_a]; decide) dX9_reasons_14 h (fun v2 hs h => WG_st (st' := [.int v2, va_rf (some a0)]) rfl ?_)
      refine q_if_ne C 24 dX9_reasons_17 (by decide) h (fun h => ?_) (fun h => ?_)
      · refine q_aload_n C 0 dX9_reasons_24 rfl ?_
        refine q_iload_n C 1 dX9_reasons_25 rfl ?_
        refine q_iload_n C 2 dX9_reasons_26 rfl ?_
        refine q_callV C (CN := RX9) (T := TX9) (N := 28) [.int p1, .int p2] [va_rf (some a0)] (fun a0 o2 hs1 hm => m_X9_isOpenAt hm) lk_X9_161 im_X9_isOpenAt se_X9_X9_isOpenAt rfl ⟨(Nat.le_of_ble_eq_true rfl), (Nat.le_of_ble_eq_true rfl)⟩ ⟨(Nat.le_of_ble_eq_true rfl), (Nat.le_of_ble_eq_true rfl)⟩ rfl rfl (by simp only [List.map, cat_rf, cat_i, cat_a]; decide) dX9_reasons_27 h (fun v3 hs h => WG_st (st' := [.int v3, va_rf (some a0)]) rfl ?_)
        refine q_if_eq C 37 dX9_reasons_30 (by decide) h (fun h => ?_) (fun h => ?_)
        · refine q_iconst C (0 : Int32) dX9_reasons_37 (by decide) ?_
          exact w_j_X9_reasons_38 C C2 _ _ _ _ _   h
        · refine q_iconst C (3 : Int32) dX9_reasons_33 (by decide) ?_
          refine q_goto C 38 dX9_reasons_34 (by decide) ?_
          exact w_j_X9_reasons_38 C C2 _ _ _ _ _   h
      · refine q_iconst C (2 : Int32) dX9_reasons_20 (by decide) ?_
        refine q_goto C 38 dX9_reasons_21 (by decide) ?_
        exact w_j_X9_reasons_38 C C2 _ _ _ _ _   h
    · refine q_iconst C (1 : Int32) dX9_reasons_9 (by decide) ?_
      refine q_goto C 38 dX9_reasons_10 (by decide) ?_
      exact w_j_X9_reasons_38 C C2 _ _ _ _ _   h
  rw [lg_entry_eq]
  exact key _ _ _ hR va_S.rf ⟨lv_entry _ (n := 5) (Nat.le_of_ble_eq_true rfl), (c1_r (c1_i (c1_i c1_n)))⟩

theorem cd_X9_hasAt : Cond.code yX9_hasAt cX9_hasAt 3 (some .boolean) ∈ Tg := Tg_of (i := 1721) (by decide +kernel) (by decide +kernel)
section M_X9_hasAt
variable {p : Program} {l : Launch} {e : Env} {s : State} {m : MethodId} {args : Array Value} {below : List Frame} {meth : Method} {c : Code} {G : GG} {o : Except Nat Int32} {hs' : Hs}
end M_X9_hasAt
def f_X9_hasAt (a0 : Nat) (p1 : Int32) (p2 : Int32) : OO Int32 :=
    rcv (some a0) 12 fun r7 => call (f_X9_isPlaced r7 p1) (fun (v1 : Int32) =>
    (if v1 = 0 then
    retZ (0 : Int32)
    else
    rcv (some a0) 12 fun r6 => call (f_X9_slotOf r6 p1) (fun (v2 : Int32) =>
    rcv (some a0) 12 fun r5 => call (f_X9_endOf r5 p1) (fun (v3 : Int32) =>
    call (f_X9_in p2 v2 (v3 - (1 : Int32))) (fun (v4 : Int32) =>
    (if v4 = 0 then
    retZ (0 : Int32)
    else
    retZ (1 : Int32))) nox) nox) nox)) nox
set_option maxRecDepth 100000 in
set_option maxHeartbeats 4000000 in
theorem m_X9_hasAt {G : GG} {l : Launch} {a0 : Nat} {p1 : Int32} {p2 : Int32} {hs hs' : Hs} {o : Except Nat Int32} (h : f_X9_hasAt a0 p1 p2 hs = some (o, hs')) : CT G l yX9_hasAt cX9_hasAt 3 (some .boolean) 2 42 0 0 [.ref a0, .int p1, .int p2] hs o hs' tvI := by
  refine vx_ofW (cc := cX9_hasAt) (maxL := 3) (ret := (some .boolean)) (by decide +kernel) rfl ?_
  intro p e s m args below meth c s₁ B hml hxt hv
  obtain ⟨hav, hR, hKn⟩ := hv
  subst hav
  have hts := atoms_spec (ws := .code yX9_hasAt cX9_hasAt 3 (some .boolean) :: Tg) B.pre
  have C : Cx G l p s m _ c RX9 cX9_hasAt 3 := ⟨B.exec, B.bytes, hml, findClass_of_methodNamed B.named, fun w hw => hts w (List.mem_cons_of_mem _ hw), hKn, fun q hq => Nat.le_trans hR.2.2.1 hq⟩
  have C2 : Cy meth c (some .boolean) := ⟨B.returns, B.notSynchronized, hxt⟩
  have key : WG G p l e { frames := 2, cells := 0, slots := 0, locals := 42 } s m ([.ref a0, .int p1, .int p2] : List Value).toArray below meth c 3 0 0 (vx_MQ below (QcT G o hs' tvI) (XCT G o hs') ([.ref a0, .int p1, .int p2] : List Value).toArray s 0 0 (gA G)) hs [(0, va_rf (some a0)), (1, .int p1), (2, .int p2)] [] 0 := by
    unfold f_X9_hasAt at h
    refine q_aload_n C 0 dX9_hasAt_0 rfl ?_
    refine q_iload_n C 1 dX9_hasAt_1 rfl ?_
    refine q_callV C (CN := RX9) (T := TX9) (N := 28) [.int p1] [] (fun a0 o2 hs1 hm => m_X9_isPlaced hm) lk_X9_118 im_X9_isPlaced se_X9_X9_isPlaced rfl ⟨(Nat.le_of_ble_eq_true rfl), (Nat.le_of_ble_eq_true rfl)⟩ ⟨(Nat.le_of_ble_eq_true rfl), (Nat.le_of_ble_eq_true rfl)⟩ rfl rfl (by decide) dX9_hasAt_2 h (fun v1 hs h => WG_st (st' := [.int v1]) rfl ?_)
    refine q_if_eq C 31 dX9_hasAt_5 (by decide) h (fun h => ?_) (fun h => ?_)
    · refine q_iconst C (0 : Int32) dX9_hasAt_31 (by decide) ?_
      exact q_zret C C2 rfl (Nat.le_of_ble_eq_true rfl) (Nat.le_of_ble_eq_true rfl) dX9_hasAt_32 h
    · refine q_iload_n C 2 dX9_hasAt_8 rfl ?_
      refine q_aload_n C 0 dX9_hasAt_9 rfl ?_
      refine q_iload_n C 1 dX9_hasAt_10 rfl ?_
      refine q_callV C (CN := RX9) (T := TX9) (N := 28) [.int p1] [.int p2] (fun a0 o2 hs1 hm => m_X9_slotOf hm) lk_X9_114 im_X9_slotOf se_X9_X9_slotOf rfl ⟨(Nat.le_of_ble_eq_true rfl), (Nat.le_of_ble_eq_true rfl)⟩ ⟨(Nat.le_of_ble_eq_true rfl), (Nat.le_of_ble_eq_true rfl)⟩ rfl rfl (by simp only [List.map, cat_rf, cat_i, cat_a]; decide) dX9_hasAt_11 h (fun v2 hs h => WG_st (st' := [.int v2, .int p2]) rfl ?_)
      refine q_aload_n C 0 dX9_hasAt_14 rfl ?_
      refine q_iload_n C 1 dX9_hasAt_15 rfl ?_
      refine q_callV C (CN := RX9) (T := TX9) (N := 28) [.int p1] [.int v2, .int p2] (fun a0 o2 hs1 hm => m_X9_endOf hm) lk_X9_121 im_X9_endOf se_X9_X9_endOf rfl ⟨(Nat.le_of_ble_eq_true rfl), (Nat.le_of_ble_eq_true rfl)⟩ ⟨(Nat.le_of_ble_eq_true rfl), (Nat.le_of_ble_eq_true rfl)⟩ rfl rfl (by simp only [List.map, cat_rf, cat_i, cat_a]; decide) dX9_hasAt_16 h (fun v3 hs h => WG_st (st' := [.int v3, .int v2, .int p2]) rfl ?_)
      refine q_iconst C (1 : Int32) dX9_hasAt_19 (by decide) ?_
      refine q_isub C dX9_hasAt_20 ?_
      refine q_callS C [.int p2, .int v2, .int (v3 - (1 : Int32))] [] (fun o2 hs1 hm => m_X9_in hm) lk_X9_96 sm_X9_in ⟨(Nat.le_of_ble_eq_true rfl), (Nat.le_of_ble_eq_true rfl)⟩ ⟨(Nat.le_of_ble_eq_true rfl), (Nat.le_of_ble_eq_true rfl)⟩ rfl rfl (by decide) dX9_hasAt_21 h (fun v4 hs h => WG_st (st' := [.int v4]) rfl ?_)
      refine q_if_eq C 31 dX9_hasAt_24 (by decide) h (fun h => ?_) (fun h => ?_)
      · refine q_iconst C (0 : Int32) dX9_hasAt_31 (by decide) ?_
        exact q_zret C C2 rfl (Nat.le_of_ble_eq_true rfl) (Nat.le_of_ble_eq_true rfl) dX9_hasAt_32 h
      · refine q_iconst C (1 : Int32) dX9_hasAt_27 (by decide) ?_
        refine q_goto C 32 dX9_hasAt_28 (by decide) ?_
        exact q_zret C C2 rfl (Nat.le_of_ble_eq_true rfl) (Nat.le_of_ble_eq_true rfl) dX9_hasAt_32 h
  rw [lg_entry_eq]
  exact key _ _ _ hR va_S.rf ⟨lv_entry _ (n := 3) (Nat.le_of_ble_eq_true rfl), (c1_r (c1_i (c1_i c1_n)))⟩

theorem cd_X9_isBusy : Cond.code yX9_isBusy cX9_isBusy 4 (some .boolean) ∈ Tg := Tg_of (i := 1717) (by decide +kernel) (by decide +kernel)
theorem ml_X9_171 : Cond.methodLink RX9 171 yX9_hasAt ∈ Tg := Tg_of (i := 1718) (by decide +kernel) (by decide +kernel)
theorem lk_X9_171 : Lk RX9 171 yX9_hasAt cX9_hasAt 3 (some .boolean) 2 := ⟨ml_X9_171, cd_X9_hasAt, iw_X9, by decide +kernel⟩
theorem im_X9_hasAt : Cond.instanceMethod yX9_hasAt ∈ Tg := Tg_of (i := 1720) (by decide +kernel) (by decide +kernel)
theorem se_X9_X9_hasAt : Cond.selects RX9 yX9_hasAt yX9_hasAt ∈ Tg := Tg_of (i := 58) (by decide +kernel) (by decide +kernel)
section M_X9_isBusy
variable {p : Program} {l : Launch} {e : Env} {s : State} {m : MethodId} {args : Array Value} {below : List Frame} {meth : Method} {c : Code} {G : GG} {o : Except Nat Int32} {hs' : Hs}
def j_X9_isBusy_31 (a0 : Option Nat) (a1 : Int32) (a2 : Int32) (a3 : Int32)  (rec_2 : Int32 → OO Int32) : OO Int32 :=
  lets (a3 + (1 : Int32)) fun (v5 : Int32) =>
    rec_2 v5
set_option maxRecDepth 100000 in
set_option maxHeartbeats 4000000 in
theorem w_j_X9_isBusy_31 (C : Cx G l p s m args c RX9 cX9_isBusy 4) (C2 : Cy meth c (some .boolean)) {hs : Hs} (a0 : Option Nat) (a1 : Int32) (a2 : Int32) (a3 : Int32)  (rec_2 : Int32 → OO Int32) (hrec_2 : ∀ (y3 : Int32) hs, rec_2 y3 hs = some (o, hs') → WG G p l e { frames := 3, cells := 0, slots := 0, locals := 64 } s m args below meth c 4 0 0 (vx_MQ below (QcT G o hs' tvI) (XCT G o hs') args s 0 0 (gA G)) hs [(0, va_rf a0), (1, .int a1), (2, .int a2), (3, .int y3)] [] 2) (h : j_X9_isBusy_31 a0 a1 a2 a3 rec_2 hs = some (o, hs')) : WG G p l e { frames := 3, cells := 0, slots := 0, locals := 64 } s m args below meth c 4 0 0 (vx_MQ below (QcT G o hs' tvI) (XCT G o hs') args s 0 0 (gA G)) hs [(0, va_rf a0), (1, .int a1), (2, .int a2), (3, .int a3)] [] 31 := by
  unfold j_X9_isBusy_31 at h
  refine q_iinc C 3 (1 : Int32) (fun v5 => [(3, .int v5), (0, va_rf a0), (1, .int a1), (2, .int a2)]) dX9_isBusy_31 rfl (by decide) (by decide) (fun _ => rfl) h (fun v5 h => ?_)
  refine q_goto C 2 dX9_isBusy_34 (by decide) ?_
  refine WG.sub [1, 2, 3, 0] rfl ?_
  exact hrec_2 _ _ h
def L_X9_isBusy_2 (a0 : Option Nat) (a1 : Int32) (a2 : Int32) (k_2_29 : OO Int32) (k_2_37 : OO Int32) : Nat → Int32 → OO Int32
  | 0, _ => failO
  | n + 1, x3 =>
    gI a0 12 24 fun v2 =>
    (if v2 ≤ x3 then
    k_2_37
    else
    gR a0 12 9 fun v3 =>
    ldI 0 v3 x3 fun v4 =>
    (if ¬ v4 = a1 then
    j_X9_isBusy_31 a0 a1 a2 x3 (L_X9_isBusy_2 a0 a1 a2 k_2_29 k_2_37 n)
    else
    rcv a0 12 fun r7 => call (f_X9_hasAt r7 x3 a2) (fun (v6 : Int32) =>
    (if v6 = 0 then
    j_X9_isBusy_31 a0 a1 a2 x3 (L_X9_isBusy_2 a0 a1 a2 k_2_29 k_2_37 n)
    else
    k_2_29)) nox))
set_option maxRecDepth 100000 in
set_option maxHeartbeats 4000000 in
theorem w_L_X9_isBusy_2 (C : Cx G l p s m args c RX9 cX9_isBusy 4) (C2 : Cy meth c (some .boolean)) (a0 : Option Nat) (a1 : Int32) (a2 : Int32) (k_2_29 : OO Int32) (k_2_37 : OO Int32) (hk_2_29 : ∀ hs, k_2_29  hs = some (o, hs') → WG G p l e { frames := 3, cells := 0, slots := 0, locals := 64 } s m args below meth c 4 0 0 (vx_MQ below (QcT G o hs' tvI) (XCT G o hs') args s 0 0 (gA G)) hs [] [] 29) (hk_2_37 : ∀ hs, k_2_37  hs = some (o, hs') → WG G p l e { frames := 3, cells := 0, slots := 0, locals := 64 } s m args below meth c 4 0 0 (vx_MQ below (QcT G o hs' tvI) (XCT G o hs') args s 0 0 (gA G)) hs [] [] 37) : ∀ (n : Nat) (x3 : Int32) (hs : Hs), L_X9_isBusy_2 a0 a1 a2 k_2_29 k_2_37 n x3 hs = some (o, hs') → WG G p l e { frames := 3, cells := 0, slots := 0, locals := 64 } s m args below meth c 4 0 0 (vx_MQ below (QcT G o hs' tvI) (XCT G o hs') args s 0 0 (gA G)) hs [(0, va_rf a0), (1, .int a1), (2, .int a2), (3, .int x3)] [] 2 := by
  intro n
  induction n with
  | zero =>
    intro x3 hs h
    rw [L_X9_isBusy_2] at h
    exact absurd h failO_e
  | succ n hrec_2 =>
    intro x3 hs h
    rw [L_X9_isBusy_2] at h
    refine q_iload_n C 3 dX9_isBusy_2 rfl ?_
    refine q_aload_n C 0 dX9_isBusy_3 rfl ?_
    refine q_gI C fl_X9_84 dX9_isBusy_4 h (fun v2 h => ?_)
    refine q_icmp_ge C 37 dX9_isBusy_7 (by decide) h (fun h => ?_) (fun h => ?_)
    · refine WG.sub [] rfl ?_
      exact hk_2_37 _ h
    · refine q_aload_n C 0 dX9_isBusy_10 rfl ?_
      refine q_gR C fl_X9_38 dX9_isBusy_11 h (fun v3 h => ?_)
      refine q_iload_n C 3 dX9_isBusy_14 rfl ?_
      refine q_iald C dX9_isBusy_15 h (fun v4 h => ?_)
      refine q_iload_n C 1 dX9_isBusy_16 rfl ?_
      refine q_icmp_ne C 31 dX9_isBusy_17 (by decide) h (fun h => ?_) (fun h => ?_)
      · exact w_j_X9_isBusy_31 C C2 _ _ _ _ _ hrec_2 h
      · refine q_aload_n C 0 dX9_isBusy_20 rfl ?_
        refine q_iload_n C 3 dX9_isBusy_21 rfl ?_
        refine q_iload_n C 2 dX9_isBusy_22 rfl ?_
        refine q_callV C (CN := RX9) (T := TX9) (N := 28) [.int x3, .int a2] [] (fun a0 o2 hs1 hm => m_X9_hasAt hm) lk_X9_171 im_X9_hasAt se_X9_X9_hasAt rfl ⟨(Nat.le_of_ble_eq_true rfl), (Nat.le_of_ble_eq_true rfl)⟩ ⟨(Nat.le_of_ble_eq_true rfl), (Nat.le_of_ble_eq_true rfl)⟩ rfl rfl (by decide) dX9_isBusy_23 h (fun v6 hs h => WG_st (st' := [.int v6]) rfl ?_)
        refine q_if_eq C 31 dX9_isBusy_26 (by decide) h (fun h => ?_) (fun h => ?_)
        · exact w_j_X9_isBusy_31 C C2 _ _ _ _ _ hrec_2 h
        · refine WG.sub [] rfl ?_
          exact hk_2_29 _ h
end M_X9_isBusy
def f_X9_isBusy (a0 : Nat) (p1 : Int32) (p2 : Int32) : OO Int32 :=
    lets (0 : Int32) fun (v1 : Int32) =>
    L_X9_isBusy_2 (some a0) p1 p2 (retZ (1 : Int32)) (retZ (0 : Int32)) 100000 v1
set_option maxRecDepth 100000 in
set_option maxHeartbeats 4000000 in
theorem m_X9_isBusy {G : GG} {l : Launch} {a0 : Nat} {p1 : Int32} {p2 : Int32} {hs hs' : Hs} {o : Except Nat Int32} (h : f_X9_isBusy a0 p1 p2 hs = some (o, hs')) : CT G l yX9_isBusy cX9_isBusy 4 (some .boolean) 3 64 0 0 [.ref a0, .int p1, .int p2] hs o hs' tvI := by
  refine vx_ofW (cc := cX9_isBusy) (maxL := 4) (ret := (some .boolean)) (by decide +kernel) rfl ?_
  intro p e s m args below meth c s₁ B hml hxt hv
  obtain ⟨hav, hR, hKn⟩ := hv
  subst hav
  have hts := atoms_spec (ws := .code yX9_isBusy cX9_isBusy 4 (some .boolean) :: Tg) B.pre
  have C : Cx G l p s m _ c RX9 cX9_isBusy 4 := ⟨B.exec, B.bytes, hml, findClass_of_methodNamed B.named, fun w hw => hts w (List.mem_cons_of_mem _ hw), hKn, fun q hq => Nat.le_trans hR.2.2.1 hq⟩
  have C2 : Cy meth c (some .boolean) := ⟨B.returns, B.notSynchronized, hxt⟩
  have key : WG G p l e { frames := 3, cells := 0, slots := 0, locals := 64 } s m ([.ref a0, .int p1, .int p2] : List Value).toArray below meth c 4 0 0 (vx_MQ below (QcT G o hs' tvI) (XCT G o hs') ([.ref a0, .int p1, .int p2] : List Value).toArray s 0 0 (gA G)) hs [(0, va_rf (some a0)), (1, .int p1), (2, .int p2)] [] 0 := by
    unfold f_X9_isBusy at h
    refine q_iconst C (0 : Int32) dX9_isBusy_0 (by decide) ?_
    refine q_istore_n C (fun v1 => [(3, .int v1), (0, va_rf (some a0)), (1, .int p1), (2, .int p2)]) dX9_isBusy_1 (by decide) (fun _ => rfl) h (fun v1 h => ?_)
    refine WG.sub [1, 2, 3, 0] rfl ?_
    refine w_L_X9_isBusy_2 C C2 _ _ _ _ _ ?_ ?_ _ _ _ h
    · intro  hs h
      refine q_iconst C (1 : Int32) dX9_isBusy_29 (by decide) ?_
      exact q_zret C C2 rfl (Nat.le_of_ble_eq_true rfl) (Nat.le_of_ble_eq_true rfl) dX9_isBusy_30 h
    · intro  hs h
      refine q_iconst C (0 : Int32) dX9_isBusy_37 (by decide) ?_
      exact q_zret C C2 rfl (Nat.le_of_ble_eq_true rfl) (Nat.le_of_ble_eq_true rfl) dX9_isBusy_38 h
  rw [lg_entry_eq]
  exact key _ _ _ hR va_S.rf ⟨lv_entry _ (n := 4) (Nat.le_of_ble_eq_true rfl), (c1_r (c1_i (c1_i c1_n)))⟩

theorem cd_X9_gapsOn : Cond.code yX9_gapsOn cX9_gapsOn 6 (some .int) ∈ Tg := Tg_of (i := 1713) (by decide +kernel) (by decide +kernel)
theorem ml_X9_174 : Cond.methodLink RX9 174 yX9_isBusy ∈ Tg := Tg_of (i := 1714) (by decide +kernel) (by decide +kernel)
theorem lk_X9_174 : Lk RX9 174 yX9_isBusy cX9_isBusy 4 (some .boolean) 2 := ⟨ml_X9_174, cd_X9_isBusy, iw_X9, by decide +kernel⟩
theorem im_X9_isBusy : Cond.instanceMethod yX9_isBusy ∈ Tg := Tg_of (i := 1716) (by decide +kernel) (by decide +kernel)
theorem se_X9_X9_isBusy : Cond.selects RX9 yX9_isBusy yX9_isBusy ∈ Tg := Tg_of (i := 57) (by decide +kernel) (by decide +kernel)
section M_X9_gapsOn
variable {p : Program} {l : Launch} {e : Env} {s : State} {m : MethodId} {args : Array Value} {below : List Frame} {meth : Method} {c : Code} {G : GG} {o : Except Nat Int32} {hs' : Hs}
def j_X9_gapsOn_61 (a0 : Option Nat) (a1 : Int32) (a2 : Int32) (a3 : Int32) (a4 : Int32) (a5 : Int32)  (rec_11 : Int32 → Int32 → Int32 → OO Int32) : OO Int32 :=
  lets (a5 + (1 : Int32)) fun (v5 : Int32) =>
    rec_11 a3 a4 v5
set_option maxRecDepth 100000 in
set_option maxHeartbeats 4000000 in
theorem w_j_X9_gapsOn_61 (C : Cx G l p s m args c RX9 cX9_gapsOn 6) (C2 : Cy meth c (some .int)) {hs : Hs} (a0 : Option Nat) (a1 : Int32) (a2 : Int32) (a3 : Int32) (a4 : Int32) (a5 : Int32)  (rec_11 : Int32 → Int32 → Int32 → OO Int32) (hrec_11 : ∀ (y3 : Int32) (y4 : Int32) (y5 : Int32) hs, rec_11 y3 y4 y5 hs = some (o, hs') → WG G p l e { frames := 4, cells := 0, slots := 0, locals := 87 } s m args below meth c 6 0 0 (vx_MQ below (QcT G o hs' tvI) (XCT G o hs') args s 0 0 (gA G)) hs [(0, va_rf a0), (1, .int a1), (2, .int a2), (3, .int y3), (4, .int y4), (5, .int y5)] [] 11) (h : j_X9_gapsOn_61 a0 a1 a2 a3 a4 a5 rec_11 hs = some (o, hs')) : WG G p l e { frames := 4, cells := 0, slots := 0, locals := 87 } s m args below meth c 6 0 0 (vx_MQ below (QcT G o hs' tvI) (XCT G o hs') args s 0 0 (gA G)) hs [(0, va_rf a0), (1, .int a1), (2, .int a2), (3, .int a3), (4, .int a4), (5, .int a5)] [] 61 := by
  unfold j_X9_gapsOn_61 at h
  refine q_iinc C 5 (1 : Int32) (fun v5 => [(5, .int v5), (0, va_rf a0), (1, .int a1), (2, .int a2), (3, .int a3), (4, .int a4)]) dX9_gapsOn_61 rfl (by decide) (by decide) (fun _ => rfl) h (fun v5 h => ?_)
  refine q_goto C 11 dX9_gapsOn_64 (by decide) ?_
  refine WG.sub [1, 2, 3, 4, 5, 0] rfl ?_
  exact hrec_11 _ _ _ _ h
def j_X9_gapsOn_45 (a0 : Option Nat) (a1 : Int32) (a2 : Int32) (a5 : Int32) (s0 : Int32) (s1 : Int32) (rec_11 : Int32 → Int32 → Int32 → OO Int32) : OO Int32 :=
  lets (s1 + s0) fun (v7 : Int32) =>
    lets (0 : Int32) fun (v8 : Int32) =>
    j_X9_gapsOn_61 a0 a1 a2 v7 v8 a5 rec_11
set_option maxRecDepth 100000 in
set_option maxHeartbeats 4000000 in
theorem w_j_X9_gapsOn_45 (C : Cx G l p s m args c RX9 cX9_gapsOn 6) (C2 : Cy meth c (some .int)) {hs : Hs} (a0 : Option Nat) (a1 : Int32) (a2 : Int32) (a5 : Int32) (s0 : Int32) (s1 : Int32) (rec_11 : Int32 → Int32 → Int32 → OO Int32) (hrec_11 : ∀ (y3 : Int32) (y4 : Int32) (y5 : Int32) hs, rec_11 y3 y4 y5 hs = some (o, hs') → WG G p l e { frames := 4, cells := 0, slots := 0, locals := 87 } s m args below meth c 6 0 0 (vx_MQ below (QcT G o hs' tvI) (XCT G o hs') args s 0 0 (gA G)) hs [(0, va_rf a0), (1, .int a1), (2, .int a2), (3, .int y3), (4, .int y4), (5, .int y5)] [] 11) (h : j_X9_gapsOn_45 a0 a1 a2 a5 s0 s1 rec_11 hs = some (o, hs')) : WG G p l e { frames := 4, cells := 0, slots := 0, locals := 87 } s m args below meth c 6 0 0 (vx_MQ below (QcT G o hs' tvI) (XCT G o hs') args s 0 0 (gA G)) hs [(0, va_rf a0), (1, .int a1), (2, .int a2), (5, .int a5)] [.int s0, .int s1] 45 := by
  unfold j_X9_gapsOn_45 at h
  refine q_iadd C dX9_gapsOn_45 ?_
  refine q_istore_n C (fun v7 => [(3, .int v7), (0, va_rf a0), (1, .int a1), (2, .int a2), (5, .int a5)]) dX9_gapsOn_46 (by decide) (fun _ => rfl) h (fun v7 h => ?_)
  refine q_iconst C (0 : Int32) dX9_gapsOn_47 (by decide) ?_
  refine q_istore C (fun v8 => [(4, .int v8), (3, .int v7), (0, va_rf a0), (1, .int a1), (2, .int a2), (5, .int a5)]) dX9_gapsOn_48 (by decide) (fun _ => rfl) h (fun v8 h => ?_)
  refine q_goto C 61 dX9_gapsOn_50 (by decide) ?_
  refine WG.sub [2, 3, 4, 1, 0, 5] rfl ?_
  exact w_j_X9_gapsOn_61 C C2 _ _ _ _ _ _ _ hrec_11 h
def L_X9_gapsOn_11 (a0 : Option Nat) (a1 : Int32) (a2 : Int32) (k_11_67 : Int32 → OO Int32) : Nat → Int32 → Int32 → Int32 → OO Int32
  | 0, _, _, _ => failO
  | n + 1, x3, x4, x5 =>
    (if ((((6 : Int32) * a2) + (6 : Int32))) ≤ x5 then
    k_11_67 x3
    else
    rcv a0 12 fun r9 => call (f_X9_isBusy r9 a1 x5) (fun (v4 : Int32) =>
    (if v4 = 0 then
    (if x4 < 0 then
    j_X9_gapsOn_61 a0 a1 a2 x3 x4 x5 (L_X9_gapsOn_11 a0 a1 a2 k_11_67 n)
    else
    lets (x4 + (1 : Int32)) fun (v6 : Int32) =>
    j_X9_gapsOn_61 a0 a1 a2 x3 v6 x5 (L_X9_gapsOn_11 a0 a1 a2 k_11_67 n))
    else
    (if x4 ≤ 0 then
    j_X9_gapsOn_45 a0 a1 a2 x5 (0 : Int32) x3 (L_X9_gapsOn_11 a0 a1 a2 k_11_67 n)
    else
    j_X9_gapsOn_45 a0 a1 a2 x5 x4 x3 (L_X9_gapsOn_11 a0 a1 a2 k_11_67 n)))) nox)
set_option maxRecDepth 100000 in
set_option maxHeartbeats 4000000 in
theorem w_L_X9_gapsOn_11 (C : Cx G l p s m args c RX9 cX9_gapsOn 6) (C2 : Cy meth c (some .int)) (a0 : Option Nat) (a1 : Int32) (a2 : Int32) (k_11_67 : Int32 → OO Int32) (hk_11_67 : ∀ (y3 : Int32) hs, k_11_67 y3 hs = some (o, hs') → WG G p l e { frames := 4, cells := 0, slots := 0, locals := 87 } s m args below meth c 6 0 0 (vx_MQ below (QcT G o hs' tvI) (XCT G o hs') args s 0 0 (gA G)) hs [(3, .int y3)] [] 67) : ∀ (n : Nat) (x3 : Int32) (x4 : Int32) (x5 : Int32) (hs : Hs), L_X9_gapsOn_11 a0 a1 a2 k_11_67 n x3 x4 x5 hs = some (o, hs') → WG G p l e { frames := 4, cells := 0, slots := 0, locals := 87 } s m args below meth c 6 0 0 (vx_MQ below (QcT G o hs' tvI) (XCT G o hs') args s 0 0 (gA G)) hs [(0, va_rf a0), (1, .int a1), (2, .int a2), (3, .int x3), (4, .int x4), (5, .int x5)] [] 11 := by
  intro n
  induction n with
  | zero =>
    intro x3 x4 x5 hs h
    rw [L_X9_gapsOn_11] at h
    exact absurd h failO_e
  | succ n hrec_11 =>
    intro x3 x4 x5 hs h
    rw [L_X9_gapsOn_11] at h
    refine q_iload C 5 dX9_gapsOn_11 rfl ?_
    refine q_bipush C (6 : Int32) dX9_gapsOn_13 (by decide) ?_
    refine q_iload_n C 2 dX9_gapsOn_15 rfl ?_
    refine q_imul C dX9_gapsOn_16 ?_
    refine q_bipush C (6 : Int32) dX9_gapsOn_17 (by decide) ?_
    refine q_iadd C dX9_gapsOn_19 ?_
    refine q_icmp_ge C 67 dX9_gapsOn_20 (by decide) h (fun h => ?_) (fun h => ?_)
    · refine WG.sub [3] rfl ?_
      exact hk_11_67 _ _ h
    · refine q_aload_n C 0 dX9_gapsOn_23 rfl ?_
      refine q_iload_n C 1 dX9_gapsOn_24 rfl ?_
      refine q_iload C 5 dX9_gapsOn_25 rfl ?_
      refine q_callV C (CN := RX9) (T := TX9) (N := 28) [.int a1, .int x5] [] (fun a0 o2 hs1 hm => m_X9_isBusy hm) lk_X9_174 im_X9_isBusy se_X9_X9_isBusy rfl ⟨(Nat.le_of_ble_eq_true rfl), (Nat.le_of_ble_eq_true rfl)⟩ ⟨(Nat.le_of_ble_eq_true rfl), (Nat.le_of_ble_eq_true rfl)⟩ rfl rfl (by decide) dX9_gapsOn_27 h (fun v4 hs h => WG_st (st' := [.int v4]) rfl ?_)
      refine q_if_eq C 53 dX9_gapsOn_30 (by decide) h (fun h => ?_) (fun h => ?_)
      · refine q_iload C 4 dX9_gapsOn_53 rfl ?_
        refine q_if_lt C 61 dX9_gapsOn_55 (by decide) h (fun h => ?_) (fun h => ?_)
        · exact w_j_X9_gapsOn_61 C C2 _ _ _ _ _ _ _ hrec_11 h
        · refine q_iinc C 4 (1 : Int32) (fun v6 => [(4, .int v6), (0, va_rf a0), (1, .int a1), (2, .int a2), (3, .int x3), (5, .int x5)]) dX9_gapsOn_58 rfl (by decide) (by decide) (fun _ => rfl) h (fun v6 h => ?_)
          refine WG.sub [1, 2, 3, 4, 0, 5] rfl ?_
          exact w_j_X9_gapsOn_61 C C2 _ _ _ _ _ _ _ hrec_11 h
      · refine q_iload_n C 3 dX9_gapsOn_33 rfl ?_
        refine q_iload C 4 dX9_gapsOn_34 rfl ?_
        refine q_if_le C 44 dX9_gapsOn_36 (by decide) h (fun h => ?_) (fun h => ?_)
        · refine q_iconst C (0 : Int32) dX9_gapsOn_44 (by decide) ?_
          refine WG.sub [0, 1, 2, 5] rfl ?_
          exact w_j_X9_gapsOn_45 C C2 _ _ _ _ _ _ _ hrec_11 h
        · refine q_iload C 4 dX9_gapsOn_39 rfl ?_
          refine q_goto C 45 dX9_gapsOn_41 (by decide) ?_
          refine WG.sub [0, 1, 2, 5] rfl ?_
          exact w_j_X9_gapsOn_45 C C2 _ _ _ _ _ _ _ hrec_11 h
end M_X9_gapsOn
def f_X9_gapsOn (a0 : Nat) (p1 : Int32) (p2 : Int32) : OO Int32 :=
    lets (0 : Int32) fun (v1 : Int32) =>
    lets (-1 : Int32) fun (v2 : Int32) =>
    lets ((6 : Int32) * p2) fun (v3 : Int32) =>
    L_X9_gapsOn_11 (some a0) p1 p2 (fun (v10 : Int32) => rtn v10) 100000 v1 v2 v3
set_option maxRecDepth 100000 in
set_option maxHeartbeats 4000000 in
theorem m_X9_gapsOn {G : GG} {l : Launch} {a0 : Nat} {p1 : Int32} {p2 : Int32} {hs hs' : Hs} {o : Except Nat Int32} (h : f_X9_gapsOn a0 p1 p2 hs = some (o, hs')) : CT G l yX9_gapsOn cX9_gapsOn 6 (some .int) 4 87 0 0 [.ref a0, .int p1, .int p2] hs o hs' tvI := by
  refine vx_ofW (cc := cX9_gapsOn) (maxL := 6) (ret := (some .int)) (by decide +kernel) rfl ?_
  intro p e s m args below meth c s₁ B hml hxt hv
  obtain ⟨hav, hR, hKn⟩ := hv
  subst hav
  have hts := atoms_spec (ws := .code yX9_gapsOn cX9_gapsOn 6 (some .int) :: Tg) B.pre
  have C : Cx G l p s m _ c RX9 cX9_gapsOn 6 := ⟨B.exec, B.bytes, hml, findClass_of_methodNamed B.named, fun w hw => hts w (List.mem_cons_of_mem _ hw), hKn, fun q hq => Nat.le_trans hR.2.2.1 hq⟩
  have C2 : Cy meth c (some .int) := ⟨B.returns, B.notSynchronized, hxt⟩
  have key : WG G p l e { frames := 4, cells := 0, slots := 0, locals := 87 } s m ([.ref a0, .int p1, .int p2] : List Value).toArray below meth c 6 0 0 (vx_MQ below (QcT G o hs' tvI) (XCT G o hs') ([.ref a0, .int p1, .int p2] : List Value).toArray s 0 0 (gA G)) hs [(0, va_rf (some a0)), (1, .int p1), (2, .int p2)] [] 0 := by
    unfold f_X9_gapsOn at h
    refine q_iconst C (0 : Int32) dX9_gapsOn_0 (by decide) ?_
    refine q_istore_n C (fun v1 => [(3, .int v1), (0, va_rf (some a0)), (1, .int p1), (2, .int p2)]) dX9_gapsOn_1 (by decide) (fun _ => rfl) h (fun v1 h => ?_)
    refine q_iconst C (-1 : Int32) dX9_gapsOn_2 (by decide) ?_
    refine q_istore C (fun v2 => [(4, .int v2), (3, .int v1), (0, va_rf (some a0)), (1, .int p1), (2, .int p2)]) dX9_gapsOn_3 (by decide) (fun _ => rfl) h (fun v2 h => ?_)
    refine q_bipush C (6 : Int32) dX9_gapsOn_5 (by decide) ?_
    refine q_iload_n C 4 dX9_gapsOn_7 rfl ?_
    refine q_imul C dX9_gapsOn_8 ?_
    refine q_istore C (fun v3 => [(5, .int v3), (4, .int v2), (3, .int v1), (0, va_rf (some a0)), (1, .int p1), (2, .int p2)]) dX9_gapsOn_9 (by decide) (fun _ => rfl) h (fun v3 h => ?_)
    refine WG.sub [3, 4, 5, 2, 1, 0] rfl ?_
    refine w_L_X9_gapsOn_11 C C2 _ _ _ _ ?_ _ _ _ _ _ h
    · intro v10 hs h
      refine q_iload_n C 0 dX9_gapsOn_67 rfl ?_
      exact q_iret C C2 rfl (Nat.le_of_ble_eq_true rfl) (Nat.le_of_ble_eq_true rfl) dX9_gapsOn_68 h
  rw [lg_entry_eq]
  exact key _ _ _ hR va_S.rf ⟨lv_entry _ (n := 6) (Nat.le_of_ble_eq_true rfl), (c1_r (c1_i (c1_i c1_n)))⟩

theorem cd_X9_isLate : Cond.code yX9_isLate cX9_isLate 2 (some .boolean) ∈ Tg := Tg_of (i := 1725) (by decide +kernel) (by decide +kernel)
section M_X9_isLate
variable {p : Program} {l : Launch} {e : Env} {s : State} {m : MethodId} {args : Array Value} {below : List Frame} {meth : Method} {c : Code} {G : GG} {o : Except Nat Int32} {hs' : Hs}
end M_X9_isLate
def f_X9_isLate (a0 : Nat) (p1 : Int32) : OO Int32 :=
    rcv (some a0) 12 fun r4 => call (f_X9_isPlaced r4 p1) (fun (v1 : Int32) =>
    (if v1 = 0 then
    retZ (0 : Int32)
    else
    rcv (some a0) 12 fun r3 => call (f_X9_endOf r3 p1) (fun (v2 : Int32) =>
    dvz (6 : Int32) (
    (if ¬ (irem v2 (6 : Int32)) = 0 then
    retZ (0 : Int32)
    else
    retZ (1 : Int32)))) nox)) nox
set_option maxRecDepth 100000 in
set_option maxHeartbeats 4000000 in
theorem m_X9_isLate {G : GG} {l : Launch} {a0 : Nat} {p1 : Int32} {hs hs' : Hs} {o : Except Nat Int32} (h : f_X9_isLate a0 p1 hs = some (o, hs')) : CT G l yX9_isLate cX9_isLate 2 (some .boolean) 2 42 0 0 [.ref a0, .int p1] hs o hs' tvI := by
  refine vx_ofW (cc := cX9_isLate) (maxL := 2) (ret := (some .boolean)) (by decide +kernel) rfl ?_
  intro p e s m args below meth c s₁ B hml hxt hv
  obtain ⟨hav, hR, hKn⟩ := hv
  subst hav
  have hts := atoms_spec (ws := .code yX9_isLate cX9_isLate 2 (some .boolean) :: Tg) B.pre
  have C : Cx G l p s m _ c RX9 cX9_isLate 2 := ⟨B.exec, B.bytes, hml, findClass_of_methodNamed B.named, fun w hw => hts w (List.mem_cons_of_mem _ hw), hKn, fun q hq => Nat.le_trans hR.2.2.1 hq⟩
  have C2 : Cy meth c (some .boolean) := ⟨B.returns, B.notSynchronized, hxt⟩
  have key : WG G p l e { frames := 2, cells := 0, slots := 0, locals := 42 } s m ([.ref a0, .int p1] : List Value).toArray below meth c 2 0 0 (vx_MQ below (QcT G o hs' tvI) (XCT G o hs') ([.ref a0, .int p1] : List Value).toArray s 0 0 (gA G)) hs [(0, va_rf (some a0)), (1, .int p1)] [] 0 := by
    unfold f_X9_isLate at h
    refine q_aload_n C 0 dX9_isLate_0 rfl ?_
    refine q_iload_n C 1 dX9_isLate_1 rfl ?_
    refine q_callV C (CN := RX9) (T := TX9) (N := 28) [.int p1] [] (fun a0 o2 hs1 hm => m_X9_isPlaced hm) lk_X9_118 im_X9_isPlaced se_X9_X9_isPlaced rfl ⟨(Nat.le_of_ble_eq_true rfl), (Nat.le_of_ble_eq_true rfl)⟩ ⟨(Nat.le_of_ble_eq_true rfl), (Nat.le_of_ble_eq_true rfl)⟩ rfl rfl (by decide) dX9_isLate_2 h (fun v1 hs h => WG_st (st' := [.int v1]) rfl ?_)
    refine q_if_eq C 23 dX9_isLate_5 (by decide) h (fun h => ?_) (fun h => ?_)
    · refine q_iconst C (0 : Int32) dX9_isLate_23 (by decide) ?_
      exact q_zret C C2 rfl (Nat.le_of_ble_eq_true rfl) (Nat.le_of_ble_eq_true rfl) dX9_isLate_24 h
    · refine q_aload_n C 0 dX9_isLate_8 rfl ?_
      refine q_iload_n C 1 dX9_isLate_9 rfl ?_
      refine q_callV C (CN := RX9) (T := TX9) (N := 28) [.int p1] [] (fun a0 o2 hs1 hm => m_X9_endOf hm) lk_X9_121 im_X9_endOf se_X9_X9_endOf rfl ⟨(Nat.le_of_ble_eq_true rfl), (Nat.le_of_ble_eq_true rfl)⟩ ⟨(Nat.le_of_ble_eq_true rfl), (Nat.le_of_ble_eq_true rfl)⟩ rfl rfl (by decide) dX9_isLate_10 h (fun v2 hs h => WG_st (st' := [.int v2]) rfl ?_)
      refine q_bipush C (6 : Int32) dX9_isLate_13 (by decide) ?_
      refine q_irem C dX9_isLate_15 h (fun h => ?_)
      refine q_if_ne C 23 dX9_isLate_16 (by decide) h (fun h => ?_) (fun h => ?_)
      · refine q_iconst C (0 : Int32) dX9_isLate_23 (by decide) ?_
        exact q_zret C C2 rfl (Nat.le_of_ble_eq_true rfl) (Nat.le_of_ble_eq_true rfl) dX9_isLate_24 h
      · refine q_iconst C (1 : Int32) dX9_isLate_19 (by decide) ?_
        refine q_goto C 24 dX9_isLate_20 (by decide) ?_
        exact q_zret C C2 rfl (Nat.le_of_ble_eq_true rfl) (Nat.le_of_ble_eq_true rfl) dX9_isLate_24 h
  rw [lg_entry_eq]
  exact key _ _ _ hR va_S.rf ⟨lv_entry _ (n := 2) (Nat.le_of_ble_eq_true rfl), (c1_r (c1_i c1_n))⟩

theorem cd_X9_isCrowd : Cond.code yX9_isCrowd cX9_isCrowd 3 (some .boolean) ∈ Tg := Tg_of (i := 1729) (by decide +kernel) (by decide +kernel)
section M_X9_isCrowd
variable {p : Program} {l : Launch} {e : Env} {s : State} {m : MethodId} {args : Array Value} {below : List Frame} {meth : Method} {c : Code} {G : GG} {o : Except Nat Int32} {hs' : Hs}
end M_X9_isCrowd
def f_X9_isCrowd (a0 : Nat) (p1 : Int32) (p2 : Int32) : OO Int32 :=
    rcv (some a0) 12 fun r16 => call (f_X9_isPlaced r16 p1) (fun (v1 : Int32) =>
    (if v1 = 0 then
    retZ (0 : Int32)
    else
    rcv (some a0) 12 fun r15 => call (f_X9_isPlaced r15 p2) (fun (v2 : Int32) =>
    (if v2 = 0 then
    retZ (0 : Int32)
    else
    gR (some a0) 12 9 fun v3 =>
    ldI 0 v3 p1 fun v4 =>
    gR (some a0) 12 9 fun v5 =>
    ldI 0 v5 p2 fun v6 =>
    (if ¬ v4 = v6 then
    retZ (0 : Int32)
    else
    gR (some a0) 12 13 fun v7 =>
    ldI 0 v7 p1 fun v8 =>
    gR (some a0) 12 13 fun v9 =>
    ldI 0 v9 p2 fun v10 =>
    (if ¬ v8 = v10 then
    retZ (0 : Int32)
    else
    rcv (some a0) 12 fun r14 => call (f_X9_slotOf r14 p1) (fun (v11 : Int32) =>
    dvz (6 : Int32) (
    rcv (some a0) 12 fun r13 => call (f_X9_slotOf r13 p2) (fun (v12 : Int32) =>
    dvz (6 : Int32) (
    (if ¬ (v11 / (6 : Int32)) = (v12 / (6 : Int32)) then
    retZ (0 : Int32)
    else
    retZ (1 : Int32)))) nox)) nox)))) nox)) nox
set_option maxRecDepth 100000 in
set_option maxHeartbeats 4000000 in
theorem m_X9_isCrowd {G : GG} {l : Launch} {a0 : Nat} {p1 : Int32} {p2 : Int32} {hs hs' : Hs} {o : Except Nat Int32} (h : f_X9_isCrowd a0 p1 p2 hs = some (o, hs')) : CT G l yX9_isCrowd cX9_isCrowd 3 (some .boolean) 1 21 0 0 [.ref a0, .int p1, .int p2] hs o hs' tvI := by
  refine vx_ofW (cc := cX9_isCrowd) (maxL := 3) (ret := (some .boolean)) (by decide +kernel) rfl ?_
  intro p e s m args below meth c s₁ B hml hxt hv
  obtain ⟨hav, hR, hKn⟩ := hv
  subst hav
  have hts := atoms_spec (ws := .code yX9_isCrowd cX9_isCrowd 3 (some .boolean) :: Tg) B.pre
  have C : Cx G l p s m _ c RX9 cX9_isCrowd 3 := ⟨B.exec, B.bytes, hml, findClass_of_methodNamed B.named, fun w hw => hts w (List.mem_cons_of_mem _ hw), hKn, fun q hq => Nat.le_trans hR.2.2.1 hq⟩
  have C2 : Cy meth c (some .boolean) := ⟨B.returns, B.notSynchronized, hxt⟩
  have key : WG G p l e { frames := 1, cells := 0, slots := 0, locals := 21 } s m ([.ref a0, .int p1, .int p2] : List Value).toArray below meth c 3 0 0 (vx_MQ below (QcT G o hs' tvI) (XCT G o hs') ([.ref a0, .int p1, .int p2] : List Value).toArray s 0 0 (gA G)) hs [(0, va_rf (some a0)), (1, .int p1), (2, .int p2)] [] 0 := by
    unfold f_X9_isCrowd at h
    refine q_aload_n C 0 dX9_isCrowd_0 rfl ?_
    refine q_iload_n C 1 dX9_isCrowd_1 rfl ?_
    refine q_callV C (CN := RX9) (T := TX9) (N := 28) [.int p1] [] (fun a0 o2 hs1 hm => m_X9_isPlaced hm) lk_X9_118 im_X9_isPlaced se_X9_X9_isPlaced rfl ⟨(Nat.le_of_ble_eq_true rfl), (Nat.le_of_ble_eq_true rfl)⟩ ⟨(Nat.le_of_ble_eq_true rfl), (Nat.le_of_ble_eq_true rfl)⟩ rfl rfl (by decide) dX9_isCrowd_2 h (fun v1 hs h => WG_st (st' := [.int v1]) rfl ?_)
    refine q_if_eq C 69 dX9_isCrowd_5 (by decide) h (fun h => ?_) (fun h => ?_)
    · refine q_iconst C (0 : Int32) dX9_isCrowd_69 (by decide) ?_
      exact q_zret C C2 rfl (Nat.le_of_ble_eq_true rfl) (Nat.le_of_ble_eq_true rfl) dX9_isCrowd_70 h
    · refine q_aload_n C 0 dX9_isCrowd_8 rfl ?_
      refine q_iload_n C 2 dX9_isCrowd_9 rfl ?_
      refine q_callV C (CN := RX9) (T := TX9) (N := 28) [.int p2] [] (fun a0 o2 hs1 hm => m_X9_isPlaced hm) lk_X9_118 im_X9_isPlaced se_X9_X9_isPlaced rfl ⟨(Nat.le_of_ble_eq_true rfl), (Nat.le_of_ble_eq_true rfl)⟩ ⟨(Nat.le_of_ble_eq_true rfl), (Nat.le_of_ble_eq_true rfl)⟩ rfl rfl (by decide) dX9_isCrowd_10 h (fun v2 hs h => WG_st (st' := [.int v2]) rfl ?_)
      refine q_if_eq C 69 dX9_isCrowd_13 (by decide) h (fun h => ?_) (fun h => ?_)
      · refine q_iconst C (0 : Int32) dX9_isCrowd_69 (by decide) ?_
        exact q_zret C C2 rfl (Nat.le_of_ble_eq_true rfl) (Nat.le_of_ble_eq_true rfl) dX9_isCrowd_70 h
      · refine q_aload_n C 0 dX9_isCrowd_16 rfl ?_
        refine q_gR C fl_X9_38 dX9_isCrowd_17 h (fun v3 h => ?_)
        refine q_iload_n C 1 dX9_isCrowd_20 rfl ?_
        refine q_iald C dX9_isCrowd_21 h (fun v4 h => ?_)
        refine q_aload_n C 0 dX9_isCrowd_22 rfl ?_
        refine q_gR C fl_X9_38 dX9_isCrowd_23 h (fun v5 h => ?_)
        refine q_iload_n C 2 dX9_isCrowd_26 rfl ?_
        refine q_iald C dX9_isCrowd_27 h (fun v6 h => ?_)
        refine q_icmp_ne C 69 dX9_isCrowd_28 (by decide) h (fun h => ?_) (fun h => ?_)
        · refine q_iconst C (0 : Int32) dX9_isCrowd_69 (by decide) ?_
          exact q_zret C C2 rfl (Nat.le_of_ble_eq_true rfl) (Nat.le_of_ble_eq_true rfl) dX9_isCrowd_70 h
        · refine q_aload_n C 0 dX9_isCrowd_31 rfl ?_
          refine q_gR C fl_X9_50 dX9_isCrowd_32 h (fun v7 h => ?_)
          refine q_iload_n C 1 dX9_isCrowd_35 rfl ?_
          refine q_iald C dX9_isCrowd_36 h (fun v8 h => ?_)
          refine q_aload_n C 0 dX9_isCrowd_37 rfl ?_
          refine q_gR C fl_X9_50 dX9_isCrowd_38 h (fun v9 h => ?_)
          refine q_iload_n C 2 dX9_isCrowd_41 rfl ?_
          refine q_iald C dX9_isCrowd_42 h (fun v10 h => ?_)
          refine q_icmp_ne C 69 dX9_isCrowd_43 (by decide) h (fun h => ?_) (fun h => ?_)
          · refine q_iconst C (0 : Int32) dX9_isCrowd_69 (by decide) ?_
            exact q_zret C C2 rfl (Nat.le_of_ble_eq_true rfl) (Nat.le_of_ble_eq_true rfl) dX9_isCrowd_70 h
          · refine q_aload_n C 0 dX9_isCrowd_46 rfl ?_
            refine q_iload_n C 1 dX9_isCrowd_47 rfl ?_
            refine q_callV C (CN := RX9) (T := TX9) (N := 28) [.int p1] [] (fun a0 o2 hs1 hm => m_X9_slotOf hm) lk_X9_114 im_X9_slotOf se_X9_X9_slotOf rfl ⟨(Nat.le_of_ble_eq_true rfl), (Nat.le_of_ble_eq_true rfl)⟩ ⟨(Nat.le_of_ble_eq_true rfl), (Nat.le_of_ble_eq_true rfl)⟩ rfl rfl (by decide) dX9_isCrowd_48 h (fun v11 hs h => WG_st (st' := [.int v11]) rfl ?_)
            refine q_bipush C (6 : Int32) dX9_isCrowd_51 (by decide) ?_
            refine q_idiv C dX9_isCrowd_53 h (fun h => ?_)
            refine q_aload_n C 0 dX9_isCrowd_54 rfl ?_
            refine q_iload_n C 2 dX9_isCrowd_55 rfl ?_
            refine q_callV C (CN := RX9) (T := TX9) (N := 28) [.int p2] [.int (v11 / (6 : Int32))] (fun a0 o2 hs1 hm => m_X9_slotOf hm) lk_X9_114 im_X9_slotOf se_X9_X9_slotOf rfl ⟨(Nat.le_of_ble_eq_true rfl), (Nat.le_of_ble_eq_true rfl)⟩ ⟨(Nat.le_of_ble_eq_true rfl), (Nat.le_of_ble_eq_true rfl)⟩ rfl rfl (by simp only [List.map, cat_rf, cat_i, cat_a]; decide) dX9_isCrowd_56 h (fun v12 hs h => WG_st (st' := [.int v12, .int (v11 / (6 : Int32))]) rfl ?_)
            refine q_bipush C (6 : Int32) dX9_isCrowd_59 (by decide) ?_
            refine q_idiv C dX9_isCrowd_61 h (fun h => ?_)
            refine q_icmp_ne C 69 dX9_isCrowd_62 (by decide) h (fun h => ?_) (fun h => ?_)
            · refine q_iconst C (0 : Int32) dX9_isCrowd_69 (by decide) ?_
              exact q_zret C C2 rfl (Nat.le_of_ble_eq_true rfl) (Nat.le_of_ble_eq_true rfl) dX9_isCrowd_70 h
            · refine q_iconst C (1 : Int32) dX9_isCrowd_65 (by decide) ?_
              refine q_goto C 70 dX9_isCrowd_66 (by decide) ?_
              exact q_zret C C2 rfl (Nat.le_of_ble_eq_true rfl) (Nat.le_of_ble_eq_true rfl) dX9_isCrowd_70 h
  rw [lg_entry_eq]
  exact key _ _ _ hR va_S.rf ⟨lv_entry _ (n := 3) (Nat.le_of_ble_eq_true rfl), (c1_r (c1_i (c1_i c1_n)))⟩

theorem cd_X9_amountOf : Cond.code yX9_amountOf cX9_amountOf 5 (some .int) ∈ Tg := Tg_of (i := 1709) (by decide +kernel) (by decide +kernel)
theorem ml_X9_177 : Cond.methodLink RX9 177 yX9_gapsOn ∈ Tg := Tg_of (i := 1710) (by decide +kernel) (by decide +kernel)
theorem lk_X9_177 : Lk RX9 177 yX9_gapsOn cX9_gapsOn 6 (some .int) 2 := ⟨ml_X9_177, cd_X9_gapsOn, iw_X9, by decide +kernel⟩
theorem im_X9_gapsOn : Cond.instanceMethod yX9_gapsOn ∈ Tg := Tg_of (i := 1712) (by decide +kernel) (by decide +kernel)
theorem se_X9_X9_gapsOn : Cond.selects RX9 yX9_gapsOn yX9_gapsOn ∈ Tg := Tg_of (i := 56) (by decide +kernel) (by decide +kernel)
theorem ml_X9_180 : Cond.methodLink RX9 180 yX9_isLate ∈ Tg := Tg_of (i := 1722) (by decide +kernel) (by decide +kernel)
theorem lk_X9_180 : Lk RX9 180 yX9_isLate cX9_isLate 2 (some .boolean) 1 := ⟨ml_X9_180, cd_X9_isLate, iw_X9, by decide +kernel⟩
theorem fl_X9_22 : Fld RX9 22 12 4 (.array .int) := ⟨RX9, TX9, 28, RX9, rfl, by decide, wf_X9_22, (Or.inl rfl), gu_X9, tyX9_ok _ (by decide), ⟨tyX9, tyX9_ok⟩, nmX9⟩
theorem im_X9_isLate : Cond.instanceMethod yX9_isLate ∈ Tg := Tg_of (i := 1724) (by decide +kernel) (by decide +kernel)
theorem se_X9_X9_isLate : Cond.selects RX9 yX9_isLate yX9_isLate ∈ Tg := Tg_of (i := 59) (by decide +kernel) (by decide +kernel)
theorem ml_X9_183 : Cond.methodLink RX9 183 yX9_isCrowd ∈ Tg := Tg_of (i := 1726) (by decide +kernel) (by decide +kernel)
theorem lk_X9_183 : Lk RX9 183 yX9_isCrowd cX9_isCrowd 3 (some .boolean) 2 := ⟨ml_X9_183, cd_X9_isCrowd, iw_X9, by decide +kernel⟩
theorem im_X9_isCrowd : Cond.instanceMethod yX9_isCrowd ∈ Tg := Tg_of (i := 1728) (by decide +kernel) (by decide +kernel)
theorem se_X9_X9_isCrowd : Cond.selects RX9 yX9_isCrowd yX9_isCrowd ∈ Tg := Tg_of (i := 60) (by decide +kernel) (by decide +kernel)
section M_X9_amountOf
variable {p : Program} {l : Launch} {e : Env} {s : State} {m : MethodId} {args : Array Value} {below : List Frame} {meth : Method} {c : Code} {G : GG} {o : Except Nat Int32} {hs' : Hs}
def L_X9_amountOf_4 (a0 : Option Nat) (a1 : Int32) (k_4_37 : Int32 → OO Int32) : Nat → Int32 → Int32 → OO Int32
  | 0, _, _ => failO
  | n + 1, x2, x3 =>
    (if ¬ a1 = 0 then
    k_4_37 x2
    else
    gI a0 12 23 fun v3 =>
    (if (v3 * (5 : Int32)) ≤ x3 then
    k_4_37 x2
    else
    dvz (5 : Int32) (
    dvz (5 : Int32) (
    rcv a0 12 fun r7 => call (f_X9_gapsOn r7 (x3 / (5 : Int32)) (irem x3 (5 : Int32))) (fun (v4 : Int32) =>
    lets (x2 + v4) fun (v5 : Int32) =>
    lets (x3 + (1 : Int32)) fun (v6 : Int32) =>
    (L_X9_amountOf_4 a0 a1 k_4_37 n) v5 v6) nox))))
set_option maxRecDepth 100000 in
set_option maxHeartbeats 4000000 in
theorem w_L_X9_amountOf_4 (C : Cx G l p s m args c RX9 cX9_amountOf 5) (C2 : Cy meth c (some .int)) (a0 : Option Nat) (a1 : Int32) (k_4_37 : Int32 → OO Int32) (hk_4_37 : ∀ (y2 : Int32) hs, k_4_37 y2 hs = some (o, hs') → WG G p l e { frames := 5, cells := 0, slots := 0, locals := 112 } s m args below meth c 5 0 0 (vx_MQ below (QcT G o hs' tvI) (XCT G o hs') args s 0 0 (gA G)) hs [(0, va_rf a0), (1, .int a1), (2, .int y2)] [] 37) : ∀ (n : Nat) (x2 : Int32) (x3 : Int32) (hs : Hs), L_X9_amountOf_4 a0 a1 k_4_37 n x2 x3 hs = some (o, hs') → WG G p l e { frames := 5, cells := 0, slots := 0, locals := 112 } s m args below meth c 5 0 0 (vx_MQ below (QcT G o hs' tvI) (XCT G o hs') args s 0 0 (gA G)) hs [(0, va_rf a0), (1, .int a1), (2, .int x2), (3, .int x3)] [] 4 := by
  intro n
  induction n with
  | zero =>
    intro x2 x3 hs h
    rw [L_X9_amountOf_4] at h
    exact absurd h failO_e
  | succ n hrec_4 =>
    intro x2 x3 hs h
    rw [L_X9_amountOf_4] at h
    refine q_iload_n C 1 dX9_amountOf_4 rfl ?_
    refine q_if_ne C 37 dX9_amountOf_5 (by decide) h (fun h => ?_) (fun h => ?_)
    · refine WG.sub [0, 1, 2] rfl ?_
      exact hk_4_37 _ _ h
    · refine q_iload_n C 3 dX9_amountOf_8 rfl ?_
      refine q_aload_n C 0 dX9_amountOf_9 rfl ?_
      refine q_gI C fl_X9_81 dX9_amountOf_10 h (fun v3 h => ?_)
      refine q_iconst C (5 : Int32) dX9_amountOf_13 (by decide) ?_
      refine q_imul C dX9_amountOf_14 ?_
      refine q_icmp_ge C 37 dX9_amountOf_15 (by decide) h (fun h => ?_) (fun h => ?_)
      · refine WG.sub [0, 1, 2] rfl ?_
        exact hk_4_37 _ _ h
      · refine q_iload_n C 2 dX9_amountOf_18 rfl ?_
        refine q_aload_n C 0 dX9_amountOf_19 rfl ?_
        refine q_iload_n C 3 dX9_amountOf_20 rfl ?_
        refine q_iconst C (5 : Int32) dX9_amountOf_21 (by decide) ?_
        refine q_idiv C dX9_amountOf_22 h (fun h => ?_)
        refine q_iload_n C 3 dX9_amountOf_23 rfl ?_
        refine q_iconst C (5 : Int32) dX9_amountOf_24 (by decide) ?_
        refine q_irem C dX9_amountOf_25 h (fun h => ?_)
        refine q_callV C (CN := RX9) (T := TX9) (N := 28) [.int (x3 / (5 : Int32)), .int (irem x3 (5 : Int32))] [.int x2] (fun a0 o2 hs1 hm => m_X9_gapsOn hm) lk_X9_177 im_X9_gapsOn se_X9_X9_gapsOn rfl ⟨(Nat.le_of_ble_eq_true rfl), (Nat.le_of_ble_eq_true rfl)⟩ ⟨(Nat.le_of_ble_eq_true rfl), (Nat.le_of_ble_eq_true rfl)⟩ rfl rfl (by simp only [List.map, cat_rf, cat_i, cat_a]; decide) dX9_amountOf_26 h (fun v4 hs h => WG_st (st' := [.int v4, .int x2]) rfl ?_)
        refine q_iadd C dX9_amountOf_29 ?_
        refine q_istore_n C (fun v5 => [(2, .int v5), (0, va_rf a0), (1, .int a1), (3, .int x3)]) dX9_amountOf_30 (by decide) (fun _ => rfl) h (fun v5 h => ?_)
        refine q_iinc C 3 (1 : Int32) (fun v6 => [(3, .int v6), (2, .int v5), (0, va_rf a0), (1, .int a1)]) dX9_amountOf_31 rfl (by decide) (by decide) (fun _ => rfl) h (fun v6 h => ?_)
        refine q_goto C 4 dX9_amountOf_34 (by decide) ?_
        refine WG.sub [2, 3, 1, 0] rfl ?_
        exact hrec_4 _ _ _ h
def j_X9_amountOf_78 (a0 : Option Nat) (a1 : Int32) (a3 : Int32) (s0 : Int32) (s1 : Int32) (rec_39 : Int32 → Int32 → OO Int32) : OO Int32 :=
  lets (s1 + s0) fun (v12 : Int32) =>
    lets (a3 + (1 : Int32)) fun (v13 : Int32) =>
    rec_39 v12 v13
set_option maxRecDepth 100000 in
set_option maxHeartbeats 4000000 in
theorem w_j_X9_amountOf_78 (C : Cx G l p s m args c RX9 cX9_amountOf 5) (C2 : Cy meth c (some .int)) {hs : Hs} (a0 : Option Nat) (a1 : Int32) (a3 : Int32) (s0 : Int32) (s1 : Int32) (rec_39 : Int32 → Int32 → OO Int32) (hrec_39 : ∀ (y2 : Int32) (y3 : Int32) hs, rec_39 y2 y3 hs = some (o, hs') → WG G p l e { frames := 5, cells := 0, slots := 0, locals := 112 } s m args below meth c 5 0 0 (vx_MQ below (QcT G o hs' tvI) (XCT G o hs') args s 0 0 (gA G)) hs [(0, va_rf a0), (1, .int a1), (2, .int y2), (3, .int y3)] [] 39) (h : j_X9_amountOf_78 a0 a1 a3 s0 s1 rec_39 hs = some (o, hs')) : WG G p l e { frames := 5, cells := 0, slots := 0, locals := 112 } s m args below meth c 5 0 0 (vx_MQ below (QcT G o hs' tvI) (XCT G o hs') args s 0 0 (gA G)) hs [(0, va_rf a0), (1, .int a1), (3, .int a3)] [.int s0, .int s1] 78 := by
  unfold j_X9_amountOf_78 at h
  refine q_iadd C dX9_amountOf_78 ?_
  refine q_istore_n C (fun v12 => [(2, .int v12), (0, va_rf a0), (1, .int a1), (3, .int a3)]) dX9_amountOf_79 (by decide) (fun _ => rfl) h (fun v12 h => ?_)
  refine q_iinc C 3 (1 : Int32) (fun v13 => [(3, .int v13), (2, .int v12), (0, va_rf a0), (1, .int a1)]) dX9_amountOf_80 rfl (by decide) (by decide) (fun _ => rfl) h (fun v13 h => ?_)
  refine q_goto C 39 dX9_amountOf_83 (by decide) ?_
  refine WG.sub [2, 3, 1, 0] rfl ?_
  exact hrec_39 _ _ _ h
def L_X9_amountOf_39 (a0 : Option Nat) (a1 : Int32) (k_39_86 : Int32 → OO Int32) : Nat → Int32 → Int32 → OO Int32
  | 0, _, _ => failO
  | n + 1, x2, x3 =>
    (if ¬ a1 = (1 : Int32) then
    k_39_86 x2
    else
    gI a0 12 24 fun v10 =>
    (if v10 ≤ x3 then
    k_39_86 x2
    else
    rcv a0 12 fun r18 => call (f_X9_isLate r18 x3) (fun (v11 : Int32) =>
    (if v11 = 0 then
    j_X9_amountOf_78 a0 a1 x3 (0 : Int32) x2 (L_X9_amountOf_39 a0 a1 k_39_86 n)
    else
    gR a0 12 4 fun v14 =>
    gR a0 12 10 fun v15 =>
    ldI 0 v15 x3 fun v16 =>
    ldI 0 v14 v16 fun v17 =>
    j_X9_amountOf_78 a0 a1 x3 ((1 : Int32) + v17) x2 (L_X9_amountOf_39 a0 a1 k_39_86 n))) nox))
set_option maxRecDepth 100000 in
set_option maxHeartbeats 4000000 in
theorem w_L_X9_amountOf_39 (C : Cx G l p s m args c RX9 cX9_amountOf 5) (C2 : Cy meth c (some .int)) (a0 : Option Nat) (a1 : Int32) (k_39_86 : Int32 → OO Int32) (hk_39_86 : ∀ (y2 : Int32) hs, k_39_86 y2 hs = some (o, hs') → WG G p l e { frames := 5, cells := 0, slots := 0, locals := 112 } s m args below meth c 5 0 0 (vx_MQ below (QcT G o hs' tvI) (XCT G o hs') args s 0 0 (gA G)) hs [(0, va_rf a0), (1, .int a1), (2, .int y2)] [] 86) : ∀ (n : Nat) (x2 : Int32) (x3 : Int32) (hs : Hs), L_X9_amountOf_39 a0 a1 k_39_86 n x2 x3 hs = some (o, hs') → WG G p l e { frames := 5, cells := 0, slots := 0, locals := 112 } s m args below meth c 5 0 0 (vx_MQ below (QcT G o hs' tvI) (XCT G o hs') args s 0 0 (gA G)) hs [(0, va_rf a0), (1, .int a1), (2, .int x2), (3, .int x3)] [] 39 := by
  intro n
  induction n with
  | zero =>
    intro x2 x3 hs h
    rw [L_X9_amountOf_39] at h
    exact absurd h failO_e
  | succ n hrec_39 =>
    intro x2 x3 hs h
    rw [L_X9_amountOf_39] at h
    refine q_iload_n C 1 dX9_amountOf_39 rfl ?_
    refine q_iconst C (1 : Int32) dX9_amountOf_40 (by decide) ?_
    refine q_icmp_ne C 86 dX9_amountOf_41 (by decide) h (fun h => ?_) (fun h => ?_)
    · refine WG.sub [0, 1, 2] rfl ?_
      exact hk_39_86 _ _ h
    · refine q_iload_n C 3 dX9_amountOf_44 rfl ?_
      refine q_aload_n C 0 dX9_amountOf_45 rfl ?_
      refine q_gI C fl_X9_84 dX9_amountOf_46 h (fun v10 h => ?_)
      refine q_icmp_ge C 86 dX9_amountOf_49 (by decide) h (fun h => ?_) (fun h => ?_)
      · refine WG.sub [0, 1, 2] rfl ?_
        exact hk_39_86 _ _ h
      · refine q_iload_n C 2 dX9_amountOf_52 rfl ?_
        refine q_aload_n C 0 dX9_amountOf_53 rfl ?_
        refine q_iload_n C 3 dX9_amountOf_54 rfl ?_
        refine q_callV C (CN := RX9) (T := TX9) (N := 28) [.int x3] [.int x2] (fun a0 o2 hs1 hm => m_X9_isLate hm) lk_X9_180 im_X9_isLate se_X9_X9_isLate rfl ⟨(Nat.le_of_ble_eq_true rfl), (Nat.le_of_ble_eq_true rfl)⟩ ⟨(Nat.le_of_ble_eq_true rfl), (Nat.le_of_ble_eq_true rfl)⟩ rfl rfl (by simp only [List.map, cat_rf, cat_i, cat_a]; decide) dX9_amountOf_55 h (fun v11 hs h => WG_st (st' := [.int v11, .int x2]) rfl ?_)
        refine q_if_eq C 77 dX9_amountOf_58 (by decide) h (fun h => ?_) (fun h => ?_)
        · refine q_iconst C (0 : Int32) dX9_amountOf_77 (by decide) ?_
          refine WG.sub [0, 1, 3] rfl ?_
          exact w_j_X9_amountOf_78 C C2 _ _ _ _ _ _ hrec_39 h
        · refine q_iconst C (1 : Int32) dX9_amountOf_61 (by decide) ?_
          refine q_aload_n C 0 dX9_amountOf_62 rfl ?_
          refine q_gR C fl_X9_22 dX9_amountOf_63 h (fun v14 h => ?_)
          refine q_aload_n C 0 dX9_amountOf_66 rfl ?_
          refine q_gR C fl_X9_41 dX9_amountOf_67 h (fun v15 h => ?_)
          refine q_iload_n C 3 dX9_amountOf_70 rfl ?_
          refine q_iald C dX9_amountOf_71 h (fun v16 h => ?_)
          refine q_iald C dX9_amountOf_72 h (fun v17 h => ?_)
          refine q_iadd C dX9_amountOf_73 ?_
          refine q_goto C 78 dX9_amountOf_74 (by decide) ?_
          refine WG.sub [0, 1, 3] rfl ?_
          exact w_j_X9_amountOf_78 C C2 _ _ _ _ _ _ hrec_39 h
def L_X9_amountOf_104 (a0 : Option Nat) (a1 : Int32) (a3 : Int32) (k_104_155 : Int32 → OO Int32) : Nat → Int32 → Int32 → OO Int32
  | 0, _, _ => failO
  | n + 1, x2, x4 =>
    gR a0 12 12 fun v23 =>
    ldI 0 v23 a3 fun v24 =>
    (if v24 ≤ x4 then
    k_104_155 x2
    else
    rcv a0 12 fun r34 => call (f_X9_isPlaced r34 a3) (fun (v25 : Int32) =>
    (if v25 = 0 then
    k_104_155 x2
    else
    gR a0 12 6 fun v26 =>
    gR a0 12 10 fun v27 =>
    ldI 0 v27 a3 fun v28 =>
    rcv a0 12 fun r33 => call (f_X9_slotOf r33 a3) (fun (v29 : Int32) =>
    ldI 0 v26 ((((30 : Int32) * v28) + v29) + x4) fun v30 =>
    lets (x2 + v30) fun (v31 : Int32) =>
    lets (x4 + (1 : Int32)) fun (v32 : Int32) =>
    (L_X9_amountOf_104 a0 a1 a3 k_104_155 n) v31 v32) nox)) nox)
set_option maxRecDepth 100000 in
set_option maxHeartbeats 4000000 in
theorem w_L_X9_amountOf_104 (C : Cx G l p s m args c RX9 cX9_amountOf 5) (C2 : Cy meth c (some .int)) (a0 : Option Nat) (a1 : Int32) (a3 : Int32) (k_104_155 : Int32 → OO Int32) (hk_104_155 : ∀ (y2 : Int32) hs, k_104_155 y2 hs = some (o, hs') → WG G p l e { frames := 5, cells := 0, slots := 0, locals := 112 } s m args below meth c 5 0 0 (vx_MQ below (QcT G o hs' tvI) (XCT G o hs') args s 0 0 (gA G)) hs [(0, va_rf a0), (1, .int a1), (2, .int y2), (3, .int a3)] [] 155) : ∀ (n : Nat) (x2 : Int32) (x4 : Int32) (hs : Hs), L_X9_amountOf_104 a0 a1 a3 k_104_155 n x2 x4 hs = some (o, hs') → WG G p l e { frames := 5, cells := 0, slots := 0, locals := 112 } s m args below meth c 5 0 0 (vx_MQ below (QcT G o hs' tvI) (XCT G o hs') args s 0 0 (gA G)) hs [(0, va_rf a0), (1, .int a1), (2, .int x2), (3, .int a3), (4, .int x4)] [] 104 := by
  intro n
  induction n with
  | zero =>
    intro x2 x4 hs h
    rw [L_X9_amountOf_104] at h
    exact absurd h failO_e
  | succ n hrec_104 =>
    intro x2 x4 hs h
    rw [L_X9_amountOf_104] at h
    refine q_iload C 4 dX9_amountOf_104 rfl ?_
    refine q_aload_n C 0 dX9_amountOf_106 rfl ?_
    refine q_gR C fl_X9_47 dX9_amountOf_107 h (fun v23 h => ?_)
    refine q_iload_n C 3 dX9_amountOf_110 rfl ?_
    refine q_iald C dX9_amountOf_111 h (fun v24 h => ?_)
    refine q_icmp_ge C 155 dX9_amountOf_112 (by decide) h (fun h => ?_) (fun h => ?_)
    · refine WG.sub [0, 1, 2, 3] rfl ?_
      exact hk_104_155 _ _ h
    · refine q_aload_n C 0 dX9_amountOf_115 rfl ?_
      refine q_iload_n C 3 dX9_amountOf_116 rfl ?_
      refine q_callV C (CN := RX9) (T := TX9) (N := 28) [.int a3] [] (fun a0 o2 hs1 hm => m_X9_isPlaced hm) lk_X9_118 im_X9_isPlaced se_X9_X9_isPlaced rfl ⟨(Nat.le_of_ble_eq_true rfl), (Nat.le_of_ble_eq_true rfl)⟩ ⟨(Nat.le_of_ble_eq_true rfl), (Nat.le_of_ble_eq_true rfl)⟩ rfl rfl (by decide) dX9_amountOf_117 h (fun v25 hs h => WG_st (st' := [.int v25]) rfl ?_)
      refine q_if_eq C 155 dX9_amountOf_120 (by decide) h (fun h => ?_) (fun h => ?_)
      · refine WG.sub [0, 1, 2, 3] rfl ?_
        exact hk_104_155 _ _ h
      · refine q_iload_n C 2 dX9_amountOf_123 rfl ?_
        refine q_aload_n C 0 dX9_amountOf_124 rfl ?_
        refine q_gR C fl_X9_28 dX9_amountOf_125 h (fun v26 h => ?_)
        refine q_bipush C (30 : Int32) dX9_amountOf_128 (by decide) ?_
        refine q_aload_n C 0 dX9_amountOf_130 rfl ?_
        refine q_gR C fl_X9_41 dX9_amountOf_131 h (fun v27 h => ?_)
        refine q_iload_n C 3 dX9_amountOf_134 rfl ?_
        refine q_iald C dX9_amountOf_135 h (fun v28 h => ?_)
        refine q_imul C dX9_amountOf_136 ?_
        refine q_aload_n C 0 dX9_amountOf_137 rfl ?_
        refine q_iload_n C 3 dX9_amountOf_138 rfl ?_
        refine q_callV C (CN := RX9) (T := TX9) (N := 28) [.int a3] [.int ((30 : Int32) * v28), va_rf v26, .int x2] (fun a0 o2 hs1 hm => m_X9_slotOf hm) lk_X9_114 im_X9_slotOf se_X9_X9_slotOf rfl ⟨(Nat.le_of_ble_eq_true rfl), (Nat.le_of_ble_eq_true rfl)⟩ ⟨(Nat.le_of_ble_eq_true rfl), (Nat.le_of_ble_eq_true rfl)⟩ rfl rfl (by simp only [List.map, cat_rf, cat_i, cat_a]; decide) dX9_amountOf_139 h (fun v29 hs h => WG_st (st' := [.int v29, .int ((30 : Int32) * v28), va_rf v26, .int x2]) rfl ?_)
        refine q_iadd C dX9_amountOf_142 ?_
        refine q_iload C 4 dX9_amountOf_143 rfl ?_
        refine q_iadd C dX9_amountOf_145 ?_
        refine q_iald C dX9_amountOf_146 h (fun v30 h => ?_)
        refine q_iadd C dX9_amountOf_147 ?_
        refine q_istore_n C (fun v31 => [(2, .int v31), (0, va_rf a0), (1, .int a1), (3, .int a3), (4, .int x4)]) dX9_amountOf_148 (by decide) (fun _ => rfl) h (fun v31 h => ?_)
        refine q_iinc C 4 (1 : Int32) (fun v32 => [(4, .int v32), (2, .int v31), (0, va_rf a0), (1, .int a1), (3, .int a3)]) dX9_amountOf_149 rfl (by decide) (by decide) (fun _ => rfl) h (fun v32 h => ?_)
        refine q_goto C 104 dX9_amountOf_152 (by decide) ?_
        refine WG.sub [2, 3, 1, 4, 0] rfl ?_
        exact hrec_104 _ _ _ h
def j_X9_amountOf_155 (a0 : Option Nat) (a1 : Int32) (a2 : Int32) (a3 : Int32)  (rec_88 : Int32 → Int32 → OO Int32) : OO Int32 :=
  lets (a3 + (1 : Int32)) fun (v36 : Int32) =>
    rec_88 a2 v36
set_option maxRecDepth 100000 in
set_option maxHeartbeats 4000000 in
theorem w_j_X9_amountOf_155 (C : Cx G l p s m args c RX9 cX9_amountOf 5) (C2 : Cy meth c (some .int)) {hs : Hs} (a0 : Option Nat) (a1 : Int32) (a2 : Int32) (a3 : Int32)  (rec_88 : Int32 → Int32 → OO Int32) (hrec_88 : ∀ (y2 : Int32) (y3 : Int32) hs, rec_88 y2 y3 hs = some (o, hs') → WG G p l e { frames := 5, cells := 0, slots := 0, locals := 112 } s m args below meth c 5 0 0 (vx_MQ below (QcT G o hs' tvI) (XCT G o hs') args s 0 0 (gA G)) hs [(0, va_rf a0), (1, .int a1), (2, .int y2), (3, .int y3)] [] 88) (h : j_X9_amountOf_155 a0 a1 a2 a3 rec_88 hs = some (o, hs')) : WG G p l e { frames := 5, cells := 0, slots := 0, locals := 112 } s m args below meth c 5 0 0 (vx_MQ below (QcT G o hs' tvI) (XCT G o hs') args s 0 0 (gA G)) hs [(0, va_rf a0), (1, .int a1), (2, .int a2), (3, .int a3)] [] 155 := by
  unfold j_X9_amountOf_155 at h
  refine q_iinc C 3 (1 : Int32) (fun v36 => [(3, .int v36), (0, va_rf a0), (1, .int a1), (2, .int a2)]) dX9_amountOf_155 rfl (by decide) (by decide) (fun _ => rfl) h (fun v36 h => ?_)
  refine q_goto C 88 dX9_amountOf_158 (by decide) ?_
  refine WG.sub [1, 2, 3, 0] rfl ?_
  exact hrec_88 _ _ _ h
def L_X9_amountOf_88 (a0 : Option Nat) (a1 : Int32) (k_88_161 : Int32 → OO Int32) : Nat → Int32 → Int32 → OO Int32
  | 0, _, _ => failO
  | n + 1, x2, x3 =>
    (if ¬ a1 = (2 : Int32) then
    k_88_161 x2
    else
    gI a0 12 24 fun v21 =>
    (if v21 ≤ x3 then
    k_88_161 x2
    else
    lets (0 : Int32) fun (v22 : Int32) =>
    L_X9_amountOf_104 a0 a1 x3 (fun (v35 : Int32) => j_X9_amountOf_155 a0 a1 v35 x3 (L_X9_amountOf_88 a0 a1 k_88_161 n)) 100000 x2 v22))
set_option maxRecDepth 100000 in
set_option maxHeartbeats 4000000 in
theorem w_L_X9_amountOf_88 (C : Cx G l p s m args c RX9 cX9_amountOf 5) (C2 : Cy meth c (some .int)) (a0 : Option Nat) (a1 : Int32) (k_88_161 : Int32 → OO Int32) (hk_88_161 : ∀ (y2 : Int32) hs, k_88_161 y2 hs = some (o, hs') → WG G p l e { frames := 5, cells := 0, slots := 0, locals := 112 } s m args below meth c 5 0 0 (vx_MQ below (QcT G o hs' tvI) (XCT G o hs') args s 0 0 (gA G)) hs [(0, va_rf a0), (1, .int a1), (2, .int y2)] [] 161) : ∀ (n : Nat) (x2 : Int32) (x3 : Int32) (hs : Hs), L_X9_amountOf_88 a0 a1 k_88_161 n x2 x3 hs = some (o, hs') → WG G p l e { frames := 5, cells := 0, slots := 0, locals := 112 } s m args below meth c 5 0 0 (vx_MQ below (QcT G o hs' tvI) (XCT G o hs') args s 0 0 (gA G)) hs [(0, va_rf a0), (1, .int a1), (2, .int x2), (3, .int x3)] [] 88 := by
  intro n
  induction n with
  | zero =>
    intro x2 x3 hs h
    rw [L_X9_amountOf_88] at h
    exact absurd h failO_e
  | succ n hrec_88 =>
    intro x2 x3 hs h
    rw [L_X9_amountOf_88] at h
    refine q_iload_n C 1 dX9_amountOf_88 rfl ?_
    refine q_iconst C (2 : Int32) dX9_amountOf_89 (by decide) ?_
    refine q_icmp_ne C 161 dX9_amountOf_90 (by decide) h (fun h => ?_) (fun h => ?_)
    · refine WG.sub [0, 1, 2] rfl ?_
      exact hk_88_161 _ _ h
    · refine q_iload_n C 3 dX9_amountOf_93 rfl ?_
      refine q_aload_n C 0 dX9_amountOf_94 rfl ?_
      refine q_gI C fl_X9_84 dX9_amountOf_95 h (fun v21 h => ?_)
      refine q_icmp_ge C 161 dX9_amountOf_98 (by decide) h (fun h => ?_) (fun h => ?_)
      · refine WG.sub [0, 1, 2] rfl ?_
        exact hk_88_161 _ _ h
      · refine q_iconst C (0 : Int32) dX9_amountOf_101 (by decide) ?_
        refine q_istore C (fun v22 => [(4, .int v22), (0, va_rf a0), (1, .int a1), (2, .int x2), (3, .int x3)]) dX9_amountOf_102 (by decide) (fun _ => rfl) h (fun v22 h => ?_)
        refine WG.sub [1, 2, 3, 4, 0] rfl ?_
        refine w_L_X9_amountOf_104 C C2 _ _ _ _ ?_ _ _ _ _ h
        · intro v35 hs h
          exact w_j_X9_amountOf_155 C C2 _ _ _ _ _ hrec_88 h
def j_X9_amountOf_201 (a0 : Option Nat) (a1 : Int32) (a3 : Int32) (a4 : Int32) (s0 : Int32) (s1 : Int32) (rec_179 : Int32 → Int32 → OO Int32) : OO Int32 :=
  lets (s1 + s0) fun (v42 : Int32) =>
    lets (a4 + (1 : Int32)) fun (v43 : Int32) =>
    rec_179 v42 v43
set_option maxRecDepth 100000 in
set_option maxHeartbeats 4000000 in
theorem w_j_X9_amountOf_201 (C : Cx G l p s m args c RX9 cX9_amountOf 5) (C2 : Cy meth c (some .int)) {hs : Hs} (a0 : Option Nat) (a1 : Int32) (a3 : Int32) (a4 : Int32) (s0 : Int32) (s1 : Int32) (rec_179 : Int32 → Int32 → OO Int32) (hrec_179 : ∀ (y2 : Int32) (y4 : Int32) hs, rec_179 y2 y4 hs = some (o, hs') → WG G p l e { frames := 5, cells := 0, slots := 0, locals := 112 } s m args below meth c 5 0 0 (vx_MQ below (QcT G o hs' tvI) (XCT G o hs') args s 0 0 (gA G)) hs [(0, va_rf a0), (1, .int a1), (2, .int y2), (3, .int a3), (4, .int y4)] [] 179) (h : j_X9_amountOf_201 a0 a1 a3 a4 s0 s1 rec_179 hs = some (o, hs')) : WG G p l e { frames := 5, cells := 0, slots := 0, locals := 112 } s m args below meth c 5 0 0 (vx_MQ below (QcT G o hs' tvI) (XCT G o hs') args s 0 0 (gA G)) hs [(0, va_rf a0), (1, .int a1), (3, .int a3), (4, .int a4)] [.int s0, .int s1] 201 := by
  unfold j_X9_amountOf_201 at h
  refine q_iadd C dX9_amountOf_201 ?_
  refine q_istore_n C (fun v42 => [(2, .int v42), (0, va_rf a0), (1, .int a1), (3, .int a3), (4, .int a4)]) dX9_amountOf_202 (by decide) (fun _ => rfl) h (fun v42 h => ?_)
  refine q_iinc C 4 (1 : Int32) (fun v43 => [(4, .int v43), (2, .int v42), (0, va_rf a0), (1, .int a1), (3, .int a3)]) dX9_amountOf_203 rfl (by decide) (by decide) (fun _ => rfl) h (fun v43 h => ?_)
  refine q_goto C 179 dX9_amountOf_206 (by decide) ?_
  refine WG.sub [2, 3, 1, 4, 0] rfl ?_
  exact hrec_179 _ _ _ h
def L_X9_amountOf_179 (a0 : Option Nat) (a1 : Int32) (a3 : Int32) (k_179_209 : Int32 → OO Int32) : Nat → Int32 → Int32 → OO Int32
  | 0, _, _ => failO
  | n + 1, x2, x4 =>
    (if a3 ≤ x4 then
    k_179_209 x2
    else
    rcv a0 12 fun r44 => call (f_X9_isCrowd r44 a3 x4) (fun (v41 : Int32) =>
    (if v41 = 0 then
    j_X9_amountOf_201 a0 a1 a3 x4 (0 : Int32) x2 (L_X9_amountOf_179 a0 a1 a3 k_179_209 n)
    else
    j_X9_amountOf_201 a0 a1 a3 x4 (1 : Int32) x2 (L_X9_amountOf_179 a0 a1 a3 k_179_209 n))) nox)
set_option maxRecDepth 100000 in
set_option maxHeartbeats 4000000 in
theorem w_L_X9_amountOf_179 (C : Cx G l p s m args c RX9 cX9_amountOf 5) (C2 : Cy meth c (some .int)) (a0 : Option Nat) (a1 : Int32) (a3 : Int32) (k_179_209 : Int32 → OO Int32) (hk_179_209 : ∀ (y2 : Int32) hs, k_179_209 y2 hs = some (o, hs') → WG G p l e { frames := 5, cells := 0, slots := 0, locals := 112 } s m args below meth c 5 0 0 (vx_MQ below (QcT G o hs' tvI) (XCT G o hs') args s 0 0 (gA G)) hs [(0, va_rf a0), (1, .int a1), (2, .int y2), (3, .int a3)] [] 209) : ∀ (n : Nat) (x2 : Int32) (x4 : Int32) (hs : Hs), L_X9_amountOf_179 a0 a1 a3 k_179_209 n x2 x4 hs = some (o, hs') → WG G p l e { frames := 5, cells := 0, slots := 0, locals := 112 } s m args below meth c 5 0 0 (vx_MQ below (QcT G o hs' tvI) (XCT G o hs') args s 0 0 (gA G)) hs [(0, va_rf a0), (1, .int a1), (2, .int x2), (3, .int a3), (4, .int x4)] [] 179 := by
  intro n
  induction n with
  | zero =>
    intro x2 x4 hs h
    rw [L_X9_amountOf_179] at h
    exact absurd h failO_e
  | succ n hrec_179 =>
    intro x2 x4 hs h
    rw [L_X9_amountOf_179] at h
    refine q_iload C 4 dX9_amountOf_179 rfl ?_
    refine q_iload_n C 3 dX9_amountOf_181 rfl ?_
    refine q_icmp_ge C 209 dX9_amountOf_182 (by decide) h (fun h => ?_) (fun h => ?_)
    · refine WG.sub [0, 1, 2, 3] rfl ?_
      exact hk_179_209 _ _ h
    · refine q_iload_n C 2 dX9_amountOf_185 rfl ?_
      refine q_aload_n C 0 dX9_amountOf_186 rfl ?_
      refine q_iload_n C 3 dX9_amountOf_187 rfl ?_
      refine q_iload C 4 dX9_amountOf_188 rfl ?_
      refine q_callV C (CN := RX9) (T := TX9) (N := 28) [.int a3, .int x4] [.int x2] (fun a0 o2 hs1 hm => m_X9_isCrowd hm) lk_X9_183 im_X9_isCrowd se_X9_X9_isCrowd rfl ⟨(Nat.le_of_ble_eq_true rfl), (Nat.le_of_ble_eq_true rfl)⟩ ⟨(Nat.le_of_ble_eq_true rfl), (Nat.le_of_ble_eq_true rfl)⟩ rfl rfl (by simp only [List.map, cat_rf, cat_i, cat_a]; decide) dX9_amountOf_190 h (fun v41 hs h => WG_st (st' := [.int v41, .int x2]) rfl ?_)
      refine q_if_eq C 200 dX9_amountOf_193 (by decide) h (fun h => ?_) (fun h => ?_)
      · refine q_iconst C (0 : Int32) dX9_amountOf_200 (by decide) ?_
        refine WG.sub [0, 1, 3, 4] rfl ?_
        exact w_j_X9_amountOf_201 C C2 _ _ _ _ _ _ _ hrec_179 h
      · refine q_iconst C (1 : Int32) dX9_amountOf_196 (by decide) ?_
        refine q_goto C 201 dX9_amountOf_197 (by decide) ?_
        refine WG.sub [0, 1, 3, 4] rfl ?_
        exact w_j_X9_amountOf_201 C C2 _ _ _ _ _ _ _ hrec_179 h
def L_X9_amountOf_163 (a0 : Option Nat) (a1 : Int32) (k_163_215 : Int32 → OO Int32) : Nat → Int32 → Int32 → OO Int32
  | 0, _, _ => failO
  | n + 1, x2, x3 =>
    (if ¬ a1 = (3 : Int32) then
    k_163_215 x2
    else
    gI a0 12 24 fun v39 =>
    (if v39 ≤ x3 then
    k_163_215 x2
    else
    lets (0 : Int32) fun (v40 : Int32) =>
    L_X9_amountOf_179 a0 a1 x3 (fun (v45 : Int32) => lets (x3 + (1 : Int32)) fun (v46 : Int32) =>
    (L_X9_amountOf_163 a0 a1 k_163_215 n) v45 v46) 100000 x2 v40))
set_option maxRecDepth 100000 in
set_option maxHeartbeats 4000000 in
theorem w_L_X9_amountOf_163 (C : Cx G l p s m args c RX9 cX9_amountOf 5) (C2 : Cy meth c (some .int)) (a0 : Option Nat) (a1 : Int32) (k_163_215 : Int32 → OO Int32) (hk_163_215 : ∀ (y2 : Int32) hs, k_163_215 y2 hs = some (o, hs') → WG G p l e { frames := 5, cells := 0, slots := 0, locals := 112 } s m args below meth c 5 0 0 (vx_MQ below (QcT G o hs' tvI) (XCT G o hs') args s 0 0 (gA G)) hs [(2, .int y2)] [] 215) : ∀ (n : Nat) (x2 : Int32) (x3 : Int32) (hs : Hs), L_X9_amountOf_163 a0 a1 k_163_215 n x2 x3 hs = some (o, hs') → WG G p l e { frames := 5, cells := 0, slots := 0, locals := 112 } s m args below meth c 5 0 0 (vx_MQ below (QcT G o hs' tvI) (XCT G o hs') args s 0 0 (gA G)) hs [(0, va_rf a0), (1, .int a1), (2, .int x2), (3, .int x3)] [] 163 := by
  intro n
  induction n with
  | zero =>
    intro x2 x3 hs h
    rw [L_X9_amountOf_163] at h
    exact absurd h failO_e
  | succ n hrec_163 =>
    intro x2 x3 hs h
    rw [L_X9_amountOf_163] at h
    refine q_iload_n C 1 dX9_amountOf_163 rfl ?_
    refine q_iconst C (3 : Int32) dX9_amountOf_164 (by decide) ?_
    refine q_icmp_ne C 215 dX9_amountOf_165 (by decide) h (fun h => ?_) (fun h => ?_)
    · refine WG.sub [2] rfl ?_
      exact hk_163_215 _ _ h
    · refine q_iload_n C 3 dX9_amountOf_168 rfl ?_
      refine q_aload_n C 0 dX9_amountOf_169 rfl ?_
      refine q_gI C fl_X9_84 dX9_amountOf_170 h (fun v39 h => ?_)
      refine q_icmp_ge C 215 dX9_amountOf_173 (by decide) h (fun h => ?_) (fun h => ?_)
      · refine WG.sub [2] rfl ?_
        exact hk_163_215 _ _ h
      · refine q_iconst C (0 : Int32) dX9_amountOf_176 (by decide) ?_
        refine q_istore C (fun v40 => [(4, .int v40), (0, va_rf a0), (1, .int a1), (2, .int x2), (3, .int x3)]) dX9_amountOf_177 (by decide) (fun _ => rfl) h (fun v40 h => ?_)
        refine WG.sub [1, 2, 3, 4, 0] rfl ?_
        refine w_L_X9_amountOf_179 C C2 _ _ _ _ ?_ _ _ _ _ h
        · intro v45 hs h
          refine q_iinc C 3 (1 : Int32) (fun v46 => [(3, .int v46), (0, va_rf a0), (1, .int a1), (2, .int v45)]) dX9_amountOf_209 rfl (by decide) (by decide) (fun _ => rfl) h (fun v46 h => ?_)
          refine q_goto C 163 dX9_amountOf_212 (by decide) ?_
          refine WG.sub [1, 2, 3, 0] rfl ?_
          exact hrec_163 _ _ _ h
def j_X9_amountOf_161 (a0 : Option Nat) (a1 : Int32) (a2 : Int32)   : OO Int32 :=
  lets (0 : Int32) fun (v38 : Int32) =>
    L_X9_amountOf_163 a0 a1 (fun (v47 : Int32) => rtn v47) 100000 a2 v38
set_option maxRecDepth 100000 in
set_option maxHeartbeats 4000000 in
theorem w_j_X9_amountOf_161 (C : Cx G l p s m args c RX9 cX9_amountOf 5) (C2 : Cy meth c (some .int)) {hs : Hs} (a0 : Option Nat) (a1 : Int32) (a2 : Int32)    (h : j_X9_amountOf_161 a0 a1 a2 hs = some (o, hs')) : WG G p l e { frames := 5, cells := 0, slots := 0, locals := 112 } s m args below meth c 5 0 0 (vx_MQ below (QcT G o hs' tvI) (XCT G o hs') args s 0 0 (gA G)) hs [(0, va_rf a0), (1, .int a1), (2, .int a2)] [] 161 := by
  unfold j_X9_amountOf_161 at h
  refine q_iconst C (0 : Int32) dX9_amountOf_161 (by decide) ?_
  refine q_istore_n C (fun v38 => [(3, .int v38), (0, va_rf a0), (1, .int a1), (2, .int a2)]) dX9_amountOf_162 (by decide) (fun _ => rfl) h (fun v38 h => ?_)
  refine WG.sub [1, 2, 3, 0] rfl ?_
  refine w_L_X9_amountOf_163 C C2 _ _ _ ?_ _ _ _ _ h
  · intro v47 hs h
    refine q_iload_n C 0 dX9_amountOf_215 rfl ?_
    exact q_iret C C2 rfl (Nat.le_of_ble_eq_true rfl) (Nat.le_of_ble_eq_true rfl) dX9_amountOf_216 h
def j_X9_amountOf_86 (a0 : Option Nat) (a1 : Int32) (a2 : Int32)   : OO Int32 :=
  lets (0 : Int32) fun (v20 : Int32) =>
    L_X9_amountOf_88 a0 a1 (fun (v37 : Int32) => j_X9_amountOf_161 a0 a1 v37) 100000 a2 v20
set_option maxRecDepth 100000 in
set_option maxHeartbeats 4000000 in
theorem w_j_X9_amountOf_86 (C : Cx G l p s m args c RX9 cX9_amountOf 5) (C2 : Cy meth c (some .int)) {hs : Hs} (a0 : Option Nat) (a1 : Int32) (a2 : Int32)    (h : j_X9_amountOf_86 a0 a1 a2 hs = some (o, hs')) : WG G p l e { frames := 5, cells := 0, slots := 0, locals := 112 } s m args below meth c 5 0 0 (vx_MQ below (QcT G o hs' tvI) (XCT G o hs') args s 0 0 (gA G)) hs [(0, va_rf a0), (1, .int a1), (2, .int a2)] [] 86 := by
  unfold j_X9_amountOf_86 at h
  refine q_iconst C (0 : Int32) dX9_amountOf_86 (by decide) ?_
  refine q_istore_n C (fun v20 => [(3, .int v20), (0, va_rf a0), (1, .int a1), (2, .int a2)]) dX9_amountOf_87 (by decide) (fun _ => rfl) h (fun v20 h => ?_)
  refine WG.sub [1, 2, 3, 0] rfl ?_
  refine w_L_X9_amountOf_88 C C2 _ _ _ ?_ _ _ _ _ h
  · intro v37 hs h
    exact w_j_X9_amountOf_161 C C2 _ _ _   h
def j_X9_amountOf_37 (a0 : Option Nat) (a1 : Int32) (a2 : Int32)   : OO Int32 :=
  lets (0 : Int32) fun (v9 : Int32) =>
    L_X9_amountOf_39 a0 a1 (fun (v19 : Int32) => j_X9_amountOf_86 a0 a1 v19) 100000 a2 v9
set_option maxRecDepth 100000 in
set_option maxHeartbeats 4000000 in
theorem w_j_X9_amountOf_37 (C : Cx G l p s m args c RX9 cX9_amountOf 5) (C2 : Cy meth c (some .int)) {hs : Hs} (a0 : Option Nat) (a1 : Int32) (a2 : Int32)    (h : j_X9_amountOf_37 a0 a1 a2 hs = some (o, hs')) : WG G p l e { frames := 5, cells := 0, slots := 0, locals := 112 } s m args below meth c 5 0 0 (vx_MQ below (QcT G o hs' tvI) (XCT G o hs') args s 0 0 (gA G)) hs [(0, va_rf a0), (1, .int a1), (2, .int a2)] [] 37 := by
  unfold j_X9_amountOf_37 at h
  refine q_iconst C (0 : Int32) dX9_amountOf_37 (by decide) ?_
  refine q_istore_n C (fun v9 => [(3, .int v9), (0, va_rf a0), (1, .int a1), (2, .int a2)]) dX9_amountOf_38 (by decide) (fun _ => rfl) h (fun v9 h => ?_)
  refine WG.sub [1, 2, 3, 0] rfl ?_
  refine w_L_X9_amountOf_39 C C2 _ _ _ ?_ _ _ _ _ h
  · intro v19 hs h
    exact w_j_X9_amountOf_86 C C2 _ _ _   h
end M_X9_amountOf
def f_X9_amountOf (a0 : Nat) (p1 : Int32) : OO Int32 :=
    lets (0 : Int32) fun (v1 : Int32) =>
    lets (0 : Int32) fun (v2 : Int32) =>
    L_X9_amountOf_4 (some a0) p1 (fun (v8 : Int32) => j_X9_amountOf_37 (some a0) p1 v8) 100000 v1 v2
set_option maxRecDepth 100000 in
set_option maxHeartbeats 4000000 in
theorem m_X9_amountOf {G : GG} {l : Launch} {a0 : Nat} {p1 : Int32} {hs hs' : Hs} {o : Except Nat Int32} (h : f_X9_amountOf a0 p1 hs = some (o, hs')) : CT G l yX9_amountOf cX9_amountOf 5 (some .int) 5 112 0 0 [.ref a0, .int p1] hs o hs' tvI := by
  refine vx_ofW (cc := cX9_amountOf) (maxL := 5) (ret := (some .int)) (by decide +kernel) rfl ?_
  intro p e s m args below meth c s₁ B hml hxt hv
  obtain ⟨hav, hR, hKn⟩ := hv
  subst hav
  have hts := atoms_spec (ws := .code yX9_amountOf cX9_amountOf 5 (some .int) :: Tg) B.pre
  have C : Cx G l p s m _ c RX9 cX9_amountOf 5 := ⟨B.exec, B.bytes, hml, findClass_of_methodNamed B.named, fun w hw => hts w (List.mem_cons_of_mem _ hw), hKn, fun q hq => Nat.le_trans hR.2.2.1 hq⟩
  have C2 : Cy meth c (some .int) := ⟨B.returns, B.notSynchronized, hxt⟩
  have key : WG G p l e { frames := 5, cells := 0, slots := 0, locals := 112 } s m ([.ref a0, .int p1] : List Value).toArray below meth c 5 0 0 (vx_MQ below (QcT G o hs' tvI) (XCT G o hs') ([.ref a0, .int p1] : List Value).toArray s 0 0 (gA G)) hs [(0, va_rf (some a0)), (1, .int p1)] [] 0 := by
    unfold f_X9_amountOf at h
    refine q_iconst C (0 : Int32) dX9_amountOf_0 (by decide) ?_
    refine q_istore_n C (fun v1 => [(2, .int v1), (0, va_rf (some a0)), (1, .int p1)]) dX9_amountOf_1 (by decide) (fun _ => rfl) h (fun v1 h => ?_)
    refine q_iconst C (0 : Int32) dX9_amountOf_2 (by decide) ?_
    refine q_istore_n C (fun v2 => [(3, .int v2), (2, .int v1), (0, va_rf (some a0)), (1, .int p1)]) dX9_amountOf_3 (by decide) (fun _ => rfl) h (fun v2 h => ?_)
    refine WG.sub [2, 3, 1, 0] rfl ?_
    refine w_L_X9_amountOf_4 C C2 _ _ _ ?_ _ _ _ _ h
    · intro v8 hs h
      exact w_j_X9_amountOf_37 C C2 _ _ _   h
  rw [lg_entry_eq]
  exact key _ _ _ hR va_S.rf ⟨lv_entry _ (n := 5) (Nat.le_of_ble_eq_true rfl), (c1_r (c1_i c1_n))⟩

theorem cd_X9_costNow : Cond.code yX9_costNow cX9_costNow 3 (some .int) ∈ Tg := Tg_of (i := 1705) (by decide +kernel) (by decide +kernel)
theorem ml_X9_186 : Cond.methodLink RX9 186 yX9_amountOf ∈ Tg := Tg_of (i := 1706) (by decide +kernel) (by decide +kernel)
theorem lk_X9_186 : Lk RX9 186 yX9_amountOf cX9_amountOf 5 (some .int) 1 := ⟨ml_X9_186, cd_X9_amountOf, iw_X9, by decide +kernel⟩
theorem im_X9_amountOf : Cond.instanceMethod yX9_amountOf ∈ Tg := Tg_of (i := 1708) (by decide +kernel) (by decide +kernel)
theorem se_X9_X9_amountOf : Cond.selects RX9 yX9_amountOf yX9_amountOf ∈ Tg := Tg_of (i := 55) (by decide +kernel) (by decide +kernel)
section M_X9_costNow
variable {p : Program} {l : Launch} {e : Env} {s : State} {m : MethodId} {args : Array Value} {below : List Frame} {meth : Method} {c : Code} {G : GG} {o : Except Nat Int32} {hs' : Hs}
def j_X9_costNow_35 (a0 : Option Nat) (a2 : Int32) (s0 : Int32) (s1 : Int32) (rec_4 : Int32 → Int32 → OO Int32) : OO Int32 :=
  lets (s1 + s0) fun (v5 : Int32) =>
    lets (a2 + (1 : Int32)) fun (v6 : Int32) =>
    rec_4 v5 v6
set_option maxRecDepth 100000 in
set_option maxHeartbeats 4000000 in
theorem w_j_X9_costNow_35 (C : Cx G l p s m args c RX9 cX9_costNow 3) (C2 : Cy meth c (some .int)) {hs : Hs} (a0 : Option Nat) (a2 : Int32) (s0 : Int32) (s1 : Int32) (rec_4 : Int32 → Int32 → OO Int32) (hrec_4 : ∀ (y1 : Int32) (y2 : Int32) hs, rec_4 y1 y2 hs = some (o, hs') → WG G p l e { frames := 6, cells := 0, slots := 0, locals := 136 } s m args below meth c 3 0 0 (vx_MQ below (QcT G o hs' tvI) (XCT G o hs') args s 0 0 (gA G)) hs [(0, va_rf a0), (1, .int y1), (2, .int y2)] [] 4) (h : j_X9_costNow_35 a0 a2 s0 s1 rec_4 hs = some (o, hs')) : WG G p l e { frames := 6, cells := 0, slots := 0, locals := 136 } s m args below meth c 3 0 0 (vx_MQ below (QcT G o hs' tvI) (XCT G o hs') args s 0 0 (gA G)) hs [(0, va_rf a0), (2, .int a2)] [.int s0, .int s1] 35 := by
  unfold j_X9_costNow_35 at h
  refine q_iadd C dX9_costNow_35 ?_
  refine q_istore_n C (fun v5 => [(1, .int v5), (0, va_rf a0), (2, .int a2)]) dX9_costNow_36 (by decide) (fun _ => rfl) h (fun v5 h => ?_)
  refine q_iinc C 2 (1 : Int32) (fun v6 => [(2, .int v6), (1, .int v5), (0, va_rf a0)]) dX9_costNow_37 rfl (by decide) (by decide) (fun _ => rfl) h (fun v6 h => ?_)
  refine q_goto C 4 dX9_costNow_40 (by decide) ?_
  refine WG.sub [2, 1, 0] rfl ?_
  exact hrec_4 _ _ _ h
def L_X9_costNow_4 (a0 : Option Nat) (k_4_43 : Int32 → OO Int32) : Nat → Int32 → Int32 → OO Int32
  | 0, _, _ => failO
  | n + 1, x1, x2 =>
    (if (4 : Int32) ≤ x2 then
    k_4_43 x1
    else
    gR a0 12 15 fun v3 =>
    ldI 0 v3 x2 fun v4 =>
    (if v4 ≤ 0 then
    j_X9_costNow_35 a0 x2 (0 : Int32) x1 (L_X9_costNow_4 a0 k_4_43 n)
    else
    gR a0 12 15 fun v7 =>
    ldI 0 v7 x2 fun v8 =>
    rcv a0 12 fun r10 => call (f_X9_amountOf r10 x2) (fun (v9 : Int32) =>
    j_X9_costNow_35 a0 x2 (v8 * v9) x1 (L_X9_costNow_4 a0 k_4_43 n)) nox))
set_option maxRecDepth 100000 in
set_option maxHeartbeats 4000000 in
theorem w_L_X9_costNow_4 (C : Cx G l p s m args c RX9 cX9_costNow 3) (C2 : Cy meth c (some .int)) (a0 : Option Nat) (k_4_43 : Int32 → OO Int32) (hk_4_43 : ∀ (y1 : Int32) hs, k_4_43 y1 hs = some (o, hs') → WG G p l e { frames := 6, cells := 0, slots := 0, locals := 136 } s m args below meth c 3 0 0 (vx_MQ below (QcT G o hs' tvI) (XCT G o hs') args s 0 0 (gA G)) hs [(1, .int y1)] [] 43) : ∀ (n : Nat) (x1 : Int32) (x2 : Int32) (hs : Hs), L_X9_costNow_4 a0 k_4_43 n x1 x2 hs = some (o, hs') → WG G p l e { frames := 6, cells := 0, slots := 0, locals := 136 } s m args below meth c 3 0 0 (vx_MQ below (QcT G o hs' tvI) (XCT G o hs') args s 0 0 (gA G)) hs [(0, va_rf a0), (1, .int x1), (2, .int x2)] [] 4 := by
  intro n
  induction n with
  | zero =>
    intro x1 x2 hs h
    rw [L_X9_costNow_4] at h
    exact absurd h failO_e
  | succ n hrec_4 =>
    intro x1 x2 hs h
    rw [L_X9_costNow_4] at h
    refine q_iload_n C 2 dX9_costNow_4 rfl ?_
    refine q_iconst C (4 : Int32) dX9_costNow_5 (by decide) ?_
    refine q_icmp_ge C 43 dX9_costNow_6 (by decide) h (fun h => ?_) (fun h => ?_)
    · refine WG.sub [1] rfl ?_
      exact hk_4_43 _ _ h
    · refine q_iload_n C 1 dX9_costNow_9 rfl ?_
      refine q_aload_n C 0 dX9_costNow_10 rfl ?_
      refine q_gR C fl_X9_56 dX9_costNow_11 h (fun v3 h => ?_)
      refine q_iload_n C 2 dX9_costNow_14 rfl ?_
      refine q_iald C dX9_costNow_15 h (fun v4 h => ?_)
      refine q_if_le C 34 dX9_costNow_16 (by decide) h (fun h => ?_) (fun h => ?_)
      · refine q_iconst C (0 : Int32) dX9_costNow_34 (by decide) ?_
        refine WG.sub [0, 2] rfl ?_
        exact w_j_X9_costNow_35 C C2 _ _ _ _ _ hrec_4 h
      · refine q_aload_n C 0 dX9_costNow_19 rfl ?_
        refine q_gR C fl_X9_56 dX9_costNow_20 h (fun v7 h => ?_)
        refine q_iload_n C 2 dX9_costNow_23 rfl ?_
        refine q_iald C dX9_costNow_24 h (fun v8 h => ?_)
        refine q_aload_n C 0 dX9_costNow_25 rfl ?_
        refine q_iload_n C 2 dX9_costNow_26 rfl ?_
        refine q_callV C (CN := RX9) (T := TX9) (N := 28) [.int x2] [.int v8, .int x1] (fun a0 o2 hs1 hm => m_X9_amountOf hm) lk_X9_186 im_X9_amountOf se_X9_X9_amountOf rfl ⟨(Nat.le_of_ble_eq_true rfl), (Nat.le_of_ble_eq_true rfl)⟩ ⟨(Nat.le_of_ble_eq_true rfl), (Nat.le_of_ble_eq_true rfl)⟩ rfl rfl (by simp only [List.map, cat_rf, cat_i, cat_a]; decide) dX9_costNow_27 h (fun v9 hs h => WG_st (st' := [.int v9, .int v8, .int x1]) rfl ?_)
        refine q_imul C dX9_costNow_30 ?_
        refine q_goto C 35 dX9_costNow_31 (by decide) ?_
        refine WG.sub [0, 2] rfl ?_
        exact w_j_X9_costNow_35 C C2 _ _ _ _ _ hrec_4 h
end M_X9_costNow
def f_X9_costNow (a0 : Nat) : OO Int32 :=
    lets (0 : Int32) fun (v1 : Int32) =>
    lets (0 : Int32) fun (v2 : Int32) =>
    L_X9_costNow_4 (some a0) (fun (v11 : Int32) => rtn v11) 100000 v1 v2
set_option maxRecDepth 100000 in
set_option maxHeartbeats 4000000 in
theorem m_X9_costNow {G : GG} {l : Launch} {a0 : Nat} {hs hs' : Hs} {o : Except Nat Int32} (h : f_X9_costNow a0 hs = some (o, hs')) : CT G l yX9_costNow cX9_costNow 3 (some .int) 6 136 0 0 [.ref a0] hs o hs' tvI := by
  refine vx_ofW (cc := cX9_costNow) (maxL := 3) (ret := (some .int)) (by decide +kernel) rfl ?_
  intro p e s m args below meth c s₁ B hml hxt hv
  obtain ⟨hav, hR, hKn⟩ := hv
  subst hav
  have hts := atoms_spec (ws := .code yX9_costNow cX9_costNow 3 (some .int) :: Tg) B.pre
  have C : Cx G l p s m _ c RX9 cX9_costNow 3 := ⟨B.exec, B.bytes, hml, findClass_of_methodNamed B.named, fun w hw => hts w (List.mem_cons_of_mem _ hw), hKn, fun q hq => Nat.le_trans hR.2.2.1 hq⟩
  have C2 : Cy meth c (some .int) := ⟨B.returns, B.notSynchronized, hxt⟩
  have key : WG G p l e { frames := 6, cells := 0, slots := 0, locals := 136 } s m ([.ref a0] : List Value).toArray below meth c 3 0 0 (vx_MQ below (QcT G o hs' tvI) (XCT G o hs') ([.ref a0] : List Value).toArray s 0 0 (gA G)) hs [(0, va_rf (some a0))] [] 0 := by
    unfold f_X9_costNow at h
    refine q_iconst C (0 : Int32) dX9_costNow_0 (by decide) ?_
    refine q_istore_n C (fun v1 => [(1, .int v1), (0, va_rf (some a0))]) dX9_costNow_1 (by decide) (fun _ => rfl) h (fun v1 h => ?_)
    refine q_iconst C (0 : Int32) dX9_costNow_2 (by decide) ?_
    refine q_istore_n C (fun v2 => [(2, .int v2), (1, .int v1), (0, va_rf (some a0))]) dX9_costNow_3 (by decide) (fun _ => rfl) h (fun v2 h => ?_)
    refine WG.sub [2, 1, 0] rfl ?_
    refine w_L_X9_costNow_4 C C2 _ _ ?_ _ _ _ _ h
    · intro v11 hs h
      refine q_iload_n C 0 dX9_costNow_43 rfl ?_
      exact q_iret C C2 rfl (Nat.le_of_ble_eq_true rfl) (Nat.le_of_ble_eq_true rfl) dX9_costNow_44 h
  rw [lg_entry_eq]
  exact key _ _ _ hR va_S.rf ⟨lv_entry _ (n := 3) (Nat.le_of_ble_eq_true rfl), (c1_r c1_n)⟩

theorem cd_X9_costAt : Cond.code yX9_costAt cX9_costAt 5 (some .int) ∈ Tg := Tg_of (i := 1797) (by decide +kernel) (by decide +kernel)
theorem ml_X9_189 : Cond.methodLink RX9 189 yX9_costNow ∈ Tg := Tg_of (i := 1702) (by decide +kernel) (by decide +kernel)
theorem lk_X9_189 : Lk RX9 189 yX9_costNow cX9_costNow 3 (some .int) 0 := ⟨ml_X9_189, cd_X9_costNow, iw_X9, by decide +kernel⟩
theorem im_X9_costNow : Cond.instanceMethod yX9_costNow ∈ Tg := Tg_of (i := 1704) (by decide +kernel) (by decide +kernel)
theorem se_X9_X9_costNow : Cond.selects RX9 yX9_costNow yX9_costNow ∈ Tg := Tg_of (i := 54) (by decide +kernel) (by decide +kernel)
section M_X9_costAt
variable {p : Program} {l : Launch} {e : Env} {s : State} {m : MethodId} {args : Array Value} {below : List Frame} {meth : Method} {c : Code} {G : GG} {o : Except Nat Int32} {hs' : Hs}
end M_X9_costAt
def f_X9_costAt (a0 : Nat) (p1 : Int32) (p2 : Int32) : OO Int32 :=
    gR (some a0) 12 14 fun v1 =>
    ldI 0 v1 p1 fun v2 =>
    lets v2 fun (v3 : Int32) =>
    gR (some a0) 12 14 fun v4 =>
    stI v4 p1 p2 (
    rcv (some a0) 12 fun r8 => call (f_X9_costNow r8 ) (fun (v5 : Int32) =>
    lets v5 fun (v6 : Int32) =>
    gR (some a0) 12 14 fun v7 =>
    stI v7 p1 v3 (
    rtn v6)) nox)
set_option maxRecDepth 100000 in
set_option maxHeartbeats 4000000 in
theorem m_X9_costAt {G : GG} {l : Launch} {a0 : Nat} {p1 : Int32} {p2 : Int32} {hs hs' : Hs} {o : Except Nat Int32} (h : f_X9_costAt a0 p1 p2 hs = some (o, hs')) : CT G l yX9_costAt cX9_costAt 5 (some .int) 7 158 0 0 [.ref a0, .int p1, .int p2] hs o hs' tvI := by
  refine vx_ofW (cc := cX9_costAt) (maxL := 5) (ret := (some .int)) (by decide +kernel) rfl ?_
  intro p e s m args below meth c s₁ B hml hxt hv
  obtain ⟨hav, hR, hKn⟩ := hv
  subst hav
  have hts := atoms_spec (ws := .code yX9_costAt cX9_costAt 5 (some .int) :: Tg) B.pre
  have C : Cx G l p s m _ c RX9 cX9_costAt 5 := ⟨B.exec, B.bytes, hml, findClass_of_methodNamed B.named, fun w hw => hts w (List.mem_cons_of_mem _ hw), hKn, fun q hq => Nat.le_trans hR.2.2.1 hq⟩
  have C2 : Cy meth c (some .int) := ⟨B.returns, B.notSynchronized, hxt⟩
  have key : WG G p l e { frames := 7, cells := 0, slots := 0, locals := 158 } s m ([.ref a0, .int p1, .int p2] : List Value).toArray below meth c 5 0 0 (vx_MQ below (QcT G o hs' tvI) (XCT G o hs') ([.ref a0, .int p1, .int p2] : List Value).toArray s 0 0 (gA G)) hs [(0, va_rf (some a0)), (1, .int p1), (2, .int p2)] [] 0 := by
    unfold f_X9_costAt at h
    refine q_aload_n C 0 dX9_costAt_0 rfl ?_
    refine q_gR C fl_X9_53 dX9_costAt_1 h (fun v1 h => ?_)
    refine q_iload_n C 1 dX9_costAt_4 rfl ?_
    refine q_iald C dX9_costAt_5 h (fun v2 h => ?_)
    refine q_istore_n C (fun v3 => [(3, .int v3), (0, va_rf (some a0)), (1, .int p1), (2, .int p2)]) dX9_costAt_6 (by decide) (fun _ => rfl) h (fun v3 h => ?_)
    refine q_aload_n C 1 dX9_costAt_7 rfl ?_
    refine q_gR C fl_X9_53 dX9_costAt_8 h (fun v4 h => ?_)
    refine q_iload_n C 2 dX9_costAt_11 rfl ?_
    refine q_iload_n C 3 dX9_costAt_12 rfl ?_
    refine q_iast C dX9_costAt_13 h (fun hs h => ?_)
    refine q_aload_n C 1 dX9_costAt_14 rfl ?_
    refine q_callV C (CN := RX9) (T := TX9) (N := 28) [] [] (fun a0 o2 hs1 hm => m_X9_costNow hm) lk_X9_189 im_X9_costNow se_X9_X9_costNow rfl ⟨(Nat.le_of_ble_eq_true rfl), (Nat.le_of_ble_eq_true rfl)⟩ ⟨(Nat.le_of_ble_eq_true rfl), (Nat.le_of_ble_eq_true rfl)⟩ rfl rfl (by decide) dX9_costAt_15 h (fun v5 hs h => WG_st (st' := [.int v5]) rfl ?_)
    refine q_istore C (fun v6 => [(4, .int v6), (3, .int v3), (0, va_rf (some a0)), (1, .int p1), (2, .int p2)]) dX9_costAt_18 (by decide) (fun _ => rfl) h (fun v6 h => ?_)
    refine q_aload_n C 2 dX9_costAt_20 rfl ?_
    refine q_gR C fl_X9_53 dX9_costAt_21 h (fun v7 h => ?_)
    refine q_iload_n C 3 dX9_costAt_24 rfl ?_
    refine q_iload_n C 1 dX9_costAt_25 rfl ?_
    refine q_iast C dX9_costAt_26 h (fun hs h => ?_)
    refine q_iload C 0 dX9_costAt_27 rfl ?_
    exact q_iret C C2 rfl (Nat.le_of_ble_eq_true rfl) (Nat.le_of_ble_eq_true rfl) dX9_costAt_29 h
  rw [lg_entry_eq]
  exact key _ _ _ hR va_S.rf ⟨lv_entry _ (n := 5) (Nat.le_of_ble_eq_true rfl), (c1_r (c1_i (c1_i c1_n)))⟩

