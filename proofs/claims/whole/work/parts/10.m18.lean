theorem cd_X9_differences : Cond.code yX9_differences cX9_differences 5 (some .int) ∈ Tg := Tg_of (i := 1918) (by decide +kernel) (by decide +kernel)
section M_X9_differences
variable {p : Program} {l : Launch} {e : Env} {s : State} {m : MethodId} {args : Array Value} {below : List Frame} {meth : Method} {c : Code} {G : GG} {o : Except Nat Int32} {hs' : Hs}
def j_X9_differences_75 (a0 : Option Nat) (a1 : Int32) (a2 : Int32) (a4 : Int32) (s0 : Int32) (s1 : Int32) (rec_35 : Int32 → Int32 → OO Int32) : OO Int32 :=
  lets (s1 + s0) fun (v9 : Int32) =>
    lets (a4 + (1 : Int32)) fun (v10 : Int32) =>
    rec_35 v9 v10
set_option maxRecDepth 100000 in
set_option maxHeartbeats 4000000 in
theorem w_j_X9_differences_75 (C : Cx G l p s m args c RX9 cX9_differences 5) (C2 : Cy meth c (some .int)) {hs : Hs} (a0 : Option Nat) (a1 : Int32) (a2 : Int32) (a4 : Int32) (s0 : Int32) (s1 : Int32) (rec_35 : Int32 → Int32 → OO Int32) (hrec_35 : ∀ (y3 : Int32) (y4 : Int32) hs, rec_35 y3 y4 hs = some (o, hs') → WG G p l e { frames := 2, cells := 0, slots := 0, locals := 43 } s m args below meth c 5 0 0 (vx_MQ below (QcT G o hs' tvI) (XCT G o hs') args s 0 0 (gA G)) hs [(0, va_rf a0), (1, .int a1), (2, .int a2), (3, .int y3), (4, .int y4)] [] 35) (h : j_X9_differences_75 a0 a1 a2 a4 s0 s1 rec_35 hs = some (o, hs')) : WG G p l e { frames := 2, cells := 0, slots := 0, locals := 43 } s m args below meth c 5 0 0 (vx_MQ below (QcT G o hs' tvI) (XCT G o hs') args s 0 0 (gA G)) hs [(0, va_rf a0), (1, .int a1), (2, .int a2), (4, .int a4)] [.int s0, .int s1] 75 := by
  unfold j_X9_differences_75 at h
  refine q_iadd C dX9_differences_75 ?_
  refine q_istore_n C (fun v9 => [(3, .int v9), (0, va_rf a0), (1, .int a1), (2, .int a2), (4, .int a4)]) dX9_differences_76 (by decide) (fun _ => rfl) h (fun v9 h => ?_)
  refine q_iinc C 4 (1 : Int32) (fun v10 => [(4, .int v10), (3, .int v9), (0, va_rf a0), (1, .int a1), (2, .int a2)]) dX9_differences_77 rfl (by decide) (by decide) (fun _ => rfl) h (fun v10 h => ?_)
  refine q_goto C 35 dX9_differences_80 (by decide) ?_
  refine WG.sub [2, 3, 4, 1, 0] rfl ?_
  exact hrec_35 _ _ _ h
def L_X9_differences_35 (a0 : Option Nat) (a1 : Int32) (a2 : Int32) (k_35_83 : Int32 → OO Int32) : Nat → Int32 → Int32 → OO Int32
  | 0, _, _ => failO
  | n + 1, x3, x4 =>
    (if (16 : Int32) ≤ x4 then
    k_35_83 x3
    else
    gR a0 12 16 fun v5 =>
    ldI 0 v5 (((16 : Int32) * a1) + x4) fun v6 =>
    gR a0 12 16 fun v7 =>
    ldI 0 v7 (((16 : Int32) * a2) + x4) fun v8 =>
    (if v6 = v8 then
    j_X9_differences_75 a0 a1 a2 x4 (0 : Int32) x3 (L_X9_differences_35 a0 a1 a2 k_35_83 n)
    else
    j_X9_differences_75 a0 a1 a2 x4 (1 : Int32) x3 (L_X9_differences_35 a0 a1 a2 k_35_83 n)))
set_option maxRecDepth 100000 in
set_option maxHeartbeats 4000000 in
theorem w_L_X9_differences_35 (C : Cx G l p s m args c RX9 cX9_differences 5) (C2 : Cy meth c (some .int)) (a0 : Option Nat) (a1 : Int32) (a2 : Int32) (k_35_83 : Int32 → OO Int32) (hk_35_83 : ∀ (y3 : Int32) hs, k_35_83 y3 hs = some (o, hs') → WG G p l e { frames := 2, cells := 0, slots := 0, locals := 43 } s m args below meth c 5 0 0 (vx_MQ below (QcT G o hs' tvI) (XCT G o hs') args s 0 0 (gA G)) hs [(3, .int y3)] [] 83) : ∀ (n : Nat) (x3 : Int32) (x4 : Int32) (hs : Hs), L_X9_differences_35 a0 a1 a2 k_35_83 n x3 x4 hs = some (o, hs') → WG G p l e { frames := 2, cells := 0, slots := 0, locals := 43 } s m args below meth c 5 0 0 (vx_MQ below (QcT G o hs' tvI) (XCT G o hs') args s 0 0 (gA G)) hs [(0, va_rf a0), (1, .int a1), (2, .int a2), (3, .int x3), (4, .int x4)] [] 35 := by
  intro n
  induction n with
  | zero =>
    intro x3 x4 hs h
    rw [L_X9_differences_35] at h
    exact absurd h failO_e
  | succ n hrec_35 =>
    intro x3 x4 hs h
    rw [L_X9_differences_35] at h
    refine q_iload C 4 dX9_differences_35 rfl ?_
    refine q_bipush C (16 : Int32) dX9_differences_37 (by decide) ?_
    refine q_icmp_ge C 83 dX9_differences_39 (by decide) h (fun h => ?_) (fun h => ?_)
    · refine WG.sub [3] rfl ?_
      exact hk_35_83 _ _ h
    · refine q_iload_n C 3 dX9_differences_42 rfl ?_
      refine q_aload_n C 0 dX9_differences_43 rfl ?_
      refine q_gR C fl_X9_59 dX9_differences_44 h (fun v5 h => ?_)
      refine q_bipush C (16 : Int32) dX9_differences_47 (by decide) ?_
      refine q_iload_n C 1 dX9_differences_49 rfl ?_
      refine q_imul C dX9_differences_50 ?_
      refine q_iload C 4 dX9_differences_51 rfl ?_
      refine q_iadd C dX9_differences_53 ?_
      refine q_iald C dX9_differences_54 h (fun v6 h => ?_)
      refine q_aload_n C 0 dX9_differences_55 rfl ?_
      refine q_gR C fl_X9_59 dX9_differences_56 h (fun v7 h => ?_)
      refine q_bipush C (16 : Int32) dX9_differences_59 (by decide) ?_
      refine q_iload_n C 2 dX9_differences_61 rfl ?_
      refine q_imul C dX9_differences_62 ?_
      refine q_iload C 4 dX9_differences_63 rfl ?_
      refine q_iadd C dX9_differences_65 ?_
      refine q_iald C dX9_differences_66 h (fun v8 h => ?_)
      refine q_icmp_eq C 74 dX9_differences_67 (by decide) h (fun h => ?_) (fun h => ?_)
      · refine q_iconst C (0 : Int32) dX9_differences_74 (by decide) ?_
        refine WG.sub [0, 1, 2, 4] rfl ?_
        exact w_j_X9_differences_75 C C2 _ _ _ _ _ _ _ hrec_35 h
      · refine q_iconst C (1 : Int32) dX9_differences_70 (by decide) ?_
        refine q_goto C 75 dX9_differences_71 (by decide) ?_
        refine WG.sub [0, 1, 2, 4] rfl ?_
        exact w_j_X9_differences_75 C C2 _ _ _ _ _ _ _ hrec_35 h
def j_X9_differences_22 (a0 : Option Nat) (a1 : Int32) (a2 : Int32) (s0 : Int32) (s1 : Option Nat)  : OO Int32 :=
  rcv s1 12 fun r12 => call (f_X9_checked r12 s0) (fun (v2 : Int32) =>
    (if v2 ≤ 0 then
    lets (0 : Int32) fun (v3 : Int32) =>
    lets (0 : Int32) fun (v4 : Int32) =>
    L_X9_differences_35 a0 a1 a2 (fun (v11 : Int32) => rtn v11) 100000 v3 v4
    else
    rtn (0 : Int32))) nox
set_option maxRecDepth 100000 in
set_option maxHeartbeats 4000000 in
theorem w_j_X9_differences_22 (C : Cx G l p s m args c RX9 cX9_differences 5) (C2 : Cy meth c (some .int)) {hs : Hs} (a0 : Option Nat) (a1 : Int32) (a2 : Int32) (s0 : Int32) (s1 : Option Nat)   (h : j_X9_differences_22 a0 a1 a2 s0 s1 hs = some (o, hs')) : WG G p l e { frames := 2, cells := 0, slots := 0, locals := 43 } s m args below meth c 5 0 0 (vx_MQ below (QcT G o hs' tvI) (XCT G o hs') args s 0 0 (gA G)) hs [(0, va_rf a0), (1, .int a1), (2, .int a2)] [.int s0, va_rf s1] 22 := by
  unfold j_X9_differences_22 at h
  refine q_callV C (CN := RX9) (T := TX9) (N := 28) [.int s0] [] (fun a0 o2 hs1 hm => m_X9_checked hm) lk_X9_110 im_X9_checked se_X9_X9_checked rfl ⟨(Nat.le_of_ble_eq_true rfl), (Nat.le_of_ble_eq_true rfl)⟩ ⟨(Nat.le_of_ble_eq_true rfl), (Nat.le_of_ble_eq_true rfl)⟩ rfl rfl (by decide) dX9_differences_22 h (fun v2 hs h => WG_st (st' := [.int v2]) rfl ?_)
  refine q_if_le C 30 dX9_differences_25 (by decide) h (fun h => ?_) (fun h => ?_)
  · refine q_iconst C (0 : Int32) dX9_differences_30 (by decide) ?_
    refine q_istore_n C (fun v3 => [(3, .int v3), (0, va_rf a0), (1, .int a1), (2, .int a2)]) dX9_differences_31 (by decide) (fun _ => rfl) h (fun v3 h => ?_)
    refine q_iconst C (0 : Int32) dX9_differences_32 (by decide) ?_
    refine q_istore C (fun v4 => [(4, .int v4), (3, .int v3), (0, va_rf a0), (1, .int a1), (2, .int a2)]) dX9_differences_33 (by decide) (fun _ => rfl) h (fun v4 h => ?_)
    refine WG.sub [2, 3, 4, 1, 0] rfl ?_
    refine w_L_X9_differences_35 C C2 _ _ _ _ ?_ _ _ _ _ h
    · intro v11 hs h
      refine q_iload_n C 0 dX9_differences_83 rfl ?_
      exact q_iret C C2 rfl (Nat.le_of_ble_eq_true rfl) (Nat.le_of_ble_eq_true rfl) dX9_differences_84 h
  · refine q_iconst C (0 : Int32) dX9_differences_28 (by decide) ?_
    exact q_iret C C2 rfl (Nat.le_of_ble_eq_true rfl) (Nat.le_of_ble_eq_true rfl) dX9_differences_29 h
def j_X9_differences_21 (a0 : Option Nat) (a1 : Int32) (a2 : Int32) (s0 : Option Nat)  : OO Int32 :=
  j_X9_differences_22 a0 a1 a2 (0 : Int32) s0
set_option maxRecDepth 100000 in
set_option maxHeartbeats 4000000 in
theorem w_j_X9_differences_21 (C : Cx G l p s m args c RX9 cX9_differences 5) (C2 : Cy meth c (some .int)) {hs : Hs} (a0 : Option Nat) (a1 : Int32) (a2 : Int32) (s0 : Option Nat)   (h : j_X9_differences_21 a0 a1 a2 s0 hs = some (o, hs')) : WG G p l e { frames := 2, cells := 0, slots := 0, locals := 43 } s m args below meth c 5 0 0 (vx_MQ below (QcT G o hs' tvI) (XCT G o hs') args s 0 0 (gA G)) hs [(0, va_rf a0), (1, .int a1), (2, .int a2)] [va_rf s0] 21 := by
  unfold j_X9_differences_21 at h
  refine q_iconst C (0 : Int32) dX9_differences_21 (by decide) ?_
  exact w_j_X9_differences_22 C C2 _ _ _ _ _   h
end M_X9_differences
def f_X9_differences (a0 : Nat) (p1 : Int32) (p2 : Int32) : OO Int32 :=
    rcv (some a0) 12 fun r15 => call (f_X9_isVersion r15 p1) (fun (v1 : Int32) =>
    (if v1 = 0 then
    j_X9_differences_21 (some a0) p1 p2 (some a0)
    else
    rcv (some a0) 12 fun r14 => call (f_X9_isVersion r14 p2) (fun (v13 : Int32) =>
    (if v13 = 0 then
    j_X9_differences_21 (some a0) p1 p2 (some a0)
    else
    j_X9_differences_22 (some a0) p1 p2 (1 : Int32) (some a0))) nox)) nox
set_option maxRecDepth 100000 in
set_option maxHeartbeats 4000000 in
theorem m_X9_differences {G : GG} {l : Launch} {a0 : Nat} {p1 : Int32} {p2 : Int32} {hs hs' : Hs} {o : Except Nat Int32} (h : f_X9_differences a0 p1 p2 hs = some (o, hs')) : CT G l yX9_differences cX9_differences 5 (some .int) 2 43 0 0 [.ref a0, .int p1, .int p2] hs o hs' tvI := by
  refine vx_ofW (cc := cX9_differences) (maxL := 5) (ret := (some .int)) (by decide +kernel) rfl ?_
  intro p e s m args below meth c s₁ B hml hxt hv
  obtain ⟨hav, hR, hKn⟩ := hv
  subst hav
  have hts := atoms_spec (ws := .code yX9_differences cX9_differences 5 (some .int) :: Tg) B.pre
  have C : Cx G l p s m _ c RX9 cX9_differences 5 := ⟨B.exec, B.bytes, hml, findClass_of_methodNamed B.named, fun w hw => hts w (List.mem_cons_of_mem _ hw), hKn, fun q hq => Nat.le_trans hR.2.2.1 hq⟩
  have C2 : Cy meth c (some .int) := ⟨B.returns, B.notSynchronized, hxt⟩
  have key : WG G p l e { frames := 2, cells := 0, slots := 0, locals := 43 } s m ([.ref a0, .int p1, .int p2] : List Value).toArray below meth c 5 0 0 (vx_MQ below (QcT G o hs' tvI) (XCT G o hs') ([.ref a0, .int p1, .int p2] : List Value).toArray s 0 0 (gA G)) hs [(0, va_rf (some a0)), (1, .int p1), (2, .int p2)] [] 0 := by
    unfold f_X9_differences at h
    refine q_aload_n C 0 dX9_differences_0 rfl ?_
    refine q_aload_n C 0 dX9_differences_1 rfl ?_
    refine q_iload_n C 1 dX9_differences_2 rfl ?_
    refine q_callV C (CN := RX9) (T := TX9) (N := 28) [.int p1] [va_rf (some a0)] (fun a0 o2 hs1 hm => m_X9_isVersion hm) lk_X9_251 im_X9_isVersion se_X9_X9_isVersion rfl ⟨(Nat.le_of_ble_eq_true rfl), (Nat.le_of_ble_eq_true rfl)⟩ ⟨(Nat.le_of_ble_eq_true rfl), (Nat.le_of_ble_eq_true rfl)⟩ rfl rfl (by simp only [List.map, cat_rf, cat_i, cat_a]; decide) dX9_differences_3 h (fun v1 hs h => WG_st (st' := [.int v1, va_rf (some a0)]) rfl ?_)
    refine q_if_eq C 21 dX9_differences_6 (by decide) h (fun h => ?_) (fun h => ?_)
    · exact w_j_X9_differences_21 C C2 _ _ _ _   h
    · refine q_aload_n C 0 dX9_differences_9 rfl ?_
      refine q_iload_n C 2 dX9_differences_10 rfl ?_
      refine q_callV C (CN := RX9) (T := TX9) (N := 28) [.int p2] [va_rf (some a0)] (fun a0 o2 hs1 hm => m_X9_isVersion hm) lk_X9_251 im_X9_isVersion se_X9_X9_isVersion rfl ⟨(Nat.le_of_ble_eq_true rfl), (Nat.le_of_ble_eq_true rfl)⟩ ⟨(Nat.le_of_ble_eq_true rfl), (Nat.le_of_ble_eq_true rfl)⟩ rfl rfl (by simp only [List.map, cat_rf, cat_i, cat_a]; decide) dX9_differences_11 h (fun v13 hs h => WG_st (st' := [.int v13, va_rf (some a0)]) rfl ?_)
      refine q_if_eq C 21 dX9_differences_14 (by decide) h (fun h => ?_) (fun h => ?_)
      · exact w_j_X9_differences_21 C C2 _ _ _ _   h
      · refine q_iconst C (1 : Int32) dX9_differences_17 (by decide) ?_
        refine q_goto C 22 dX9_differences_18 (by decide) ?_
        exact w_j_X9_differences_22 C C2 _ _ _ _ _   h
  rw [lg_entry_eq]
  exact key _ _ _ hR va_S.rf ⟨lv_entry _ (n := 5) (Nat.le_of_ble_eq_true rfl), (c1_r (c1_i (c1_i c1_n)))⟩

theorem cd_X9_setsFree : Cond.code yX9_setsFree cX9_setsFree 3 none ∈ Tg := Tg_of (i := 1926) (by decide +kernel) (by decide +kernel)
theorem fl_X9_62 : Fld RX9 62 12 17 (.array .int) := ⟨RX9, TX9, 28, RX9, rfl, by decide, wf_X9_62, (Or.inl rfl), gu_X9, tyX9_ok _ (by decide), ⟨tyX9, tyX9_ok⟩, nmX9⟩
section M_X9_setsFree
variable {p : Program} {l : Launch} {e : Env} {s : State} {m : MethodId} {args : Array Value} {below : List Frame} {meth : Method} {c : Code} {G : GG} {o : Except Nat Unit} {hs' : Hs}
def j_X9_setsFree_39 (a0 : Option Nat) (a1 : Option Nat) (a2 : Int32) (s0 : Int32) (s1 : Int32) (s2 : Option Nat) (rec_7 : Int32 → OO Unit) : OO Unit :=
  stZ s2 s1 s0 (
    lets (a2 + (1 : Int32)) fun (v7 : Int32) =>
    rec_7 v7)
set_option maxRecDepth 100000 in
set_option maxHeartbeats 4000000 in
theorem w_j_X9_setsFree_39 (C : Cx G l p s m args c RX9 cX9_setsFree 3) (C2 : Cy meth c none) {hs : Hs} (a0 : Option Nat) (a1 : Option Nat) (a2 : Int32) (s0 : Int32) (s1 : Int32) (s2 : Option Nat) (rec_7 : Int32 → OO Unit) (hrec_7 : ∀ (y2 : Int32) hs, rec_7 y2 hs = some (o, hs') → WG G p l e { frames := 6, cells := 1, slots := 16, locals := 140 } s m args below meth c 3 1 16 (vx_MQ below (QcT G o hs' tvV) (XCT G o hs') args s 1 16 (gA G)) hs [(0, va_rf a0), (1, va_rf a1), (2, .int y2)] [] 7) (h : j_X9_setsFree_39 a0 a1 a2 s0 s1 s2 rec_7 hs = some (o, hs')) : WG G p l e { frames := 6, cells := 1, slots := 16, locals := 140 } s m args below meth c 3 1 16 (vx_MQ below (QcT G o hs' tvV) (XCT G o hs') args s 1 16 (gA G)) hs [(0, va_rf a0), (1, va_rf a1), (2, .int a2)] [.int s0, .int s1, va_rf s2] 39 := by
  unfold j_X9_setsFree_39 at h
  refine q_zast C dX9_setsFree_39 h (fun hs h => ?_)
  refine q_iinc C 2 (1 : Int32) (fun v7 => [(2, .int v7), (0, va_rf a0), (1, va_rf a1)]) dX9_setsFree_40 rfl (by decide) (by decide) (fun _ => rfl) h (fun v7 h => ?_)
  refine q_goto C 7 dX9_setsFree_43 (by decide) ?_
  refine WG.sub [1, 2, 0] rfl ?_
  exact hrec_7 _ _ h
def j_X9_setsFree_38 (a0 : Option Nat) (a1 : Option Nat) (a2 : Int32) (s0 : Int32) (s1 : Option Nat) (rec_7 : Int32 → OO Unit) : OO Unit :=
  j_X9_setsFree_39 a0 a1 a2 (0 : Int32) s0 s1 rec_7
set_option maxRecDepth 100000 in
set_option maxHeartbeats 4000000 in
theorem w_j_X9_setsFree_38 (C : Cx G l p s m args c RX9 cX9_setsFree 3) (C2 : Cy meth c none) {hs : Hs} (a0 : Option Nat) (a1 : Option Nat) (a2 : Int32) (s0 : Int32) (s1 : Option Nat) (rec_7 : Int32 → OO Unit) (hrec_7 : ∀ (y2 : Int32) hs, rec_7 y2 hs = some (o, hs') → WG G p l e { frames := 6, cells := 1, slots := 16, locals := 140 } s m args below meth c 3 1 16 (vx_MQ below (QcT G o hs' tvV) (XCT G o hs') args s 1 16 (gA G)) hs [(0, va_rf a0), (1, va_rf a1), (2, .int y2)] [] 7) (h : j_X9_setsFree_38 a0 a1 a2 s0 s1 rec_7 hs = some (o, hs')) : WG G p l e { frames := 6, cells := 1, slots := 16, locals := 140 } s m args below meth c 3 1 16 (vx_MQ below (QcT G o hs' tvV) (XCT G o hs') args s 1 16 (gA G)) hs [(0, va_rf a0), (1, va_rf a1), (2, .int a2)] [.int s0, va_rf s1] 38 := by
  unfold j_X9_setsFree_38 at h
  refine q_iconst C (0 : Int32) dX9_setsFree_38 (by decide) ?_
  exact w_j_X9_setsFree_39 C C2 _ _ _ _ _ _ _ hrec_7 h
def L_X9_setsFree_7 (a0 : Option Nat) (a1 : Option Nat) (k_7_46 : OO Unit) : Nat → Int32 → OO Unit
  | 0, _ => failO
  | n + 1, x2 =>
    gI a0 12 24 fun v4 =>
    (if v4 ≤ x2 then
    k_7_46
    else
    gR a0 12 8 fun v5 =>
    ldI 1 v5 x2 fun v6 =>
    (if ¬ v6 = 0 then
    j_X9_setsFree_38 a0 a1 x2 x2 a1 (L_X9_setsFree_7 a0 a1 k_7_46 n)
    else
    rcv a0 12 fun r9 => call (f_X9_isPast r9 x2) (fun (v8 : Int32) =>
    (if ¬ v8 = 0 then
    j_X9_setsFree_38 a0 a1 x2 x2 a1 (L_X9_setsFree_7 a0 a1 k_7_46 n)
    else
    j_X9_setsFree_39 a0 a1 x2 (1 : Int32) x2 a1 (L_X9_setsFree_7 a0 a1 k_7_46 n))) nox))
set_option maxRecDepth 100000 in
set_option maxHeartbeats 4000000 in
theorem w_L_X9_setsFree_7 (C : Cx G l p s m args c RX9 cX9_setsFree 3) (C2 : Cy meth c none) (a0 : Option Nat) (a1 : Option Nat) (k_7_46 : OO Unit) (hk_7_46 : ∀ hs, k_7_46  hs = some (o, hs') → WG G p l e { frames := 6, cells := 1, slots := 16, locals := 140 } s m args below meth c 3 1 16 (vx_MQ below (QcT G o hs' tvV) (XCT G o hs') args s 1 16 (gA G)) hs [(0, va_rf a0), (1, va_rf a1)] [] 46) : ∀ (n : Nat) (x2 : Int32) (hs : Hs), L_X9_setsFree_7 a0 a1 k_7_46 n x2 hs = some (o, hs') → WG G p l e { frames := 6, cells := 1, slots := 16, locals := 140 } s m args below meth c 3 1 16 (vx_MQ below (QcT G o hs' tvV) (XCT G o hs') args s 1 16 (gA G)) hs [(0, va_rf a0), (1, va_rf a1), (2, .int x2)] [] 7 := by
  intro n
  induction n with
  | zero =>
    intro x2 hs h
    rw [L_X9_setsFree_7] at h
    exact absurd h failO_e
  | succ n hrec_7 =>
    intro x2 hs h
    rw [L_X9_setsFree_7] at h
    refine q_iload_n C 2 dX9_setsFree_7 rfl ?_
    refine q_aload_n C 0 dX9_setsFree_8 rfl ?_
    refine q_gI C fl_X9_84 dX9_setsFree_9 h (fun v4 h => ?_)
    refine q_icmp_ge C 46 dX9_setsFree_12 (by decide) h (fun h => ?_) (fun h => ?_)
    · refine WG.sub [0, 1] rfl ?_
      exact hk_7_46 _ h
    · refine q_aload_n C 1 dX9_setsFree_15 rfl ?_
      refine q_iload_n C 2 dX9_setsFree_16 rfl ?_
      refine q_aload_n C 0 dX9_setsFree_17 rfl ?_
      refine q_gR C fl_X9_35 dX9_setsFree_18 h (fun v5 h => ?_)
      refine q_iload_n C 2 dX9_setsFree_21 rfl ?_
      refine q_zald C dX9_setsFree_22 h (fun v6 h => ?_)
      refine q_if_ne C 38 dX9_setsFree_23 (by decide) h (fun h => ?_) (fun h => ?_)
      · exact w_j_X9_setsFree_38 C C2 _ _ _ _ _ _ hrec_7 h
      · refine q_aload_n C 0 dX9_setsFree_26 rfl ?_
        refine q_iload_n C 2 dX9_setsFree_27 rfl ?_
        refine q_callV C (CN := RX9) (T := TX9) (N := 28) [.int x2] [.int x2, va_rf a1] (fun a0 o2 hs1 hm => m_X9_isPast hm) lk_X9_202 im_X9_isPast se_X9_X9_isPast rfl ⟨(Nat.le_of_ble_eq_true rfl), (Nat.le_of_ble_eq_true rfl)⟩ ⟨(Nat.le_of_ble_eq_true rfl), (Nat.le_of_ble_eq_true rfl)⟩ rfl rfl (by simp only [List.map, cat_rf, cat_i, cat_a]; decide) dX9_setsFree_28 h (fun v8 hs h => WG_st (st' := [.int v8, .int x2, va_rf a1]) rfl ?_)
        refine q_if_ne C 38 dX9_setsFree_31 (by decide) h (fun h => ?_) (fun h => ?_)
        · exact w_j_X9_setsFree_38 C C2 _ _ _ _ _ _ hrec_7 h
        · refine q_iconst C (1 : Int32) dX9_setsFree_34 (by decide) ?_
          refine q_goto C 39 dX9_setsFree_35 (by decide) ?_
          exact w_j_X9_setsFree_39 C C2 _ _ _ _ _ _ _ hrec_7 h
def j_X9_setsFree_69 (a0 : Option Nat) (a1 : Option Nat) (a2 : Int32)  (rec_48 : Int32 → OO Unit) : OO Unit :=
  lets (a2 + (1 : Int32)) fun (v13 : Int32) =>
    rec_48 v13
set_option maxRecDepth 100000 in
set_option maxHeartbeats 4000000 in
theorem w_j_X9_setsFree_69 (C : Cx G l p s m args c RX9 cX9_setsFree 3) (C2 : Cy meth c none) {hs : Hs} (a0 : Option Nat) (a1 : Option Nat) (a2 : Int32)  (rec_48 : Int32 → OO Unit) (hrec_48 : ∀ (y2 : Int32) hs, rec_48 y2 hs = some (o, hs') → WG G p l e { frames := 6, cells := 1, slots := 16, locals := 140 } s m args below meth c 3 1 16 (vx_MQ below (QcT G o hs' tvV) (XCT G o hs') args s 1 16 (gA G)) hs [(0, va_rf a0), (1, va_rf a1), (2, .int y2)] [] 48) (h : j_X9_setsFree_69 a0 a1 a2 rec_48 hs = some (o, hs')) : WG G p l e { frames := 6, cells := 1, slots := 16, locals := 140 } s m args below meth c 3 1 16 (vx_MQ below (QcT G o hs' tvV) (XCT G o hs') args s 1 16 (gA G)) hs [(0, va_rf a0), (1, va_rf a1), (2, .int a2)] [] 69 := by
  unfold j_X9_setsFree_69 at h
  refine q_iinc C 2 (1 : Int32) (fun v13 => [(2, .int v13), (0, va_rf a0), (1, va_rf a1)]) dX9_setsFree_69 rfl (by decide) (by decide) (fun _ => rfl) h (fun v13 h => ?_)
  refine q_goto C 48 dX9_setsFree_72 (by decide) ?_
  refine WG.sub [1, 2, 0] rfl ?_
  exact hrec_48 _ _ h
def L_X9_setsFree_48 (a0 : Option Nat) (a1 : Option Nat) (k_48_75 : OO Unit) : Nat → Int32 → OO Unit
  | 0, _ => failO
  | n + 1, x2 =>
    gI a0 12 24 fun v11 =>
    (if v11 ≤ x2 then
    k_48_75
    else
    ldI 1 a1 x2 fun v12 =>
    (if v12 = 0 then
    j_X9_setsFree_69 a0 a1 x2 (L_X9_setsFree_48 a0 a1 k_48_75 n)
    else
    gR a0 12 14 fun v14 =>
    stI v14 x2 (-1 : Int32) (
    j_X9_setsFree_69 a0 a1 x2 (L_X9_setsFree_48 a0 a1 k_48_75 n))))
set_option maxRecDepth 100000 in
set_option maxHeartbeats 4000000 in
theorem w_L_X9_setsFree_48 (C : Cx G l p s m args c RX9 cX9_setsFree 3) (C2 : Cy meth c none) (a0 : Option Nat) (a1 : Option Nat) (k_48_75 : OO Unit) (hk_48_75 : ∀ hs, k_48_75  hs = some (o, hs') → WG G p l e { frames := 6, cells := 1, slots := 16, locals := 140 } s m args below meth c 3 1 16 (vx_MQ below (QcT G o hs' tvV) (XCT G o hs') args s 1 16 (gA G)) hs [(0, va_rf a0), (1, va_rf a1)] [] 75) : ∀ (n : Nat) (x2 : Int32) (hs : Hs), L_X9_setsFree_48 a0 a1 k_48_75 n x2 hs = some (o, hs') → WG G p l e { frames := 6, cells := 1, slots := 16, locals := 140 } s m args below meth c 3 1 16 (vx_MQ below (QcT G o hs' tvV) (XCT G o hs') args s 1 16 (gA G)) hs [(0, va_rf a0), (1, va_rf a1), (2, .int x2)] [] 48 := by
  intro n
  induction n with
  | zero =>
    intro x2 hs h
    rw [L_X9_setsFree_48] at h
    exact absurd h failO_e
  | succ n hrec_48 =>
    intro x2 hs h
    rw [L_X9_setsFree_48] at h
    refine q_iload_n C 2 dX9_setsFree_48 rfl ?_
    refine q_aload_n C 0 dX9_setsFree_49 rfl ?_
    refine q_gI C fl_X9_84 dX9_setsFree_50 h (fun v11 h => ?_)
    refine q_icmp_ge C 75 dX9_setsFree_53 (by decide) h (fun h => ?_) (fun h => ?_)
    · refine WG.sub [0, 1] rfl ?_
      exact hk_48_75 _ h
    · refine q_aload_n C 1 dX9_setsFree_56 rfl ?_
      refine q_iload_n C 2 dX9_setsFree_57 rfl ?_
      refine q_zald C dX9_setsFree_58 h (fun v12 h => ?_)
      refine q_if_eq C 69 dX9_setsFree_59 (by decide) h (fun h => ?_) (fun h => ?_)
      · exact w_j_X9_setsFree_69 C C2 _ _ _ _ hrec_48 h
      · refine q_aload_n C 0 dX9_setsFree_62 rfl ?_
        refine q_gR C fl_X9_53 dX9_setsFree_63 h (fun v14 h => ?_)
        refine q_iload_n C 2 dX9_setsFree_66 rfl ?_
        refine q_iconst C (-1 : Int32) dX9_setsFree_67 (by decide) ?_
        refine q_iast C dX9_setsFree_68 h (fun hs h => ?_)
        exact w_j_X9_setsFree_69 C C2 _ _ _ _ hrec_48 h
def j_X9_setsFree_126 (a0 : Option Nat) (a1 : Option Nat) (a2 : Int32)  (rec_77 : Int32 → OO Unit) : OO Unit :=
  lets (a2 + (1 : Int32)) fun (v18 : Int32) =>
    rec_77 v18
set_option maxRecDepth 100000 in
set_option maxHeartbeats 4000000 in
theorem w_j_X9_setsFree_126 (C : Cx G l p s m args c RX9 cX9_setsFree 3) (C2 : Cy meth c none) {hs : Hs} (a0 : Option Nat) (a1 : Option Nat) (a2 : Int32)  (rec_77 : Int32 → OO Unit) (hrec_77 : ∀ (y2 : Int32) hs, rec_77 y2 hs = some (o, hs') → WG G p l e { frames := 6, cells := 1, slots := 16, locals := 140 } s m args below meth c 3 1 16 (vx_MQ below (QcT G o hs' tvV) (XCT G o hs') args s 1 16 (gA G)) hs [(0, va_rf a0), (1, va_rf a1), (2, .int y2)] [] 77) (h : j_X9_setsFree_126 a0 a1 a2 rec_77 hs = some (o, hs')) : WG G p l e { frames := 6, cells := 1, slots := 16, locals := 140 } s m args below meth c 3 1 16 (vx_MQ below (QcT G o hs' tvV) (XCT G o hs') args s 1 16 (gA G)) hs [(0, va_rf a0), (1, va_rf a1), (2, .int a2)] [] 126 := by
  unfold j_X9_setsFree_126 at h
  refine q_iinc C 2 (1 : Int32) (fun v18 => [(2, .int v18), (0, va_rf a0), (1, va_rf a1)]) dX9_setsFree_126 rfl (by decide) (by decide) (fun _ => rfl) h (fun v18 h => ?_)
  refine q_goto C 77 dX9_setsFree_129 (by decide) ?_
  refine WG.sub [1, 2, 0] rfl ?_
  exact hrec_77 _ _ h
def L_X9_setsFree_77 (a0 : Option Nat) (a1 : Option Nat) (k_77_132 : OO Unit) : Nat → Int32 → OO Unit
  | 0, _ => failO
  | n + 1, x2 =>
    gI a0 12 24 fun v16 =>
    (if v16 ≤ x2 then
    k_77_132
    else
    ldI 1 a1 x2 fun v17 =>
    (if v17 = 0 then
    j_X9_setsFree_126 a0 a1 x2 (L_X9_setsFree_77 a0 a1 k_77_132 n)
    else
    gR a0 12 17 fun v19 =>
    ldI 0 v19 x2 fun v20 =>
    (if v20 < 0 then
    j_X9_setsFree_126 a0 a1 x2 (L_X9_setsFree_77 a0 a1 k_77_132 n)
    else
    gR a0 12 17 fun v21 =>
    ldI 0 v21 x2 fun v22 =>
    rcv a0 12 fun r27 => call (f_X9_isPossible r27 x2 v22) (fun (v23 : Int32) =>
    (if v23 = 0 then
    j_X9_setsFree_126 a0 a1 x2 (L_X9_setsFree_77 a0 a1 k_77_132 n)
    else
    gR a0 12 14 fun v24 =>
    gR a0 12 17 fun v25 =>
    ldI 0 v25 x2 fun v26 =>
    stI v24 x2 v26 (
    j_X9_setsFree_126 a0 a1 x2 (L_X9_setsFree_77 a0 a1 k_77_132 n)))) nox)))
set_option maxRecDepth 100000 in
set_option maxHeartbeats 4000000 in
theorem w_L_X9_setsFree_77 (C : Cx G l p s m args c RX9 cX9_setsFree 3) (C2 : Cy meth c none) (a0 : Option Nat) (a1 : Option Nat) (k_77_132 : OO Unit) (hk_77_132 : ∀ hs, k_77_132  hs = some (o, hs') → WG G p l e { frames := 6, cells := 1, slots := 16, locals := 140 } s m args below meth c 3 1 16 (vx_MQ below (QcT G o hs' tvV) (XCT G o hs') args s 1 16 (gA G)) hs [] [] 132) : ∀ (n : Nat) (x2 : Int32) (hs : Hs), L_X9_setsFree_77 a0 a1 k_77_132 n x2 hs = some (o, hs') → WG G p l e { frames := 6, cells := 1, slots := 16, locals := 140 } s m args below meth c 3 1 16 (vx_MQ below (QcT G o hs' tvV) (XCT G o hs') args s 1 16 (gA G)) hs [(0, va_rf a0), (1, va_rf a1), (2, .int x2)] [] 77 := by
  intro n
  induction n with
  | zero =>
    intro x2 hs h
    rw [L_X9_setsFree_77] at h
    exact absurd h failO_e
  | succ n hrec_77 =>
    intro x2 hs h
    rw [L_X9_setsFree_77] at h
    refine q_iload_n C 2 dX9_setsFree_77 rfl ?_
    refine q_aload_n C 0 dX9_setsFree_78 rfl ?_
    refine q_gI C fl_X9_84 dX9_setsFree_79 h (fun v16 h => ?_)
    refine q_icmp_ge C 132 dX9_setsFree_82 (by decide) h (fun h => ?_) (fun h => ?_)
    · refine WG.sub [] rfl ?_
      exact hk_77_132 _ h
    · refine q_aload_n C 1 dX9_setsFree_85 rfl ?_
      refine q_iload_n C 2 dX9_setsFree_86 rfl ?_
      refine q_zald C dX9_setsFree_87 h (fun v17 h => ?_)
      refine q_if_eq C 126 dX9_setsFree_88 (by decide) h (fun h => ?_) (fun h => ?_)
      · exact w_j_X9_setsFree_126 C C2 _ _ _ _ hrec_77 h
      · refine q_aload_n C 0 dX9_setsFree_91 rfl ?_
        refine q_gR C fl_X9_62 dX9_setsFree_92 h (fun v19 h => ?_)
        refine q_iload_n C 2 dX9_setsFree_95 rfl ?_
        refine q_iald C dX9_setsFree_96 h (fun v20 h => ?_)
        refine q_if_lt C 126 dX9_setsFree_97 (by decide) h (fun h => ?_) (fun h => ?_)
        · exact w_j_X9_setsFree_126 C C2 _ _ _ _ hrec_77 h
        · refine q_aload_n C 0 dX9_setsFree_100 rfl ?_
          refine q_iload_n C 2 dX9_setsFree_101 rfl ?_
          refine q_aload_n C 0 dX9_setsFree_102 rfl ?_
          refine q_gR C fl_X9_62 dX9_setsFree_103 h (fun v21 h => ?_)
          refine q_iload_n C 2 dX9_setsFree_106 rfl ?_
          refine q_iald C dX9_setsFree_107 h (fun v22 h => ?_)
          refine q_callV C (CN := RX9) (T := TX9) (N := 28) [.int x2, .int v22] [] (fun a0 o2 hs1 hm => m_X9_isPossible hm) lk_X9_193 im_X9_isPossible se_X9_X9_isPossible rfl ⟨(Nat.le_of_ble_eq_true rfl), (Nat.le_of_ble_eq_true rfl)⟩ ⟨(Nat.le_of_ble_eq_true rfl), (Nat.le_of_ble_eq_true rfl)⟩ rfl rfl (by decide) dX9_setsFree_108 h (fun v23 hs h => WG_st (st' := [.int v23]) rfl ?_)
          refine q_if_eq C 126 dX9_setsFree_111 (by decide) h (fun h => ?_) (fun h => ?_)
          · exact w_j_X9_setsFree_126 C C2 _ _ _ _ hrec_77 h
          · refine q_aload_n C 0 dX9_setsFree_114 rfl ?_
            refine q_gR C fl_X9_53 dX9_setsFree_115 h (fun v24 h => ?_)
            refine q_iload_n C 2 dX9_setsFree_118 rfl ?_
            refine q_aload_n C 0 dX9_setsFree_119 rfl ?_
            refine q_gR C fl_X9_62 dX9_setsFree_120 h (fun v25 h => ?_)
            refine q_iload_n C 2 dX9_setsFree_123 rfl ?_
            refine q_iald C dX9_setsFree_124 h (fun v26 h => ?_)
            refine q_iast C dX9_setsFree_125 h (fun hs h => ?_)
            exact w_j_X9_setsFree_126 C C2 _ _ _ _ hrec_77 h
end M_X9_setsFree
def f_X9_setsFree (a0 : Nat) : OO Unit :=
    nwI 1 (16 : Int32) 16 fun q1 =>
    lets (some q1) fun (v2 : Option Nat) =>
    lets (0 : Int32) fun (v3 : Int32) =>
    L_X9_setsFree_7 (some a0) v2 (lets (0 : Int32) fun (v10 : Int32) =>
    L_X9_setsFree_48 (some a0) v2 (lets (0 : Int32) fun (v15 : Int32) =>
    L_X9_setsFree_77 (some a0) v2 (rtn ()) 100000 v15) 100000 v10) 100000 v3
set_option maxRecDepth 100000 in
set_option maxHeartbeats 4000000 in
theorem m_X9_setsFree {G : GG} {l : Launch} {a0 : Nat} {hs hs' : Hs} {o : Except Nat Unit} (h : f_X9_setsFree a0 hs = some (o, hs')) : CT G l yX9_setsFree cX9_setsFree 3 none 6 140 1 16 [.ref a0] hs o hs' tvV := by
  refine vx_ofW (cc := cX9_setsFree) (maxL := 3) (ret := none) (by decide +kernel) rfl ?_
  intro p e s m args below meth c s₁ B hml hxt hv
  obtain ⟨hav, hR, hKn⟩ := hv
  subst hav
  have hts := atoms_spec (ws := .code yX9_setsFree cX9_setsFree 3 none :: Tg) B.pre
  have C : Cx G l p s m _ c RX9 cX9_setsFree 3 := ⟨B.exec, B.bytes, hml, findClass_of_methodNamed B.named, fun w hw => hts w (List.mem_cons_of_mem _ hw), hKn, fun q hq => Nat.le_trans hR.2.2.1 hq⟩
  have C2 : Cy meth c none := ⟨B.returns, B.notSynchronized, hxt⟩
  have key : WG G p l e { frames := 6, cells := 1, slots := 16, locals := 140 } s m ([.ref a0] : List Value).toArray below meth c 3 0 0 (vx_MQ below (QcT G o hs' tvV) (XCT G o hs') ([.ref a0] : List Value).toArray s 1 16 (gA G)) hs [(0, va_rf (some a0))] [] 0 := by
    unfold f_X9_setsFree at h
    refine q_bipush C (16 : Int32) dX9_setsFree_0 (by decide) ?_
    refine q_newZ C 16 (Nat.le_of_ble_eq_true rfl) ac_1 (Nat.le_of_ble_eq_true rfl) (Nat.le_of_ble_eq_true rfl) dX9_setsFree_2 h (fun q1 hs h => ?_)
    refine q_astore_n C (fun v2 => [(1, va_rf v2), (0, va_rf (some a0))]) dX9_setsFree_4 (by decide) (fun _ => rfl) h (fun v2 h => ?_)
    refine q_iconst C (0 : Int32) dX9_setsFree_5 (by decide) ?_
    refine q_istore_n C (fun v3 => [(2, .int v3), (1, va_rf v2), (0, va_rf (some a0))]) dX9_setsFree_6 (by decide) (fun _ => rfl) h (fun v3 h => ?_)
    refine WG.sub [2, 1, 0] rfl ?_
    refine w_L_X9_setsFree_7 C C2 _ _ _ ?_ _ _ _ h
    · intro  hs h
      refine q_iconst C (0 : Int32) dX9_setsFree_46 (by decide) ?_
      refine q_istore_n C (fun v10 => [(2, .int v10), (0, va_rf (some a0)), (1, va_rf v2)]) dX9_setsFree_47 (by decide) (fun _ => rfl) h (fun v10 h => ?_)
      refine WG.sub [1, 2, 0] rfl ?_
      refine w_L_X9_setsFree_48 C C2 _ _ _ ?_ _ _ _ h
      · intro  hs h
        refine q_iconst C (0 : Int32) dX9_setsFree_75 (by decide) ?_
        refine q_istore_n C (fun v15 => [(2, .int v15), (0, va_rf (some a0)), (1, va_rf v2)]) dX9_setsFree_76 (by decide) (fun _ => rfl) h (fun v15 h => ?_)
        refine WG.sub [1, 2, 0] rfl ?_
        refine w_L_X9_setsFree_77 C C2 _ _ _ ?_ _ _ _ h
        · intro  hs h
          exact q_vret C C2 rfl (Nat.le_of_ble_eq_true rfl) (Nat.le_of_ble_eq_true rfl) dX9_setsFree_132 h
  rw [lg_entry_eq]
  exact key _ _ _ hR va_S.rf ⟨lv_entry _ (n := 3) (Nat.le_of_ble_eq_true rfl), (c1_r c1_n)⟩

theorem cd_X9_restore : Cond.code yX9_restore cX9_restore 4 (some .int) ∈ Tg := Tg_of (i := 1922) (by decide +kernel) (by decide +kernel)
theorem ml_X9_254 : Cond.methodLink RX9 254 yX9_setsFree ∈ Tg := Tg_of (i := 1923) (by decide +kernel) (by decide +kernel)
theorem lk_X9_254 : Lk RX9 254 yX9_setsFree cX9_setsFree 3 none 0 := ⟨ml_X9_254, cd_X9_setsFree, iw_X9, by decide +kernel⟩
theorem im_X9_setsFree : Cond.instanceMethod yX9_setsFree ∈ Tg := Tg_of (i := 1925) (by decide +kernel) (by decide +kernel)
theorem se_X9_X9_setsFree : Cond.selects RX9 yX9_setsFree yX9_setsFree ∈ Tg := Tg_of (i := 78) (by decide +kernel) (by decide +kernel)
section M_X9_restore
variable {p : Program} {l : Launch} {e : Env} {s : State} {m : MethodId} {args : Array Value} {below : List Frame} {meth : Method} {c : Code} {G : GG} {o : Except Nat Int32} {hs' : Hs}
def L_X9_restore_16 (a0 : Option Nat) (a1 : Int32) (k_16_45 : OO Int32) : Nat → Int32 → OO Int32
  | 0, _ => failO
  | n + 1, x2 =>
    (if (16 : Int32) ≤ x2 then
    k_16_45
    else
    gR a0 12 17 fun v4 =>
    gR a0 12 16 fun v5 =>
    ldI 0 v5 (((16 : Int32) * a1) + x2) fun v6 =>
    stI v4 x2 v6 (
    lets (x2 + (1 : Int32)) fun (v7 : Int32) =>
    (L_X9_restore_16 a0 a1 k_16_45 n) v7))
set_option maxRecDepth 100000 in
set_option maxHeartbeats 4000000 in
theorem w_L_X9_restore_16 (C : Cx G l p s m args c RX9 cX9_restore 4) (C2 : Cy meth c (some .int)) (a0 : Option Nat) (a1 : Int32) (k_16_45 : OO Int32) (hk_16_45 : ∀ hs, k_16_45  hs = some (o, hs') → WG G p l e { frames := 7, cells := 1, slots := 16, locals := 162 } s m args below meth c 4 0 0 (vx_MQ below (QcT G o hs' tvI) (XCT G o hs') args s 1 16 (gA G)) hs [(0, va_rf a0), (1, .int a1)] [] 45) : ∀ (n : Nat) (x2 : Int32) (hs : Hs), L_X9_restore_16 a0 a1 k_16_45 n x2 hs = some (o, hs') → WG G p l e { frames := 7, cells := 1, slots := 16, locals := 162 } s m args below meth c 4 0 0 (vx_MQ below (QcT G o hs' tvI) (XCT G o hs') args s 1 16 (gA G)) hs [(0, va_rf a0), (1, .int a1), (2, .int x2)] [] 16 := by
  intro n
  induction n with
  | zero =>
    intro x2 hs h
    rw [L_X9_restore_16] at h
    exact absurd h failO_e
  | succ n hrec_16 =>
    intro x2 hs h
    rw [L_X9_restore_16] at h
    refine q_iload_n C 2 dX9_restore_16 rfl ?_
    refine q_bipush C (16 : Int32) dX9_restore_17 (by decide) ?_
    refine q_icmp_ge C 45 dX9_restore_19 (by decide) h (fun h => ?_) (fun h => ?_)
    · refine WG.sub [0, 1] rfl ?_
      exact hk_16_45 _ h
    · refine q_aload_n C 0 dX9_restore_22 rfl ?_
      refine q_gR C fl_X9_62 dX9_restore_23 h (fun v4 h => ?_)
      refine q_iload_n C 2 dX9_restore_26 rfl ?_
      refine q_aload_n C 0 dX9_restore_27 rfl ?_
      refine q_gR C fl_X9_59 dX9_restore_28 h (fun v5 h => ?_)
      refine q_bipush C (16 : Int32) dX9_restore_31 (by decide) ?_
      refine q_iload_n C 1 dX9_restore_33 rfl ?_
      refine q_imul C dX9_restore_34 ?_
      refine q_iload_n C 2 dX9_restore_35 rfl ?_
      refine q_iadd C dX9_restore_36 ?_
      refine q_iald C dX9_restore_37 h (fun v6 h => ?_)
      refine q_iast C dX9_restore_38 h (fun hs h => ?_)
      refine q_iinc C 2 (1 : Int32) (fun v7 => [(2, .int v7), (0, va_rf a0), (1, .int a1)]) dX9_restore_39 rfl (by decide) (by decide) (fun _ => rfl) h (fun v7 h => ?_)
      refine q_goto C 16 dX9_restore_42 (by decide) ?_
      refine WG.sub [1, 2, 0] rfl ?_
      exact hrec_16 _ _ h
def j_X9_restore_87 (a0 : Option Nat) (a1 : Int32) (a3 : Int32) (s0 : Int32) (s1 : Int32) (rec_53 : Int32 → Int32 → OO Int32) : OO Int32 :=
  lets (s1 + s0) fun (v16 : Int32) =>
    lets (a3 + (1 : Int32)) fun (v17 : Int32) =>
    rec_53 v16 v17
set_option maxRecDepth 100000 in
set_option maxHeartbeats 4000000 in
theorem w_j_X9_restore_87 (C : Cx G l p s m args c RX9 cX9_restore 4) (C2 : Cy meth c (some .int)) {hs : Hs} (a0 : Option Nat) (a1 : Int32) (a3 : Int32) (s0 : Int32) (s1 : Int32) (rec_53 : Int32 → Int32 → OO Int32) (hrec_53 : ∀ (y2 : Int32) (y3 : Int32) hs, rec_53 y2 y3 hs = some (o, hs') → WG G p l e { frames := 7, cells := 1, slots := 16, locals := 162 } s m args below meth c 4 1 16 (vx_MQ below (QcT G o hs' tvI) (XCT G o hs') args s 1 16 (gA G)) hs [(0, va_rf a0), (1, .int a1), (2, .int y2), (3, .int y3)] [] 53) (h : j_X9_restore_87 a0 a1 a3 s0 s1 rec_53 hs = some (o, hs')) : WG G p l e { frames := 7, cells := 1, slots := 16, locals := 162 } s m args below meth c 4 1 16 (vx_MQ below (QcT G o hs' tvI) (XCT G o hs') args s 1 16 (gA G)) hs [(0, va_rf a0), (1, .int a1), (3, .int a3)] [.int s0, .int s1] 87 := by
  unfold j_X9_restore_87 at h
  refine q_iadd C dX9_restore_87 ?_
  refine q_istore_n C (fun v16 => [(2, .int v16), (0, va_rf a0), (1, .int a1), (3, .int a3)]) dX9_restore_88 (by decide) (fun _ => rfl) h (fun v16 h => ?_)
  refine q_iinc C 3 (1 : Int32) (fun v17 => [(3, .int v17), (2, .int v16), (0, va_rf a0), (1, .int a1)]) dX9_restore_89 rfl (by decide) (by decide) (fun _ => rfl) h (fun v17 h => ?_)
  refine q_goto C 53 dX9_restore_92 (by decide) ?_
  refine WG.sub [2, 3, 1, 0] rfl ?_
  exact hrec_53 _ _ _ h
def L_X9_restore_53 (a0 : Option Nat) (a1 : Int32) (k_53_95 : Int32 → OO Int32) : Nat → Int32 → Int32 → OO Int32
  | 0, _, _ => failO
  | n + 1, x2, x3 =>
    gI a0 12 24 fun v11 =>
    (if v11 ≤ x3 then
    k_53_95 x2
    else
    gR a0 12 14 fun v12 =>
    ldI 0 v12 x3 fun v13 =>
    gR a0 12 16 fun v14 =>
    ldI 0 v14 (((16 : Int32) * a1) + x3) fun v15 =>
    (if v13 = v15 then
    j_X9_restore_87 a0 a1 x3 (0 : Int32) x2 (L_X9_restore_53 a0 a1 k_53_95 n)
    else
    j_X9_restore_87 a0 a1 x3 (1 : Int32) x2 (L_X9_restore_53 a0 a1 k_53_95 n)))
set_option maxRecDepth 100000 in
set_option maxHeartbeats 4000000 in
theorem w_L_X9_restore_53 (C : Cx G l p s m args c RX9 cX9_restore 4) (C2 : Cy meth c (some .int)) (a0 : Option Nat) (a1 : Int32) (k_53_95 : Int32 → OO Int32) (hk_53_95 : ∀ (y2 : Int32) hs, k_53_95 y2 hs = some (o, hs') → WG G p l e { frames := 7, cells := 1, slots := 16, locals := 162 } s m args below meth c 4 1 16 (vx_MQ below (QcT G o hs' tvI) (XCT G o hs') args s 1 16 (gA G)) hs [(2, .int y2)] [] 95) : ∀ (n : Nat) (x2 : Int32) (x3 : Int32) (hs : Hs), L_X9_restore_53 a0 a1 k_53_95 n x2 x3 hs = some (o, hs') → WG G p l e { frames := 7, cells := 1, slots := 16, locals := 162 } s m args below meth c 4 1 16 (vx_MQ below (QcT G o hs' tvI) (XCT G o hs') args s 1 16 (gA G)) hs [(0, va_rf a0), (1, .int a1), (2, .int x2), (3, .int x3)] [] 53 := by
  intro n
  induction n with
  | zero =>
    intro x2 x3 hs h
    rw [L_X9_restore_53] at h
    exact absurd h failO_e
  | succ n hrec_53 =>
    intro x2 x3 hs h
    rw [L_X9_restore_53] at h
    refine q_iload_n C 3 dX9_restore_53 rfl ?_
    refine q_aload_n C 0 dX9_restore_54 rfl ?_
    refine q_gI C fl_X9_84 dX9_restore_55 h (fun v11 h => ?_)
    refine q_icmp_ge C 95 dX9_restore_58 (by decide) h (fun h => ?_) (fun h => ?_)
    · refine WG.sub [2] rfl ?_
      exact hk_53_95 _ _ h
    · refine q_iload_n C 2 dX9_restore_61 rfl ?_
      refine q_aload_n C 0 dX9_restore_62 rfl ?_
      refine q_gR C fl_X9_53 dX9_restore_63 h (fun v12 h => ?_)
      refine q_iload_n C 3 dX9_restore_66 rfl ?_
      refine q_iald C dX9_restore_67 h (fun v13 h => ?_)
      refine q_aload_n C 0 dX9_restore_68 rfl ?_
      refine q_gR C fl_X9_59 dX9_restore_69 h (fun v14 h => ?_)
      refine q_bipush C (16 : Int32) dX9_restore_72 (by decide) ?_
      refine q_iload_n C 1 dX9_restore_74 rfl ?_
      refine q_imul C dX9_restore_75 ?_
      refine q_iload_n C 3 dX9_restore_76 rfl ?_
      refine q_iadd C dX9_restore_77 ?_
      refine q_iald C dX9_restore_78 h (fun v15 h => ?_)
      refine q_icmp_eq C 86 dX9_restore_79 (by decide) h (fun h => ?_) (fun h => ?_)
      · refine q_iconst C (0 : Int32) dX9_restore_86 (by decide) ?_
        refine WG.sub [0, 1, 3] rfl ?_
        exact w_j_X9_restore_87 C C2 _ _ _ _ _ _ hrec_53 h
      · refine q_iconst C (1 : Int32) dX9_restore_82 (by decide) ?_
        refine q_goto C 87 dX9_restore_83 (by decide) ?_
        refine WG.sub [0, 1, 3] rfl ?_
        exact w_j_X9_restore_87 C C2 _ _ _ _ _ _ hrec_53 h
end M_X9_restore
def f_X9_restore (a0 : Nat) (p1 : Int32) : OO Int32 :=
    rcv (some a0) 12 fun r21 => call (f_X9_isVersion r21 p1) (fun (v1 : Int32) =>
    rcv (some a0) 12 fun r20 => call (f_X9_checked r20 v1) (fun (v2 : Int32) =>
    (if v2 ≤ 0 then
    lets (0 : Int32) fun (v3 : Int32) =>
    L_X9_restore_16 (some a0) p1 (rcv (some a0) 12 fun r19 => call (f_X9_setsFree r19 ) (fun (v8 : Unit) =>
    lets (0 : Int32) fun (v9 : Int32) =>
    lets (0 : Int32) fun (v10 : Int32) =>
    L_X9_restore_53 (some a0) p1 (fun (v18 : Int32) => rtn v18) 100000 v9 v10) nox) 100000 v3
    else
    rtn (0 : Int32))) nox) nox
set_option maxRecDepth 100000 in
set_option maxHeartbeats 4000000 in
theorem m_X9_restore {G : GG} {l : Launch} {a0 : Nat} {p1 : Int32} {hs hs' : Hs} {o : Except Nat Int32} (h : f_X9_restore a0 p1 hs = some (o, hs')) : CT G l yX9_restore cX9_restore 4 (some .int) 7 162 1 16 [.ref a0, .int p1] hs o hs' tvI := by
  refine vx_ofW (cc := cX9_restore) (maxL := 4) (ret := (some .int)) (by decide +kernel) rfl ?_
  intro p e s m args below meth c s₁ B hml hxt hv
  obtain ⟨hav, hR, hKn⟩ := hv
  subst hav
  have hts := atoms_spec (ws := .code yX9_restore cX9_restore 4 (some .int) :: Tg) B.pre
  have C : Cx G l p s m _ c RX9 cX9_restore 4 := ⟨B.exec, B.bytes, hml, findClass_of_methodNamed B.named, fun w hw => hts w (List.mem_cons_of_mem _ hw), hKn, fun q hq => Nat.le_trans hR.2.2.1 hq⟩
  have C2 : Cy meth c (some .int) := ⟨B.returns, B.notSynchronized, hxt⟩
  have key : WG G p l e { frames := 7, cells := 1, slots := 16, locals := 162 } s m ([.ref a0, .int p1] : List Value).toArray below meth c 4 0 0 (vx_MQ below (QcT G o hs' tvI) (XCT G o hs') ([.ref a0, .int p1] : List Value).toArray s 1 16 (gA G)) hs [(0, va_rf (some a0)), (1, .int p1)] [] 0 := by
    unfold f_X9_restore at h
    refine q_aload_n C 0 dX9_restore_0 rfl ?_
    refine q_aload_n C 0 dX9_restore_1 rfl ?_
    refine q_iload_n C 1 dX9_restore_2 rfl ?_
    refine q_callV C (CN := RX9) (T := TX9) (N := 28) [.int p1] [va_rf (some a0)] (fun a0 o2 hs1 hm => m_X9_isVersion hm) lk_X9_251 im_X9_isVersion se_X9_X9_isVersion rfl ⟨(Nat.le_of_ble_eq_true rfl), (Nat.le_of_ble_eq_true rfl)⟩ ⟨(Nat.le_of_ble_eq_true rfl), (Nat.le_of_ble_eq_true rfl)⟩ rfl rfl (by simp only [List.map, cat_rf, cat_i, cat_a]; decide) dX9_restore_3 h (fun v1 hs h => WG_st (st' := [.int v1, va_rf (some a0)]) rfl ?_)
    refine q_callV C (CN := RX9) (T := TX9) (N := 28) [.int v1] [] (fun a0 o2 hs1 hm => m_X9_checked hm) lk_X9_110 im_X9_checked se_X9_X9_checked rfl ⟨(Nat.le_of_ble_eq_true rfl), (Nat.le_of_ble_eq_true rfl)⟩ ⟨(Nat.le_of_ble_eq_true rfl), (Nat.le_of_ble_eq_true rfl)⟩ rfl rfl (by decide) dX9_restore_6 h (fun v2 hs h => WG_st (st' := [.int v2]) rfl ?_)
    refine q_if_le C 14 dX9_restore_9 (by decide) h (fun h => ?_) (fun h => ?_)
    · refine q_iconst C (0 : Int32) dX9_restore_14 (by decide) ?_
      refine q_istore_n C (fun v3 => [(2, .int v3), (0, va_rf (some a0)), (1, .int p1)]) dX9_restore_15 (by decide) (fun _ => rfl) h (fun v3 h => ?_)
      refine WG.sub [1, 2, 0] rfl ?_
      refine w_L_X9_restore_16 C C2 _ _ _ ?_ _ _ _ h
      · intro  hs h
        refine q_aload_n C 0 dX9_restore_45 rfl ?_
        refine q_callV C (CN := RX9) (T := TX9) (N := 28) [] [] (fun a0 o2 hs1 hm => m_X9_setsFree hm) lk_X9_254 im_X9_setsFree se_X9_X9_setsFree rfl ⟨(Nat.le_of_ble_eq_true rfl), (Nat.le_of_ble_eq_true rfl)⟩ ⟨(Nat.le_of_ble_eq_true rfl), (Nat.le_of_ble_eq_true rfl)⟩ rfl rfl (by decide) dX9_restore_46 h (fun v8 hs h => WG_st (st' := []) rfl ?_)
        refine q_iconst C (0 : Int32) dX9_restore_49 (by decide) ?_
        refine q_istore_n C (fun v9 => [(2, .int v9), (0, va_rf (some a0)), (1, .int p1)]) dX9_restore_50 (by decide) (fun _ => rfl) h (fun v9 h => ?_)
        refine q_iconst C (0 : Int32) dX9_restore_51 (by decide) ?_
        refine q_istore_n C (fun v10 => [(3, .int v10), (2, .int v9), (0, va_rf (some a0)), (1, .int p1)]) dX9_restore_52 (by decide) (fun _ => rfl) h (fun v10 h => ?_)
        refine WG.sub [2, 3, 1, 0] rfl ?_
        refine w_L_X9_restore_53 C C2 _ _ _ ?_ _ _ _ _ h
        · intro v18 hs h
          refine q_iload_n C 0 dX9_restore_95 rfl ?_
          exact q_iret C C2 rfl (Nat.le_of_ble_eq_true rfl) (Nat.le_of_ble_eq_true rfl) dX9_restore_96 h
    · refine q_iconst C (0 : Int32) dX9_restore_12 (by decide) ?_
      exact q_iret C C2 rfl (Nat.le_of_ble_eq_true rfl) (Nat.le_of_ble_eq_true rfl) dX9_restore_13 h
  rw [lg_entry_eq]
  exact key _ _ _ hR va_S.rf ⟨lv_entry _ (n := 4) (Nat.le_of_ble_eq_true rfl), (c1_r (c1_i c1_n))⟩

theorem cd_X9_merge : Cond.code yX9_merge cX9_merge 7 (some .int) ∈ Tg := Tg_of (i := 1930) (by decide +kernel) (by decide +kernel)
section M_X9_merge
variable {p : Program} {l : Launch} {e : Env} {s : State} {m : MethodId} {args : Array Value} {below : List Frame} {meth : Method} {c : Code} {G : GG} {o : Except Nat Int32} {hs' : Hs}
def j_X9_merge_147 (a0 : Option Nat) (a1 : Int32) (a2 : Int32) (a4 : Int32) (s0 : Int32) (s1 : Int32) (rec_35 : Int32 → Int32 → OO Int32) : OO Int32 :=
  lets (s1 + s0) fun (v15 : Int32) =>
    lets (a4 + (1 : Int32)) fun (v16 : Int32) =>
    rec_35 v15 v16
set_option maxRecDepth 100000 in
set_option maxHeartbeats 4000000 in
theorem w_j_X9_merge_147 (C : Cx G l p s m args c RX9 cX9_merge 7) (C2 : Cy meth c (some .int)) {hs : Hs} (a0 : Option Nat) (a1 : Int32) (a2 : Int32) (a4 : Int32) (s0 : Int32) (s1 : Int32) (rec_35 : Int32 → Int32 → OO Int32) (hrec_35 : ∀ (y3 : Int32) (y4 : Int32) hs, rec_35 y3 y4 hs = some (o, hs') → WG G p l e { frames := 7, cells := 1, slots := 16, locals := 162 } s m args below meth c 7 0 0 (vx_MQ below (QcT G o hs' tvI) (XCT G o hs') args s 1 16 (gA G)) hs [(0, va_rf a0), (1, .int a1), (2, .int a2), (3, .int y3), (4, .int y4)] [] 35) (h : j_X9_merge_147 a0 a1 a2 a4 s0 s1 rec_35 hs = some (o, hs')) : WG G p l e { frames := 7, cells := 1, slots := 16, locals := 162 } s m args below meth c 7 0 0 (vx_MQ below (QcT G o hs' tvI) (XCT G o hs') args s 1 16 (gA G)) hs [(0, va_rf a0), (1, .int a1), (2, .int a2), (4, .int a4)] [.int s0, .int s1] 147 := by
  unfold j_X9_merge_147 at h
  refine q_iadd C dX9_merge_147 ?_
  refine q_istore_n C (fun v15 => [(3, .int v15), (0, va_rf a0), (1, .int a1), (2, .int a2), (4, .int a4)]) dX9_merge_148 (by decide) (fun _ => rfl) h (fun v15 h => ?_)
  refine q_iinc C 4 (1 : Int32) (fun v16 => [(4, .int v16), (3, .int v15), (0, va_rf a0), (1, .int a1), (2, .int a2)]) dX9_merge_149 rfl (by decide) (by decide) (fun _ => rfl) h (fun v16 h => ?_)
  refine q_goto C 35 dX9_merge_152 (by decide) ?_
  refine WG.sub [2, 3, 4, 1, 0] rfl ?_
  exact hrec_35 _ _ _ h
def j_X9_merge_146 (a0 : Option Nat) (a1 : Int32) (a2 : Int32) (a4 : Int32) (s0 : Int32) (rec_35 : Int32 → Int32 → OO Int32) : OO Int32 :=
  j_X9_merge_147 a0 a1 a2 a4 (0 : Int32) s0 rec_35
set_option maxRecDepth 100000 in
set_option maxHeartbeats 4000000 in
theorem w_j_X9_merge_146 (C : Cx G l p s m args c RX9 cX9_merge 7) (C2 : Cy meth c (some .int)) {hs : Hs} (a0 : Option Nat) (a1 : Int32) (a2 : Int32) (a4 : Int32) (s0 : Int32) (rec_35 : Int32 → Int32 → OO Int32) (hrec_35 : ∀ (y3 : Int32) (y4 : Int32) hs, rec_35 y3 y4 hs = some (o, hs') → WG G p l e { frames := 7, cells := 1, slots := 16, locals := 162 } s m args below meth c 7 0 0 (vx_MQ below (QcT G o hs' tvI) (XCT G o hs') args s 1 16 (gA G)) hs [(0, va_rf a0), (1, .int a1), (2, .int a2), (3, .int y3), (4, .int y4)] [] 35) (h : j_X9_merge_146 a0 a1 a2 a4 s0 rec_35 hs = some (o, hs')) : WG G p l e { frames := 7, cells := 1, slots := 16, locals := 162 } s m args below meth c 7 0 0 (vx_MQ below (QcT G o hs' tvI) (XCT G o hs') args s 1 16 (gA G)) hs [(0, va_rf a0), (1, .int a1), (2, .int a2), (4, .int a4)] [.int s0] 146 := by
  unfold j_X9_merge_146 at h
  refine q_iconst C (0 : Int32) dX9_merge_146 (by decide) ?_
  exact w_j_X9_merge_147 C C2 _ _ _ _ _ _ _ hrec_35 h
def j_X9_merge_109 (a0 : Option Nat) (a1 : Int32) (a2 : Int32) (a3 : Int32) (a4 : Int32) (a5 : Int32) (a6 : Int32) (s0 : Int32) (s1 : Int32) (s2 : Option Nat) (rec_35 : Int32 → Int32 → OO Int32) : OO Int32 :=
  stI s2 s1 s0 (
    (if a6 = a5 then
    j_X9_merge_146 a0 a1 a2 a4 a3 rec_35
    else
    gR a0 12 14 fun v17 =>
    ldI 0 v17 a4 fun v18 =>
    (if v18 = a5 then
    j_X9_merge_146 a0 a1 a2 a4 a3 rec_35
    else
    gR a0 12 14 fun v19 =>
    ldI 0 v19 a4 fun v20 =>
    (if v20 = a6 then
    j_X9_merge_146 a0 a1 a2 a4 a3 rec_35
    else
    j_X9_merge_147 a0 a1 a2 a4 (1 : Int32) a3 rec_35))))
set_option maxRecDepth 100000 in
set_option maxHeartbeats 4000000 in
theorem w_j_X9_merge_109 (C : Cx G l p s m args c RX9 cX9_merge 7) (C2 : Cy meth c (some .int)) {hs : Hs} (a0 : Option Nat) (a1 : Int32) (a2 : Int32) (a3 : Int32) (a4 : Int32) (a5 : Int32) (a6 : Int32) (s0 : Int32) (s1 : Int32) (s2 : Option Nat) (rec_35 : Int32 → Int32 → OO Int32) (hrec_35 : ∀ (y3 : Int32) (y4 : Int32) hs, rec_35 y3 y4 hs = some (o, hs') → WG G p l e { frames := 7, cells := 1, slots := 16, locals := 162 } s m args below meth c 7 0 0 (vx_MQ below (QcT G o hs' tvI) (XCT G o hs') args s 1 16 (gA G)) hs [(0, va_rf a0), (1, .int a1), (2, .int a2), (3, .int y3), (4, .int y4)] [] 35) (h : j_X9_merge_109 a0 a1 a2 a3 a4 a5 a6 s0 s1 s2 rec_35 hs = some (o, hs')) : WG G p l e { frames := 7, cells := 1, slots := 16, locals := 162 } s m args below meth c 7 0 0 (vx_MQ below (QcT G o hs' tvI) (XCT G o hs') args s 1 16 (gA G)) hs [(0, va_rf a0), (1, .int a1), (2, .int a2), (3, .int a3), (4, .int a4), (5, .int a5), (6, .int a6)] [.int s0, .int s1, va_rf s2] 109 := by
  unfold j_X9_merge_109 at h
  refine q_iast C dX9_merge_109 h (fun hs h => ?_)
  refine q_iload_n C 3 dX9_merge_110 rfl ?_
  refine q_iload C 6 dX9_merge_111 rfl ?_
  refine q_iload C 5 dX9_merge_113 rfl ?_
  refine q_icmp_eq C 146 dX9_merge_115 (by decide) h (fun h => ?_) (fun h => ?_)
  · refine WG.sub [0, 1, 2, 4] rfl ?_
    exact w_j_X9_merge_146 C C2 _ _ _ _ _ _ hrec_35 h
  · refine q_aload_n C 0 dX9_merge_118 rfl ?_
    refine q_gR C fl_X9_53 dX9_merge_119 h (fun v17 h => ?_)
    refine q_iload C 4 dX9_merge_122 rfl ?_
    refine q_iald C dX9_merge_124 h (fun v18 h => ?_)
    refine q_iload C 5 dX9_merge_125 rfl ?_
    refine q_icmp_eq C 146 dX9_merge_127 (by decide) h (fun h => ?_) (fun h => ?_)
    · refine WG.sub [0, 1, 2, 4] rfl ?_
      exact w_j_X9_merge_146 C C2 _ _ _ _ _ _ hrec_35 h
    · refine q_aload_n C 0 dX9_merge_130 rfl ?_
      refine q_gR C fl_X9_53 dX9_merge_131 h (fun v19 h => ?_)
      refine q_iload C 4 dX9_merge_134 rfl ?_
      refine q_iald C dX9_merge_136 h (fun v20 h => ?_)
      refine q_iload C 6 dX9_merge_137 rfl ?_
      refine q_icmp_eq C 146 dX9_merge_139 (by decide) h (fun h => ?_) (fun h => ?_)
      · refine WG.sub [0, 1, 2, 4] rfl ?_
        exact w_j_X9_merge_146 C C2 _ _ _ _ _ _ hrec_35 h
      · refine q_iconst C (1 : Int32) dX9_merge_142 (by decide) ?_
        refine q_goto C 147 dX9_merge_143 (by decide) ?_
        refine WG.sub [0, 1, 2, 4] rfl ?_
        exact w_j_X9_merge_147 C C2 _ _ _ _ _ _ _ hrec_35 h
def j_X9_merge_102 (a0 : Option Nat) (a1 : Int32) (a2 : Int32) (a3 : Int32) (a4 : Int32) (a5 : Int32) (a6 : Int32) (s0 : Int32) (s1 : Option Nat) (rec_35 : Int32 → Int32 → OO Int32) : OO Int32 :=
  gR a0 12 14 fun v13 =>
    ldI 0 v13 a4 fun v14 =>
    j_X9_merge_109 a0 a1 a2 a3 a4 a5 a6 v14 s0 s1 rec_35
set_option maxRecDepth 100000 in
set_option maxHeartbeats 4000000 in
theorem w_j_X9_merge_102 (C : Cx G l p s m args c RX9 cX9_merge 7) (C2 : Cy meth c (some .int)) {hs : Hs} (a0 : Option Nat) (a1 : Int32) (a2 : Int32) (a3 : Int32) (a4 : Int32) (a5 : Int32) (a6 : Int32) (s0 : Int32) (s1 : Option Nat) (rec_35 : Int32 → Int32 → OO Int32) (hrec_35 : ∀ (y3 : Int32) (y4 : Int32) hs, rec_35 y3 y4 hs = some (o, hs') → WG G p l e { frames := 7, cells := 1, slots := 16, locals := 162 } s m args below meth c 7 0 0 (vx_MQ below (QcT G o hs' tvI) (XCT G o hs') args s 1 16 (gA G)) hs [(0, va_rf a0), (1, .int a1), (2, .int a2), (3, .int y3), (4, .int y4)] [] 35) (h : j_X9_merge_102 a0 a1 a2 a3 a4 a5 a6 s0 s1 rec_35 hs = some (o, hs')) : WG G p l e { frames := 7, cells := 1, slots := 16, locals := 162 } s m args below meth c 7 0 0 (vx_MQ below (QcT G o hs' tvI) (XCT G o hs') args s 1 16 (gA G)) hs [(0, va_rf a0), (1, .int a1), (2, .int a2), (3, .int a3), (4, .int a4), (5, .int a5), (6, .int a6)] [.int s0, va_rf s1] 102 := by
  unfold j_X9_merge_102 at h
  refine q_aload_n C 0 dX9_merge_102 rfl ?_
  refine q_gR C fl_X9_53 dX9_merge_103 h (fun v13 h => ?_)
  refine q_iload C 4 dX9_merge_106 rfl ?_
  refine q_iald C dX9_merge_108 h (fun v14 h => ?_)
  exact w_j_X9_merge_109 C C2 _ _ _ _ _ _ _ _ _ _ _ hrec_35 h
def L_X9_merge_35 (a0 : Option Nat) (a1 : Int32) (a2 : Int32) (k_35_155 : Int32 → OO Int32) : Nat → Int32 → Int32 → OO Int32
  | 0, _, _ => failO
  | n + 1, x3, x4 =>
    gI a0 12 24 fun v5 =>
    (if v5 ≤ x4 then
    k_35_155 x3
    else
    gR a0 12 16 fun v6 =>
    ldI 0 v6 (((16 : Int32) * a1) + x4) fun v7 =>
    lets v7 fun (v8 : Int32) =>
    gR a0 12 16 fun v9 =>
    ldI 0 v9 (((16 : Int32) * a2) + x4) fun v10 =>
    lets v10 fun (v11 : Int32) =>
    gR a0 12 17 fun v12 =>
    (if v11 = v8 then
    j_X9_merge_102 a0 a1 a2 x3 x4 v8 v11 x4 v12 (L_X9_merge_35 a0 a1 a2 k_35_155 n)
    else
    gR a0 12 14 fun v21 =>
    ldI 0 v21 x4 fun v22 =>
    (if ¬ v22 = v8 then
    j_X9_merge_102 a0 a1 a2 x3 x4 v8 v11 x4 v12 (L_X9_merge_35 a0 a1 a2 k_35_155 n)
    else
    j_X9_merge_109 a0 a1 a2 x3 x4 v8 v11 v11 x4 v12 (L_X9_merge_35 a0 a1 a2 k_35_155 n))))
set_option maxRecDepth 100000 in
set_option maxHeartbeats 4000000 in
theorem w_L_X9_merge_35 (C : Cx G l p s m args c RX9 cX9_merge 7) (C2 : Cy meth c (some .int)) (a0 : Option Nat) (a1 : Int32) (a2 : Int32) (k_35_155 : Int32 → OO Int32) (hk_35_155 : ∀ (y3 : Int32) hs, k_35_155 y3 hs = some (o, hs') → WG G p l e { frames := 7, cells := 1, slots := 16, locals := 162 } s m args below meth c 7 0 0 (vx_MQ below (QcT G o hs' tvI) (XCT G o hs') args s 1 16 (gA G)) hs [(0, va_rf a0), (3, .int y3)] [] 155) : ∀ (n : Nat) (x3 : Int32) (x4 : Int32) (hs : Hs), L_X9_merge_35 a0 a1 a2 k_35_155 n x3 x4 hs = some (o, hs') → WG G p l e { frames := 7, cells := 1, slots := 16, locals := 162 } s m args below meth c 7 0 0 (vx_MQ below (QcT G o hs' tvI) (XCT G o hs') args s 1 16 (gA G)) hs [(0, va_rf a0), (1, .int a1), (2, .int a2), (3, .int x3), (4, .int x4)] [] 35 := by
  intro n
  induction n with
  | zero =>
    intro x3 x4 hs h
    rw [L_X9_merge_35] at h
    exact absurd h failO_e
  | succ n hrec_35 =>
    intro x3 x4 hs h
    rw [L_X9_merge_35] at h
    refine q_iload C 4 dX9_merge_35 rfl ?_
    refine q_aload_n C 0 dX9_merge_37 rfl ?_
    refine q_gI C fl_X9_84 dX9_merge_38 h (fun v5 h => ?_)
    refine q_icmp_ge C 155 dX9_merge_41 (by decide) h (fun h => ?_) (fun h => ?_)
    · refine WG.sub [0, 3] rfl ?_
      exact hk_35_155 _ _ h
    · refine q_aload_n C 0 dX9_merge_44 rfl ?_
      refine q_gR C fl_X9_59 dX9_merge_45 h (fun v6 h => ?_)
      refine q_bipush C (16 : Int32) dX9_merge_48 (by decide) ?_
      refine q_iload_n C 1 dX9_merge_50 rfl ?_
      refine q_imul C dX9_merge_51 ?_
      refine q_iload C 4 dX9_merge_52 rfl ?_
      refine q_iadd C dX9_merge_54 ?_
      refine q_iald C dX9_merge_55 h (fun v7 h => ?_)
      refine q_istore C (fun v8 => [(5, .int v8), (0, va_rf a0), (1, .int a1), (2, .int a2), (3, .int x3), (4, .int x4)]) dX9_merge_56 (by decide) (fun _ => rfl) h (fun v8 h => ?_)
      refine q_aload_n C 1 dX9_merge_58 rfl ?_
      refine q_gR C fl_X9_59 dX9_merge_59 h (fun v9 h => ?_)
      refine q_bipush C (16 : Int32) dX9_merge_62 (by decide) ?_
      refine q_iload_n C 3 dX9_merge_64 rfl ?_
      refine q_imul C dX9_merge_65 ?_
      refine q_iload C 5 dX9_merge_66 rfl ?_
      refine q_iadd C dX9_merge_68 ?_
      refine q_iald C dX9_merge_69 h (fun v10 h => ?_)
      refine q_istore C (fun v11 => [(6, .int v11), (5, .int v8), (0, va_rf a0), (1, .int a1), (2, .int a2), (3, .int x3), (4, .int x4)]) dX9_merge_70 (by decide) (fun _ => rfl) h (fun v11 h => ?_)
      refine q_aload_n C 2 dX9_merge_72 rfl ?_
      refine q_gR C fl_X9_62 dX9_merge_73 h (fun v12 h => ?_)
      refine q_iload C 6 dX9_merge_76 rfl ?_
      refine q_iload C 0 dX9_merge_78 rfl ?_
      refine q_iload C 1 dX9_merge_80 rfl ?_
      refine q_icmp_eq C 102 dX9_merge_82 (by decide) h (fun h => ?_) (fun h => ?_)
      · refine WG.sub [2, 3, 4, 5, 6, 1, 0] rfl ?_
        exact w_j_X9_merge_102 C C2 _ _ _ _ _ _ _ _ _ _ hrec_35 h
      · refine q_aload_n C 2 dX9_merge_85 rfl ?_
        refine q_gR C fl_X9_53 dX9_merge_86 h (fun v21 h => ?_)
        refine q_iload C 6 dX9_merge_89 rfl ?_
        refine q_iald C dX9_merge_91 h (fun v22 h => ?_)
        refine q_iload C 1 dX9_merge_92 rfl ?_
        refine q_icmp_ne C 102 dX9_merge_94 (by decide) h (fun h => ?_) (fun h => ?_)
        · refine WG.sub [2, 3, 4, 5, 6, 1, 0] rfl ?_
          exact w_j_X9_merge_102 C C2 _ _ _ _ _ _ _ _ _ _ hrec_35 h
        · refine q_iload C 0 dX9_merge_97 rfl ?_
          refine q_goto C 109 dX9_merge_99 (by decide) ?_
          refine WG.sub [2, 3, 4, 5, 6, 1, 0] rfl ?_
          exact w_j_X9_merge_109 C C2 _ _ _ _ _ _ _ _ _ _ _ hrec_35 h
def j_X9_merge_22 (a0 : Option Nat) (a1 : Int32) (a2 : Int32) (s0 : Int32) (s1 : Option Nat)  : OO Int32 :=
  rcv s1 12 fun r26 => call (f_X9_checked r26 s0) (fun (v2 : Int32) =>
    (if v2 ≤ 0 then
    lets (0 : Int32) fun (v3 : Int32) =>
    lets (0 : Int32) fun (v4 : Int32) =>
    L_X9_merge_35 a0 a1 a2 (fun (v23 : Int32) => rcv a0 12 fun r25 => call (f_X9_setsFree r25 ) (fun (v24 : Unit) =>
    rtn v23) nox) 100000 v3 v4
    else
    rtn (0 : Int32))) nox
set_option maxRecDepth 100000 in
set_option maxHeartbeats 4000000 in
theorem w_j_X9_merge_22 (C : Cx G l p s m args c RX9 cX9_merge 7) (C2 : Cy meth c (some .int)) {hs : Hs} (a0 : Option Nat) (a1 : Int32) (a2 : Int32) (s0 : Int32) (s1 : Option Nat)   (h : j_X9_merge_22 a0 a1 a2 s0 s1 hs = some (o, hs')) : WG G p l e { frames := 7, cells := 1, slots := 16, locals := 162 } s m args below meth c 7 0 0 (vx_MQ below (QcT G o hs' tvI) (XCT G o hs') args s 1 16 (gA G)) hs [(0, va_rf a0), (1, .int a1), (2, .int a2)] [.int s0, va_rf s1] 22 := by
  unfold j_X9_merge_22 at h
  refine q_callV C (CN := RX9) (T := TX9) (N := 28) [.int s0] [] (fun a0 o2 hs1 hm => m_X9_checked hm) lk_X9_110 im_X9_checked se_X9_X9_checked rfl ⟨(Nat.le_of_ble_eq_true rfl), (Nat.le_of_ble_eq_true rfl)⟩ ⟨(Nat.le_of_ble_eq_true rfl), (Nat.le_of_ble_eq_true rfl)⟩ rfl rfl (by decide) dX9_merge_22 h (fun v2 hs h => WG_st (st' := [.int v2]) rfl ?_)
  refine q_if_le C 30 dX9_merge_25 (by decide) h (fun h => ?_) (fun h => ?_)
  · refine q_iconst C (0 : Int32) dX9_merge_30 (by decide) ?_
    refine q_istore_n C (fun v3 => [(3, .int v3), (0, va_rf a0), (1, .int a1), (2, .int a2)]) dX9_merge_31 (by decide) (fun _ => rfl) h (fun v3 h => ?_)
    refine q_iconst C (0 : Int32) dX9_merge_32 (by decide) ?_
    refine q_istore C (fun v4 => [(4, .int v4), (3, .int v3), (0, va_rf a0), (1, .int a1), (2, .int a2)]) dX9_merge_33 (by decide) (fun _ => rfl) h (fun v4 h => ?_)
    refine WG.sub [2, 3, 4, 1, 0] rfl ?_
    refine w_L_X9_merge_35 C C2 _ _ _ _ ?_ _ _ _ _ h
    · intro v23 hs h
      refine q_aload_n C 0 dX9_merge_155 rfl ?_
      refine q_callV C (CN := RX9) (T := TX9) (N := 28) [] [] (fun a0 o2 hs1 hm => m_X9_setsFree hm) lk_X9_254 im_X9_setsFree se_X9_X9_setsFree rfl ⟨(Nat.le_of_ble_eq_true rfl), (Nat.le_of_ble_eq_true rfl)⟩ ⟨(Nat.le_of_ble_eq_true rfl), (Nat.le_of_ble_eq_true rfl)⟩ rfl rfl (by decide) dX9_merge_156 h (fun v24 hs h => WG_st (st' := []) rfl ?_)
      refine q_iload_n C 1 dX9_merge_159 rfl ?_
      exact q_iret C C2 rfl (Nat.le_of_ble_eq_true rfl) (Nat.le_of_ble_eq_true rfl) dX9_merge_160 h
  · refine q_iconst C (0 : Int32) dX9_merge_28 (by decide) ?_
    exact q_iret C C2 rfl (Nat.le_of_ble_eq_true rfl) (Nat.le_of_ble_eq_true rfl) dX9_merge_29 h
def j_X9_merge_21 (a0 : Option Nat) (a1 : Int32) (a2 : Int32) (s0 : Option Nat)  : OO Int32 :=
  j_X9_merge_22 a0 a1 a2 (0 : Int32) s0
set_option maxRecDepth 100000 in
set_option maxHeartbeats 4000000 in
theorem w_j_X9_merge_21 (C : Cx G l p s m args c RX9 cX9_merge 7) (C2 : Cy meth c (some .int)) {hs : Hs} (a0 : Option Nat) (a1 : Int32) (a2 : Int32) (s0 : Option Nat)   (h : j_X9_merge_21 a0 a1 a2 s0 hs = some (o, hs')) : WG G p l e { frames := 7, cells := 1, slots := 16, locals := 162 } s m args below meth c 7 0 0 (vx_MQ below (QcT G o hs' tvI) (XCT G o hs') args s 1 16 (gA G)) hs [(0, va_rf a0), (1, .int a1), (2, .int a2)] [va_rf s0] 21 := by
  unfold j_X9_merge_21 at h
  refine q_iconst C (0 : Int32) dX9_merge_21 (by decide) ?_
  exact w_j_X9_merge_22 C C2 _ _ _ _ _   h
end M_X9_merge
def f_X9_merge (a0 : Nat) (p1 : Int32) (p2 : Int32) : OO Int32 :=
    rcv (some a0) 12 fun r29 => call (f_X9_isVersion r29 p1) (fun (v1 : Int32) =>
    (if v1 = 0 then
    j_X9_merge_21 (some a0) p1 p2 (some a0)
    else
    rcv (some a0) 12 fun r28 => call (f_X9_isVersion r28 p2) (fun (v27 : Int32) =>
    (if v27 = 0 then
    j_X9_merge_21 (some a0) p1 p2 (some a0)
    else
    j_X9_merge_22 (some a0) p1 p2 (1 : Int32) (some a0))) nox)) nox
set_option maxRecDepth 100000 in
set_option maxHeartbeats 4000000 in
theorem m_X9_merge {G : GG} {l : Launch} {a0 : Nat} {p1 : Int32} {p2 : Int32} {hs hs' : Hs} {o : Except Nat Int32} (h : f_X9_merge a0 p1 p2 hs = some (o, hs')) : CT G l yX9_merge cX9_merge 7 (some .int) 7 162 1 16 [.ref a0, .int p1, .int p2] hs o hs' tvI := by
  refine vx_ofW (cc := cX9_merge) (maxL := 7) (ret := (some .int)) (by decide +kernel) rfl ?_
  intro p e s m args below meth c s₁ B hml hxt hv
  obtain ⟨hav, hR, hKn⟩ := hv
  subst hav
  have hts := atoms_spec (ws := .code yX9_merge cX9_merge 7 (some .int) :: Tg) B.pre
  have C : Cx G l p s m _ c RX9 cX9_merge 7 := ⟨B.exec, B.bytes, hml, findClass_of_methodNamed B.named, fun w hw => hts w (List.mem_cons_of_mem _ hw), hKn, fun q hq => Nat.le_trans hR.2.2.1 hq⟩
  have C2 : Cy meth c (some .int) := ⟨B.returns, B.notSynchronized, hxt⟩
  have key : WG G p l e { frames := 7, cells := 1, slots := 16, locals := 162 } s m ([.ref a0, .int p1, .int p2] : List Value).toArray below meth c 7 0 0 (vx_MQ below (QcT G o hs' tvI) (XCT G o hs') ([.ref a0, .int p1, .int p2] : List Value).toArray s 1 16 (gA G)) hs [(0, va_rf (some a0)), (1, .int p1), (2, .int p2)] [] 0 := by
    unfold f_X9_merge at h
    refine q_aload_n C 0 dX9_merge_0 rfl ?_
    refine q_aload_n C 0 dX9_merge_1 rfl ?_
    refine q_iload_n C 1 dX9_merge_2 rfl ?_
    refine q_callV C (CN := RX9) (T := TX9) (N := 28) [.int p1] [va_rf (some a0)] (fun a0 o2 hs1 hm => m_X9_isVersion hm) lk_X9_251 im_X9_isVersion se_X9_X9_isVersion rfl ⟨(Nat.le_of_ble_eq_true rfl), (Nat.le_of_ble_eq_true rfl)⟩ ⟨(Nat.le_of_ble_eq_true rfl), (Nat.le_of_ble_eq_true rfl)⟩ rfl rfl (by simp only [List.map, cat_rf, cat_i, cat_a]; decide) dX9_merge_3 h (fun v1 hs h => WG_st (st' := [.int v1, va_rf (some a0)]) rfl ?_)
    refine q_if_eq C 21 dX9_merge_6 (by decide) h (fun h => ?_) (fun h => ?_)
    · exact w_j_X9_merge_21 C C2 _ _ _ _   h
    · refine q_aload_n C 0 dX9_merge_9 rfl ?_
      refine q_iload_n C 2 dX9_merge_10 rfl ?_
      refine q_callV C (CN := RX9) (T := TX9) (N := 28) [.int p2] [va_rf (some a0)] (fun a0 o2 hs1 hm => m_X9_isVersion hm) lk_X9_251 im_X9_isVersion se_X9_X9_isVersion rfl ⟨(Nat.le_of_ble_eq_true rfl), (Nat.le_of_ble_eq_true rfl)⟩ ⟨(Nat.le_of_ble_eq_true rfl), (Nat.le_of_ble_eq_true rfl)⟩ rfl rfl (by simp only [List.map, cat_rf, cat_i, cat_a]; decide) dX9_merge_11 h (fun v27 hs h => WG_st (st' := [.int v27, va_rf (some a0)]) rfl ?_)
      refine q_if_eq C 21 dX9_merge_14 (by decide) h (fun h => ?_) (fun h => ?_)
      · exact w_j_X9_merge_21 C C2 _ _ _ _   h
      · refine q_iconst C (1 : Int32) dX9_merge_17 (by decide) ?_
        refine q_goto C 22 dX9_merge_18 (by decide) ?_
        exact w_j_X9_merge_22 C C2 _ _ _ _ _   h
  rw [lg_entry_eq]
  exact key _ _ _ hR va_S.rf ⟨lv_entry _ (n := 7) (Nat.le_of_ble_eq_true rfl), (c1_r (c1_i (c1_i c1_n)))⟩

theorem cd_X9_placedShare : Cond.code yX9_placedShare cX9_placedShare 3 (some .float) ∈ Tg := Tg_of (i := 1934) (by decide +kernel) (by decide +kernel)
section M_X9_placedShare
variable {p : Program} {l : Launch} {e : Env} {s : State} {m : MethodId} {args : Array Value} {below : List Frame} {meth : Method} {c : Code} {G : GG} {o : Except Nat UInt32} {hs' : Hs}
def j_X9_placedShare_26 (a0 : Option Nat) (a2 : Int32) (s0 : Int32) (s1 : Int32) (rec_4 : Int32 → Int32 → OO UInt32) : OO UInt32 :=
  lets (s1 + s0) fun (v5 : Int32) =>
    lets (a2 + (1 : Int32)) fun (v6 : Int32) =>
    rec_4 v5 v6
set_option maxRecDepth 100000 in
set_option maxHeartbeats 4000000 in
theorem w_j_X9_placedShare_26 (C : Cx G l p s m args c RX9 cX9_placedShare 3) (C2 : Cy meth c (some .float)) {hs : Hs} (a0 : Option Nat) (a2 : Int32) (s0 : Int32) (s1 : Int32) (rec_4 : Int32 → Int32 → OO UInt32) (hrec_4 : ∀ (y1 : Int32) (y2 : Int32) hs, rec_4 y1 y2 hs = some (o, hs') → WG G p l e { frames := 1, cells := 0, slots := 0, locals := 21 } s m args below meth c 3 0 0 (vx_MQ below (QcT G o hs' tvF) (XCT G o hs') args s 0 0 (gA G)) hs [(0, va_rf a0), (1, .int y1), (2, .int y2)] [] 4) (h : j_X9_placedShare_26 a0 a2 s0 s1 rec_4 hs = some (o, hs')) : WG G p l e { frames := 1, cells := 0, slots := 0, locals := 21 } s m args below meth c 3 0 0 (vx_MQ below (QcT G o hs' tvF) (XCT G o hs') args s 0 0 (gA G)) hs [(0, va_rf a0), (2, .int a2)] [.int s0, .int s1] 26 := by
  unfold j_X9_placedShare_26 at h
  refine q_iadd C dX9_placedShare_26 ?_
  refine q_istore_n C (fun v5 => [(1, .int v5), (0, va_rf a0), (2, .int a2)]) dX9_placedShare_27 (by decide) (fun _ => rfl) h (fun v5 h => ?_)
  refine q_iinc C 2 (1 : Int32) (fun v6 => [(2, .int v6), (1, .int v5), (0, va_rf a0)]) dX9_placedShare_28 rfl (by decide) (by decide) (fun _ => rfl) h (fun v6 h => ?_)
  refine q_goto C 4 dX9_placedShare_31 (by decide) ?_
  refine WG.sub [2, 1, 0] rfl ?_
  exact hrec_4 _ _ _ h
def L_X9_placedShare_4 (a0 : Option Nat) (k_4_34 : Int32 → OO UInt32) : Nat → Int32 → Int32 → OO UInt32
  | 0, _, _ => failO
  | n + 1, x1, x2 =>
    gI a0 12 24 fun v3 =>
    (if v3 ≤ x2 then
    k_4_34 x1
    else
    rcv a0 12 fun r7 => call (f_X9_isPlaced r7 x2) (fun (v4 : Int32) =>
    (if v4 = 0 then
    j_X9_placedShare_26 a0 x2 (0 : Int32) x1 (L_X9_placedShare_4 a0 k_4_34 n)
    else
    j_X9_placedShare_26 a0 x2 (1 : Int32) x1 (L_X9_placedShare_4 a0 k_4_34 n))) nox)
set_option maxRecDepth 100000 in
set_option maxHeartbeats 4000000 in
theorem w_L_X9_placedShare_4 (C : Cx G l p s m args c RX9 cX9_placedShare 3) (C2 : Cy meth c (some .float)) (a0 : Option Nat) (k_4_34 : Int32 → OO UInt32) (hk_4_34 : ∀ (y1 : Int32) hs, k_4_34 y1 hs = some (o, hs') → WG G p l e { frames := 1, cells := 0, slots := 0, locals := 21 } s m args below meth c 3 0 0 (vx_MQ below (QcT G o hs' tvF) (XCT G o hs') args s 0 0 (gA G)) hs [(0, va_rf a0), (1, .int y1)] [] 34) : ∀ (n : Nat) (x1 : Int32) (x2 : Int32) (hs : Hs), L_X9_placedShare_4 a0 k_4_34 n x1 x2 hs = some (o, hs') → WG G p l e { frames := 1, cells := 0, slots := 0, locals := 21 } s m args below meth c 3 0 0 (vx_MQ below (QcT G o hs' tvF) (XCT G o hs') args s 0 0 (gA G)) hs [(0, va_rf a0), (1, .int x1), (2, .int x2)] [] 4 := by
  intro n
  induction n with
  | zero =>
    intro x1 x2 hs h
    rw [L_X9_placedShare_4] at h
    exact absurd h failO_e
  | succ n hrec_4 =>
    intro x1 x2 hs h
    rw [L_X9_placedShare_4] at h
    refine q_iload_n C 2 dX9_placedShare_4 rfl ?_
    refine q_aload_n C 0 dX9_placedShare_5 rfl ?_
    refine q_gI C fl_X9_84 dX9_placedShare_6 h (fun v3 h => ?_)
    refine q_icmp_ge C 34 dX9_placedShare_9 (by decide) h (fun h => ?_) (fun h => ?_)
    · refine WG.sub [0, 1] rfl ?_
      exact hk_4_34 _ _ h
    · refine q_iload_n C 1 dX9_placedShare_12 rfl ?_
      refine q_aload_n C 0 dX9_placedShare_13 rfl ?_
      refine q_iload_n C 2 dX9_placedShare_14 rfl ?_
      refine q_callV C (CN := RX9) (T := TX9) (N := 28) [.int x2] [.int x1] (fun a0 o2 hs1 hm => m_X9_isPlaced hm) lk_X9_118 im_X9_isPlaced se_X9_X9_isPlaced rfl ⟨(Nat.le_of_ble_eq_true rfl), (Nat.le_of_ble_eq_true rfl)⟩ ⟨(Nat.le_of_ble_eq_true rfl), (Nat.le_of_ble_eq_true rfl)⟩ rfl rfl (by simp only [List.map, cat_rf, cat_i, cat_a]; decide) dX9_placedShare_15 h (fun v4 hs h => WG_st (st' := [.int v4, .int x1]) rfl ?_)
      refine q_if_eq C 25 dX9_placedShare_18 (by decide) h (fun h => ?_) (fun h => ?_)
      · refine q_iconst C (0 : Int32) dX9_placedShare_25 (by decide) ?_
        refine WG.sub [0, 2] rfl ?_
        exact w_j_X9_placedShare_26 C C2 _ _ _ _ _ hrec_4 h
      · refine q_iconst C (1 : Int32) dX9_placedShare_21 (by decide) ?_
        refine q_goto C 26 dX9_placedShare_22 (by decide) ?_
        refine WG.sub [0, 2] rfl ?_
        exact w_j_X9_placedShare_26 C C2 _ _ _ _ _ hrec_4 h
def j_X9_placedShare_47 (a0 : Option Nat) (a1 : Int32) (s0 : Int32) (s1 : Option Nat)  : OO UInt32 :=
  rcv s1 12 fun r13 => call (f_X9_checked r13 s0) (fun (v10 : Int32) =>
    (if v10 ≤ 0 then
    gI a0 12 24 fun v11 =>
    fdv (FP.i2f a1) (FP.i2f v11) fun v12 =>
    rtn v12
    else
    rtn FP.fconst0)) nox
set_option maxRecDepth 100000 in
set_option maxHeartbeats 4000000 in
theorem w_j_X9_placedShare_47 (C : Cx G l p s m args c RX9 cX9_placedShare 3) (C2 : Cy meth c (some .float)) {hs : Hs} (a0 : Option Nat) (a1 : Int32) (s0 : Int32) (s1 : Option Nat)   (h : j_X9_placedShare_47 a0 a1 s0 s1 hs = some (o, hs')) : WG G p l e { frames := 1, cells := 0, slots := 0, locals := 21 } s m args below meth c 3 0 0 (vx_MQ below (QcT G o hs' tvF) (XCT G o hs') args s 0 0 (gA G)) hs [(0, va_rf a0), (1, .int a1)] [.int s0, va_rf s1] 47 := by
  unfold j_X9_placedShare_47 at h
  refine q_callV C (CN := RX9) (T := TX9) (N := 28) [.int s0] [] (fun a0 o2 hs1 hm => m_X9_checked hm) lk_X9_110 im_X9_checked se_X9_X9_checked rfl ⟨(Nat.le_of_ble_eq_true rfl), (Nat.le_of_ble_eq_true rfl)⟩ ⟨(Nat.le_of_ble_eq_true rfl), (Nat.le_of_ble_eq_true rfl)⟩ rfl rfl (by decide) dX9_placedShare_47 h (fun v10 hs h => WG_st (st' := [.int v10]) rfl ?_)
  refine q_if_le C 57 dX9_placedShare_50 (by decide) h (fun h => ?_) (fun h => ?_)
  · refine q_iload_n C 1 dX9_placedShare_57 rfl ?_
    refine q_i2f C dX9_placedShare_58 ?_
    refine q_aload_n C 0 dX9_placedShare_59 rfl ?_
    refine q_gI C fl_X9_84 dX9_placedShare_60 h (fun v11 h => ?_)
    refine q_i2f C dX9_placedShare_63 ?_
    refine q_fdiv C dX9_placedShare_64 h (fun v12 h => ?_)
    exact q_fret C C2 rfl (Nat.le_of_ble_eq_true rfl) (Nat.le_of_ble_eq_true rfl) dX9_placedShare_65 h
  · refine q_fconst C dX9_placedShare_53 ?_
    refine q_goto C 65 dX9_placedShare_54 (by decide) ?_
    exact q_fret C C2 rfl (Nat.le_of_ble_eq_true rfl) (Nat.le_of_ble_eq_true rfl) dX9_placedShare_65 h
end M_X9_placedShare
def f_X9_placedShare (a0 : Nat) : OO UInt32 :=
    lets (0 : Int32) fun (v1 : Int32) =>
    lets (0 : Int32) fun (v2 : Int32) =>
    L_X9_placedShare_4 (some a0) (fun (v8 : Int32) => gI (some a0) 12 24 fun v9 =>
    (if v9 ≤ 0 then
    j_X9_placedShare_47 (some a0) v8 (0 : Int32) (some a0)
    else
    j_X9_placedShare_47 (some a0) v8 (1 : Int32) (some a0))) 100000 v1 v2
set_option maxRecDepth 100000 in
set_option maxHeartbeats 4000000 in
theorem m_X9_placedShare {G : GG} {l : Launch} {a0 : Nat} {hs hs' : Hs} {o : Except Nat UInt32} (h : f_X9_placedShare a0 hs = some (o, hs')) : CT G l yX9_placedShare cX9_placedShare 3 (some .float) 1 21 0 0 [.ref a0] hs o hs' tvF := by
  refine vx_ofW (cc := cX9_placedShare) (maxL := 3) (ret := (some .float)) (by decide +kernel) rfl ?_
  intro p e s m args below meth c s₁ B hml hxt hv
  obtain ⟨hav, hR, hKn⟩ := hv
  subst hav
  have hts := atoms_spec (ws := .code yX9_placedShare cX9_placedShare 3 (some .float) :: Tg) B.pre
  have C : Cx G l p s m _ c RX9 cX9_placedShare 3 := ⟨B.exec, B.bytes, hml, findClass_of_methodNamed B.named, fun w hw => hts w (List.mem_cons_of_mem _ hw), hKn, fun q hq => Nat.le_trans hR.2.2.1 hq⟩
  have C2 : Cy meth c (some .float) := ⟨B.returns, B.notSynchronized, hxt⟩
  have key : WG G p l e { frames := 1, cells := 0, slots := 0, locals := 21 } s m ([.ref a0] : List Value).toArray below meth c 3 0 0 (vx_MQ below (QcT G o hs' tvF) (XCT G o hs') ([.ref a0] : List Value).toArray s 0 0 (gA G)) hs [(0, va_rf (some a0))] [] 0 := by
    unfold f_X9_placedShare at h
    refine q_iconst C (0 : Int32) dX9_placedShare_0 (by decide) ?_
    refine q_istore_n C (fun v1 => [(1, .int v1), (0, va_rf (some a0))]) dX9_placedShare_1 (by decide) (fun _ => rfl) h (fun v1 h => ?_)
    refine q_iconst C (0 : Int32) dX9_placedShare_2 (by decide) ?_
    refine q_istore_n C (fun v2 => [(2, .int v2), (1, .int v1), (0, va_rf (some a0))]) dX9_placedShare_3 (by decide) (fun _ => rfl) h (fun v2 h => ?_)
    refine WG.sub [2, 1, 0] rfl ?_
    refine w_L_X9_placedShare_4 C C2 _ _ ?_ _ _ _ _ h
    · intro v8 hs h
      refine q_aload_n C 0 dX9_placedShare_34 rfl ?_
      refine q_aload_n C 0 dX9_placedShare_35 rfl ?_
      refine q_gI C fl_X9_84 dX9_placedShare_36 h (fun v9 h => ?_)
      refine q_if_le C 46 dX9_placedShare_39 (by decide) h (fun h => ?_) (fun h => ?_)
      · refine q_iconst C (0 : Int32) dX9_placedShare_46 (by decide) ?_
        exact w_j_X9_placedShare_47 C C2 _ _ _ _   h
      · refine q_iconst C (1 : Int32) dX9_placedShare_42 (by decide) ?_
        refine q_goto C 47 dX9_placedShare_43 (by decide) ?_
        exact w_j_X9_placedShare_47 C C2 _ _ _ _   h
  rw [lg_entry_eq]
  exact key _ _ _ hR va_S.rf ⟨lv_entry _ (n := 3) (Nat.le_of_ble_eq_true rfl), (c1_r c1_n)⟩

theorem cd_X9_meanPossible : Cond.code yX9_meanPossible cX9_meanPossible 3 (some .double) ∈ Tg := Tg_of (i := 1938) (by decide +kernel) (by decide +kernel)
section M_X9_meanPossible
variable {p : Program} {l : Launch} {e : Env} {s : State} {m : MethodId} {args : Array Value} {below : List Frame} {meth : Method} {c : Code} {G : GG} {o : Except Nat UInt64} {hs' : Hs}
def L_X9_meanPossible_4 (a0 : Option Nat) (k_4_26 : Int32 → OO UInt64) : Nat → Int32 → Int32 → OO UInt64
  | 0, _, _ => failO
  | n + 1, x1, x2 =>
    gI a0 12 24 fun v3 =>
    (if v3 ≤ x2 then
    k_4_26 x1
    else
    rcv a0 12 fun r7 => call (f_X9_manyPossible r7 x2) (fun (v4 : Int32) =>
    lets (x1 + v4) fun (v5 : Int32) =>
    lets (x2 + (1 : Int32)) fun (v6 : Int32) =>
    (L_X9_meanPossible_4 a0 k_4_26 n) v5 v6) nox)
set_option maxRecDepth 100000 in
set_option maxHeartbeats 4000000 in
theorem w_L_X9_meanPossible_4 (C : Cx G l p s m args c RX9 cX9_meanPossible 3) (C2 : Cy meth c (some .double)) (a0 : Option Nat) (k_4_26 : Int32 → OO UInt64) (hk_4_26 : ∀ (y1 : Int32) hs, k_4_26 y1 hs = some (o, hs') → WG G p l e { frames := 7, cells := 0, slots := 0, locals := 163 } s m args below meth c 3 0 0 (vx_MQ below (QcT G o hs' tvD) (XCT G o hs') args s 0 0 (gA G)) hs [(0, va_rf a0), (1, .int y1)] [] 26) : ∀ (n : Nat) (x1 : Int32) (x2 : Int32) (hs : Hs), L_X9_meanPossible_4 a0 k_4_26 n x1 x2 hs = some (o, hs') → WG G p l e { frames := 7, cells := 0, slots := 0, locals := 163 } s m args below meth c 3 0 0 (vx_MQ below (QcT G o hs' tvD) (XCT G o hs') args s 0 0 (gA G)) hs [(0, va_rf a0), (1, .int x1), (2, .int x2)] [] 4 := by
  intro n
  induction n with
  | zero =>
    intro x1 x2 hs h
    rw [L_X9_meanPossible_4] at h
    exact absurd h failO_e
  | succ n hrec_4 =>
    intro x1 x2 hs h
    rw [L_X9_meanPossible_4] at h
    refine q_iload_n C 2 dX9_meanPossible_4 rfl ?_
    refine q_aload_n C 0 dX9_meanPossible_5 rfl ?_
    refine q_gI C fl_X9_84 dX9_meanPossible_6 h (fun v3 h => ?_)
    refine q_icmp_ge C 26 dX9_meanPossible_9 (by decide) h (fun h => ?_) (fun h => ?_)
    · refine WG.sub [0, 1] rfl ?_
      exact hk_4_26 _ _ h
    · refine q_iload_n C 1 dX9_meanPossible_12 rfl ?_
      refine q_aload_n C 0 dX9_meanPossible_13 rfl ?_
      refine q_iload_n C 2 dX9_meanPossible_14 rfl ?_
      refine q_callV C (CN := RX9) (T := TX9) (N := 28) [.int x2] [.int x1] (fun a0 o2 hs1 hm => m_X9_manyPossible hm) lk_X9_199 im_X9_manyPossible se_X9_X9_manyPossible rfl ⟨(Nat.le_of_ble_eq_true rfl), (Nat.le_of_ble_eq_true rfl)⟩ ⟨(Nat.le_of_ble_eq_true rfl), (Nat.le_of_ble_eq_true rfl)⟩ rfl rfl (by simp only [List.map, cat_rf, cat_i, cat_a]; decide) dX9_meanPossible_15 h (fun v4 hs h => WG_st (st' := [.int v4, .int x1]) rfl ?_)
      refine q_iadd C dX9_meanPossible_18 ?_
      refine q_istore_n C (fun v5 => [(1, .int v5), (0, va_rf a0), (2, .int x2)]) dX9_meanPossible_19 (by decide) (fun _ => rfl) h (fun v5 h => ?_)
      refine q_iinc C 2 (1 : Int32) (fun v6 => [(2, .int v6), (1, .int v5), (0, va_rf a0)]) dX9_meanPossible_20 rfl (by decide) (by decide) (fun _ => rfl) h (fun v6 h => ?_)
      refine q_goto C 4 dX9_meanPossible_23 (by decide) ?_
      refine WG.sub [2, 1, 0] rfl ?_
      exact hrec_4 _ _ _ h
def j_X9_meanPossible_39 (a0 : Option Nat) (a1 : Int32) (s0 : Int32) (s1 : Option Nat)  : OO UInt64 :=
  rcv s1 12 fun r13 => call (f_X9_checked r13 s0) (fun (v10 : Int32) =>
    (if v10 ≤ 0 then
    gI a0 12 24 fun v11 =>
    ddv (FP.i2d a1) (FP.i2d v11) fun v12 =>
    rtn v12
    else
    rtn FP.dconst0)) nox
set_option maxRecDepth 100000 in
set_option maxHeartbeats 4000000 in
theorem w_j_X9_meanPossible_39 (C : Cx G l p s m args c RX9 cX9_meanPossible 3) (C2 : Cy meth c (some .double)) {hs : Hs} (a0 : Option Nat) (a1 : Int32) (s0 : Int32) (s1 : Option Nat)   (h : j_X9_meanPossible_39 a0 a1 s0 s1 hs = some (o, hs')) : WG G p l e { frames := 7, cells := 0, slots := 0, locals := 163 } s m args below meth c 3 0 0 (vx_MQ below (QcT G o hs' tvD) (XCT G o hs') args s 0 0 (gA G)) hs [(0, va_rf a0), (1, .int a1)] [.int s0, va_rf s1] 39 := by
  unfold j_X9_meanPossible_39 at h
  refine q_callV C (CN := RX9) (T := TX9) (N := 28) [.int s0] [] (fun a0 o2 hs1 hm => m_X9_checked hm) lk_X9_110 im_X9_checked se_X9_X9_checked rfl ⟨(Nat.le_of_ble_eq_true rfl), (Nat.le_of_ble_eq_true rfl)⟩ ⟨(Nat.le_of_ble_eq_true rfl), (Nat.le_of_ble_eq_true rfl)⟩ rfl rfl (by decide) dX9_meanPossible_39 h (fun v10 hs h => WG_st (st' := [.int v10]) rfl ?_)
  refine q_if_le C 49 dX9_meanPossible_42 (by decide) h (fun h => ?_) (fun h => ?_)
  · refine q_iload_n C 1 dX9_meanPossible_49 rfl ?_
    refine q_i2d C dX9_meanPossible_50 ?_
    refine q_aload_n C 0 dX9_meanPossible_51 rfl ?_
    refine q_gI C fl_X9_84 dX9_meanPossible_52 h (fun v11 h => ?_)
    refine q_i2d C dX9_meanPossible_55 ?_
    refine q_ddiv C dX9_meanPossible_56 h (fun v12 h => ?_)
    exact q_dret C C2 rfl (Nat.le_of_ble_eq_true rfl) (Nat.le_of_ble_eq_true rfl) dX9_meanPossible_57 h
  · refine q_dconst C dX9_meanPossible_45 ?_
    refine q_goto C 57 dX9_meanPossible_46 (by decide) ?_
    exact q_dret C C2 rfl (Nat.le_of_ble_eq_true rfl) (Nat.le_of_ble_eq_true rfl) dX9_meanPossible_57 h
end M_X9_meanPossible
def f_X9_meanPossible (a0 : Nat) : OO UInt64 :=
    lets (0 : Int32) fun (v1 : Int32) =>
    lets (0 : Int32) fun (v2 : Int32) =>
    L_X9_meanPossible_4 (some a0) (fun (v8 : Int32) => gI (some a0) 12 24 fun v9 =>
    (if v9 ≤ 0 then
    j_X9_meanPossible_39 (some a0) v8 (0 : Int32) (some a0)
    else
    j_X9_meanPossible_39 (some a0) v8 (1 : Int32) (some a0))) 100000 v1 v2
set_option maxRecDepth 100000 in
set_option maxHeartbeats 4000000 in
theorem m_X9_meanPossible {G : GG} {l : Launch} {a0 : Nat} {hs hs' : Hs} {o : Except Nat UInt64} (h : f_X9_meanPossible a0 hs = some (o, hs')) : CT G l yX9_meanPossible cX9_meanPossible 3 (some .double) 7 163 0 0 [.ref a0] hs o hs' tvD := by
  refine vx_ofW (cc := cX9_meanPossible) (maxL := 3) (ret := (some .double)) (by decide +kernel) rfl ?_
  intro p e s m args below meth c s₁ B hml hxt hv
  obtain ⟨hav, hR, hKn⟩ := hv
  subst hav
  have hts := atoms_spec (ws := .code yX9_meanPossible cX9_meanPossible 3 (some .double) :: Tg) B.pre
  have C : Cx G l p s m _ c RX9 cX9_meanPossible 3 := ⟨B.exec, B.bytes, hml, findClass_of_methodNamed B.named, fun w hw => hts w (List.mem_cons_of_mem _ hw), hKn, fun q hq => Nat.le_trans hR.2.2.1 hq⟩
  have C2 : Cy meth c (some .double) := ⟨B.returns, B.notSynchronized, hxt⟩
  have key : WG G p l e { frames := 7, cells := 0, slots := 0, locals := 163 } s m ([.ref a0] : List Value).toArray below meth c 3 0 0 (vx_MQ below (QcT G o hs' tvD) (XCT G o hs') ([.ref a0] : List Value).toArray s 0 0 (gA G)) hs [(0, va_rf (some a0))] [] 0 := by
    unfold f_X9_meanPossible at h
    refine q_iconst C (0 : Int32) dX9_meanPossible_0 (by decide) ?_
    refine q_istore_n C (fun v1 => [(1, .int v1), (0, va_rf (some a0))]) dX9_meanPossible_1 (by decide) (fun _ => rfl) h (fun v1 h => ?_)
    refine q_iconst C (0 : Int32) dX9_meanPossible_2 (by decide) ?_
    refine q_istore_n C (fun v2 => [(2, .int v2), (1, .int v1), (0, va_rf (some a0))]) dX9_meanPossible_3 (by decide) (fun _ => rfl) h (fun v2 h => ?_)
    refine WG.sub [2, 1, 0] rfl ?_
    refine w_L_X9_meanPossible_4 C C2 _ _ ?_ _ _ _ _ h
    · intro v8 hs h
      refine q_aload_n C 0 dX9_meanPossible_26 rfl ?_
      refine q_aload_n C 0 dX9_meanPossible_27 rfl ?_
      refine q_gI C fl_X9_84 dX9_meanPossible_28 h (fun v9 h => ?_)
      refine q_if_le C 38 dX9_meanPossible_31 (by decide) h (fun h => ?_) (fun h => ?_)
      · refine q_iconst C (0 : Int32) dX9_meanPossible_38 (by decide) ?_
        exact w_j_X9_meanPossible_39 C C2 _ _ _ _   h
      · refine q_iconst C (1 : Int32) dX9_meanPossible_34 (by decide) ?_
        refine q_goto C 39 dX9_meanPossible_35 (by decide) ?_
        exact w_j_X9_meanPossible_39 C C2 _ _ _ _   h
  rw [lg_entry_eq]
  exact key _ _ _ hR va_S.rf ⟨lv_entry _ (n := 3) (Nat.le_of_ble_eq_true rfl), (c1_r c1_n)⟩

theorem cd_X9_isSound : Cond.code yX9_isSound cX9_isSound 1 (some .boolean) ∈ Tg := Tg_of (i := 1942) (by decide +kernel) (by decide +kernel)
section M_X9_isSound
variable {p : Program} {l : Launch} {e : Env} {s : State} {m : MethodId} {args : Array Value} {below : List Frame} {meth : Method} {c : Code} {G : GG} {o : Except Nat Int32} {hs' : Hs}
end M_X9_isSound
def f_X9_isSound (a0 : Nat) : OO Int32 :=
    pI (some a0) 12 20 (0 : Int32) (
    retZ (1 : Int32))
set_option maxRecDepth 100000 in
set_option maxHeartbeats 4000000 in
theorem m_X9_isSound {G : GG} {l : Launch} {a0 : Nat} {hs hs' : Hs} {o : Except Nat Int32} (h : f_X9_isSound a0 hs = some (o, hs')) : CT G l yX9_isSound cX9_isSound 1 (some .boolean) 0 0 0 0 [.ref a0] hs o hs' tvI := by
  refine vx_ofW (cc := cX9_isSound) (maxL := 1) (ret := (some .boolean)) (by decide +kernel) rfl ?_
  intro p e s m args below meth c s₁ B hml hxt hv
  obtain ⟨hav, hR, hKn⟩ := hv
  subst hav
  have hts := atoms_spec (ws := .code yX9_isSound cX9_isSound 1 (some .boolean) :: Tg) B.pre
  have C : Cx G l p s m _ c RX9 cX9_isSound 1 := ⟨B.exec, B.bytes, hml, findClass_of_methodNamed B.named, fun w hw => hts w (List.mem_cons_of_mem _ hw), hKn, fun q hq => Nat.le_trans hR.2.2.1 hq⟩
  have C2 : Cy meth c (some .boolean) := ⟨B.returns, B.notSynchronized, hxt⟩
  have key : WG G p l e { frames := 0, cells := 0, slots := 0, locals := 0 } s m ([.ref a0] : List Value).toArray below meth c 1 0 0 (vx_MQ below (QcT G o hs' tvI) (XCT G o hs') ([.ref a0] : List Value).toArray s 0 0 (gA G)) hs [(0, va_rf (some a0))] [] 0 := by
    unfold f_X9_isSound at h
    refine q_aload_n C 0 dX9_isSound_0 rfl ?_
    refine q_iconst C (0 : Int32) dX9_isSound_1 (by decide) ?_
    refine q_pI C fw_X9_71 (fun z => nomatch z) dX9_isSound_2 h (fun hs h => ?_)
    refine q_iconst C (1 : Int32) dX9_isSound_5 (by decide) ?_
    exact q_zret C C2 rfl (Nat.le_of_ble_eq_true rfl) (Nat.le_of_ble_eq_true rfl) dX9_isSound_6 h
  rw [lg_entry_eq]
  exact key _ _ _ hR va_S.rf ⟨lv_entry _ (n := 1) (Nat.le_of_ble_eq_true rfl), (c1_r c1_n)⟩

