theorem cd_X9_hasLocked : Cond.code yX9_hasLocked cX9_hasLocked 3 (some .boolean) ∈ Tg := Tg_of (i := 1874) (by decide +kernel) (by decide +kernel)
section M_X9_hasLocked
variable {p : Program} {l : Launch} {e : Env} {s : State} {m : MethodId} {args : Array Value} {below : List Frame} {meth : Method} {c : Code} {G : GG} {o : Except Nat Int32} {hs' : Hs}
def j_X9_hasLocked_27 (a0 : Option Nat) (a1 : Option Nat) (a2 : Int32)  (rec_2 : Int32 → OO Int32) : OO Int32 :=
  lets (a2 + (1 : Int32)) fun (v4 : Int32) =>
    rec_2 v4
set_option maxRecDepth 100000 in
set_option maxHeartbeats 4000000 in
theorem w_j_X9_hasLocked_27 (C : Cx G l p s m args c RX9 cX9_hasLocked 3) (C2 : Cy meth c (some .boolean)) {hs : Hs} (a0 : Option Nat) (a1 : Option Nat) (a2 : Int32)  (rec_2 : Int32 → OO Int32) (hrec_2 : ∀ (y2 : Int32) hs, rec_2 y2 hs = some (o, hs') → WG G p l e { frames := 0, cells := 0, slots := 0, locals := 0 } s m args below meth c 3 0 0 (vx_MQ below (QcT G o hs' tvI) (XCT G o hs') args s 0 0 (gA G)) hs [(0, va_rf a0), (1, va_rf a1), (2, .int y2)] [] 2) (h : j_X9_hasLocked_27 a0 a1 a2 rec_2 hs = some (o, hs')) : WG G p l e { frames := 0, cells := 0, slots := 0, locals := 0 } s m args below meth c 3 0 0 (vx_MQ below (QcT G o hs' tvI) (XCT G o hs') args s 0 0 (gA G)) hs [(0, va_rf a0), (1, va_rf a1), (2, .int a2)] [] 27 := by
  unfold j_X9_hasLocked_27 at h
  refine q_iinc C 2 (1 : Int32) (fun v4 => [(2, .int v4), (0, va_rf a0), (1, va_rf a1)]) dX9_hasLocked_27 rfl (by decide) (by decide) (fun _ => rfl) h (fun v4 h => ?_)
  refine q_goto C 2 dX9_hasLocked_30 (by decide) ?_
  refine WG.sub [1, 2, 0] rfl ?_
  exact hrec_2 _ _ h
def L_X9_hasLocked_2 (a0 : Option Nat) (a1 : Option Nat) (k_2_25 : OO Int32) (k_2_33 : OO Int32) : Nat → Int32 → OO Int32
  | 0, _ => failO
  | n + 1, x2 =>
    gI a0 12 24 fun v2 =>
    (if v2 ≤ x2 then
    k_2_33
    else
    ldI 1 a1 x2 fun v3 =>
    (if v3 = 0 then
    j_X9_hasLocked_27 a0 a1 x2 (L_X9_hasLocked_2 a0 a1 k_2_25 k_2_33 n)
    else
    gR a0 12 8 fun v5 =>
    ldI 1 v5 x2 fun v6 =>
    (if v6 = 0 then
    j_X9_hasLocked_27 a0 a1 x2 (L_X9_hasLocked_2 a0 a1 k_2_25 k_2_33 n)
    else
    k_2_25)))
set_option maxRecDepth 100000 in
set_option maxHeartbeats 4000000 in
theorem w_L_X9_hasLocked_2 (C : Cx G l p s m args c RX9 cX9_hasLocked 3) (C2 : Cy meth c (some .boolean)) (a0 : Option Nat) (a1 : Option Nat) (k_2_25 : OO Int32) (k_2_33 : OO Int32) (hk_2_25 : ∀ hs, k_2_25  hs = some (o, hs') → WG G p l e { frames := 0, cells := 0, slots := 0, locals := 0 } s m args below meth c 3 0 0 (vx_MQ below (QcT G o hs' tvI) (XCT G o hs') args s 0 0 (gA G)) hs [] [] 25) (hk_2_33 : ∀ hs, k_2_33  hs = some (o, hs') → WG G p l e { frames := 0, cells := 0, slots := 0, locals := 0 } s m args below meth c 3 0 0 (vx_MQ below (QcT G o hs' tvI) (XCT G o hs') args s 0 0 (gA G)) hs [] [] 33) : ∀ (n : Nat) (x2 : Int32) (hs : Hs), L_X9_hasLocked_2 a0 a1 k_2_25 k_2_33 n x2 hs = some (o, hs') → WG G p l e { frames := 0, cells := 0, slots := 0, locals := 0 } s m args below meth c 3 0 0 (vx_MQ below (QcT G o hs' tvI) (XCT G o hs') args s 0 0 (gA G)) hs [(0, va_rf a0), (1, va_rf a1), (2, .int x2)] [] 2 := by
  intro n
  induction n with
  | zero =>
    intro x2 hs h
    rw [L_X9_hasLocked_2] at h
    exact absurd h failO_e
  | succ n hrec_2 =>
    intro x2 hs h
    rw [L_X9_hasLocked_2] at h
    refine q_iload_n C 2 dX9_hasLocked_2 rfl ?_
    refine q_aload_n C 0 dX9_hasLocked_3 rfl ?_
    refine q_gI C fl_X9_84 dX9_hasLocked_4 h (fun v2 h => ?_)
    refine q_icmp_ge C 33 dX9_hasLocked_7 (by decide) h (fun h => ?_) (fun h => ?_)
    · refine WG.sub [] rfl ?_
      exact hk_2_33 _ h
    · refine q_aload_n C 1 dX9_hasLocked_10 rfl ?_
      refine q_iload_n C 2 dX9_hasLocked_11 rfl ?_
      refine q_zald C dX9_hasLocked_12 h (fun v3 h => ?_)
      refine q_if_eq C 27 dX9_hasLocked_13 (by decide) h (fun h => ?_) (fun h => ?_)
      · exact w_j_X9_hasLocked_27 C C2 _ _ _ _ hrec_2 h
      · refine q_aload_n C 0 dX9_hasLocked_16 rfl ?_
        refine q_gR C fl_X9_35 dX9_hasLocked_17 h (fun v5 h => ?_)
        refine q_iload_n C 2 dX9_hasLocked_20 rfl ?_
        refine q_zald C dX9_hasLocked_21 h (fun v6 h => ?_)
        refine q_if_eq C 27 dX9_hasLocked_22 (by decide) h (fun h => ?_) (fun h => ?_)
        · exact w_j_X9_hasLocked_27 C C2 _ _ _ _ hrec_2 h
        · refine WG.sub [] rfl ?_
          exact hk_2_25 _ h
end M_X9_hasLocked
def f_X9_hasLocked (a0 : Nat) (p1 : Option Nat) : OO Int32 :=
    lets (0 : Int32) fun (v1 : Int32) =>
    L_X9_hasLocked_2 (some a0) p1 (retZ (1 : Int32)) (retZ (0 : Int32)) 100000 v1
set_option maxRecDepth 100000 in
set_option maxHeartbeats 4000000 in
theorem m_X9_hasLocked {G : GG} {l : Launch} {a0 : Nat} {p1 : Option Nat} {hs hs' : Hs} {o : Except Nat Int32} (h : f_X9_hasLocked a0 p1 hs = some (o, hs')) : CT G l yX9_hasLocked cX9_hasLocked 3 (some .boolean) 0 0 0 0 [.ref a0, va_rf p1] hs o hs' tvI := by
  refine vx_ofW (cc := cX9_hasLocked) (maxL := 3) (ret := (some .boolean)) (by decide +kernel) rfl ?_
  intro p e s m args below meth c s₁ B hml hxt hv
  obtain ⟨hav, hR, hKn⟩ := hv
  subst hav
  have hts := atoms_spec (ws := .code yX9_hasLocked cX9_hasLocked 3 (some .boolean) :: Tg) B.pre
  have C : Cx G l p s m _ c RX9 cX9_hasLocked 3 := ⟨B.exec, B.bytes, hml, findClass_of_methodNamed B.named, fun w hw => hts w (List.mem_cons_of_mem _ hw), hKn, fun q hq => Nat.le_trans hR.2.2.1 hq⟩
  have C2 : Cy meth c (some .boolean) := ⟨B.returns, B.notSynchronized, hxt⟩
  have key : WG G p l e { frames := 0, cells := 0, slots := 0, locals := 0 } s m ([.ref a0, va_rf p1] : List Value).toArray below meth c 3 0 0 (vx_MQ below (QcT G o hs' tvI) (XCT G o hs') ([.ref a0, va_rf p1] : List Value).toArray s 0 0 (gA G)) hs [(0, va_rf (some a0)), (1, va_rf p1)] [] 0 := by
    unfold f_X9_hasLocked at h
    refine q_iconst C (0 : Int32) dX9_hasLocked_0 (by decide) ?_
    refine q_istore_n C (fun v1 => [(2, .int v1), (0, va_rf (some a0)), (1, va_rf p1)]) dX9_hasLocked_1 (by decide) (fun _ => rfl) h (fun v1 h => ?_)
    refine WG.sub [1, 2, 0] rfl ?_
    refine w_L_X9_hasLocked_2 C C2 _ _ _ _ ?_ ?_ _ _ _ h
    · intro  hs h
      refine q_iconst C (1 : Int32) dX9_hasLocked_25 (by decide) ?_
      exact q_zret C C2 rfl (Nat.le_of_ble_eq_true rfl) (Nat.le_of_ble_eq_true rfl) dX9_hasLocked_26 h
    · intro  hs h
      refine q_iconst C (0 : Int32) dX9_hasLocked_33 (by decide) ?_
      exact q_zret C C2 rfl (Nat.le_of_ble_eq_true rfl) (Nat.le_of_ble_eq_true rfl) dX9_hasLocked_34 h
  rw [lg_entry_eq]
  cases p1 <;> exact key _ _ _ hR va_S.rf ⟨lv_entry _ (n := 3) (Nat.le_of_ble_eq_true rfl), (c1_r (c1_r c1_n))⟩

theorem cd_X9_ill : Cond.code yX9_ill cX9_ill 5 (some .int) ∈ Tg := Tg_of (i := 1870) (by decide +kernel) (by decide +kernel)
theorem ml_X9_244 : Cond.methodLink RX9 244 yX9_hasLocked ∈ Tg := Tg_of (i := 1871) (by decide +kernel) (by decide +kernel)
theorem lk_X9_244 : Lk RX9 244 yX9_hasLocked cX9_hasLocked 3 (some .boolean) 1 := ⟨ml_X9_244, cd_X9_hasLocked, iw_X9, by decide +kernel⟩
theorem ml_X9_248 : Cond.methodLink RX9 248 yX9_repairs ∈ Tg := Tg_of (i := 1875) (by decide +kernel) (by decide +kernel)
theorem lk_X9_248 : Lk RX9 248 yX9_repairs cX9_repairs 4 (some .int) 1 := ⟨ml_X9_248, cd_X9_repairs, iw_X9, by decide +kernel⟩
theorem im_X9_repairs : Cond.instanceMethod yX9_repairs ∈ Tg := Tg_of (i := 1877) (by decide +kernel) (by decide +kernel)
theorem se_X9_X9_repairs : Cond.selects RX9 yX9_repairs yX9_repairs ∈ Tg := Tg_of (i := 76) (by decide +kernel) (by decide +kernel)
theorem im_X9_hasLocked : Cond.instanceMethod yX9_hasLocked ∈ Tg := Tg_of (i := 1873) (by decide +kernel) (by decide +kernel)
theorem se_X9_X9_hasLocked : Cond.selects RX9 yX9_hasLocked yX9_hasLocked ∈ Tg := Tg_of (i := 75) (by decide +kernel) (by decide +kernel)
section M_X9_ill
variable {p : Program} {l : Launch} {e : Env} {s : State} {m : MethodId} {args : Array Value} {below : List Frame} {meth : Method} {c : Code} {G : GG} {o : Except Nat Int32} {hs' : Hs}
def j_X9_ill_118 (a0 : Option Nat) (a1 : Int32) (a2 : Int32) (a3 : Option Nat) (a4 : Int32) (s0 : Int32) (s1 : Int32) (s2 : Option Nat) (rec_68 : Int32 → OO Int32) : OO Int32 :=
  stZ s2 s1 s0 (
    lets (a4 + (1 : Int32)) fun (v13 : Int32) =>
    rec_68 v13)
set_option maxRecDepth 100000 in
set_option maxHeartbeats 4000000 in
theorem w_j_X9_ill_118 (C : Cx G l p s m args c RX9 cX9_ill 5) (C2 : Cy meth c (some .int)) {hs : Hs} (a0 : Option Nat) (a1 : Int32) (a2 : Int32) (a3 : Option Nat) (a4 : Int32) (s0 : Int32) (s1 : Int32) (s2 : Option Nat) (rec_68 : Int32 → OO Int32) (hrec_68 : ∀ (y4 : Int32) hs, rec_68 y4 hs = some (o, hs') → WG G p l e { frames := 10, cells := 1, slots := 16, locals := 230 } s m args below meth c 5 1 16 (vx_MQ below (QcT G o hs' tvI) (XCT G o hs') args s 1 16 (gA G)) hs [(0, va_rf a0), (1, .int a1), (2, .int a2), (3, va_rf a3), (4, .int y4)] [] 68) (h : j_X9_ill_118 a0 a1 a2 a3 a4 s0 s1 s2 rec_68 hs = some (o, hs')) : WG G p l e { frames := 10, cells := 1, slots := 16, locals := 230 } s m args below meth c 5 1 16 (vx_MQ below (QcT G o hs' tvI) (XCT G o hs') args s 1 16 (gA G)) hs [(0, va_rf a0), (1, .int a1), (2, .int a2), (3, va_rf a3), (4, .int a4)] [.int s0, .int s1, va_rf s2] 118 := by
  unfold j_X9_ill_118 at h
  refine q_zast C dX9_ill_118 h (fun hs h => ?_)
  refine q_iinc C 4 (1 : Int32) (fun v13 => [(4, .int v13), (0, va_rf a0), (1, .int a1), (2, .int a2), (3, va_rf a3)]) dX9_ill_119 rfl (by decide) (by decide) (fun _ => rfl) h (fun v13 h => ?_)
  refine q_goto C 68 dX9_ill_122 (by decide) ?_
  refine WG.sub [1, 2, 3, 4, 0] rfl ?_
  exact hrec_68 _ _ h
def j_X9_ill_117 (a0 : Option Nat) (a1 : Int32) (a2 : Int32) (a3 : Option Nat) (a4 : Int32) (s0 : Int32) (s1 : Option Nat) (rec_68 : Int32 → OO Int32) : OO Int32 :=
  j_X9_ill_118 a0 a1 a2 a3 a4 (0 : Int32) s0 s1 rec_68
set_option maxRecDepth 100000 in
set_option maxHeartbeats 4000000 in
theorem w_j_X9_ill_117 (C : Cx G l p s m args c RX9 cX9_ill 5) (C2 : Cy meth c (some .int)) {hs : Hs} (a0 : Option Nat) (a1 : Int32) (a2 : Int32) (a3 : Option Nat) (a4 : Int32) (s0 : Int32) (s1 : Option Nat) (rec_68 : Int32 → OO Int32) (hrec_68 : ∀ (y4 : Int32) hs, rec_68 y4 hs = some (o, hs') → WG G p l e { frames := 10, cells := 1, slots := 16, locals := 230 } s m args below meth c 5 1 16 (vx_MQ below (QcT G o hs' tvI) (XCT G o hs') args s 1 16 (gA G)) hs [(0, va_rf a0), (1, .int a1), (2, .int a2), (3, va_rf a3), (4, .int y4)] [] 68) (h : j_X9_ill_117 a0 a1 a2 a3 a4 s0 s1 rec_68 hs = some (o, hs')) : WG G p l e { frames := 10, cells := 1, slots := 16, locals := 230 } s m args below meth c 5 1 16 (vx_MQ below (QcT G o hs' tvI) (XCT G o hs') args s 1 16 (gA G)) hs [(0, va_rf a0), (1, .int a1), (2, .int a2), (3, va_rf a3), (4, .int a4)] [.int s0, va_rf s1] 117 := by
  unfold j_X9_ill_117 at h
  refine q_iconst C (0 : Int32) dX9_ill_117 (by decide) ?_
  exact w_j_X9_ill_118 C C2 _ _ _ _ _ _ _ _ _ hrec_68 h
def L_X9_ill_68 (a0 : Option Nat) (a1 : Int32) (a2 : Int32) (a3 : Option Nat) (k_68_125 : OO Int32) : Nat → Int32 → OO Int32
  | 0, _ => failO
  | n + 1, x4 =>
    gI a0 12 24 fun v10 =>
    (if v10 ≤ x4 then
    k_68_125
    else
    gR a0 12 10 fun v11 =>
    ldI 0 v11 x4 fun v12 =>
    (if ¬ v12 = a1 then
    j_X9_ill_117 a0 a1 a2 a3 x4 x4 a3 (L_X9_ill_68 a0 a1 a2 a3 k_68_125 n)
    else
    rcv a0 12 fun r17 => call (f_X9_isPlaced r17 x4) (fun (v14 : Int32) =>
    (if v14 = 0 then
    j_X9_ill_117 a0 a1 a2 a3 x4 x4 a3 (L_X9_ill_68 a0 a1 a2 a3 k_68_125 n)
    else
    rcv a0 12 fun r16 => call (f_X9_slotOf r16 x4) (fun (v15 : Int32) =>
    dvz (6 : Int32) (
    (if ¬ (v15 / (6 : Int32)) = a2 then
    j_X9_ill_117 a0 a1 a2 a3 x4 x4 a3 (L_X9_ill_68 a0 a1 a2 a3 k_68_125 n)
    else
    j_X9_ill_118 a0 a1 a2 a3 x4 (1 : Int32) x4 a3 (L_X9_ill_68 a0 a1 a2 a3 k_68_125 n)))) nox)) nox))
set_option maxRecDepth 100000 in
set_option maxHeartbeats 4000000 in
theorem w_L_X9_ill_68 (C : Cx G l p s m args c RX9 cX9_ill 5) (C2 : Cy meth c (some .int)) (a0 : Option Nat) (a1 : Int32) (a2 : Int32) (a3 : Option Nat) (k_68_125 : OO Int32) (hk_68_125 : ∀ hs, k_68_125  hs = some (o, hs') → WG G p l e { frames := 10, cells := 1, slots := 16, locals := 230 } s m args below meth c 5 1 16 (vx_MQ below (QcT G o hs' tvI) (XCT G o hs') args s 1 16 (gA G)) hs [(0, va_rf a0), (1, .int a1), (2, .int a2), (3, va_rf a3)] [] 125) : ∀ (n : Nat) (x4 : Int32) (hs : Hs), L_X9_ill_68 a0 a1 a2 a3 k_68_125 n x4 hs = some (o, hs') → WG G p l e { frames := 10, cells := 1, slots := 16, locals := 230 } s m args below meth c 5 1 16 (vx_MQ below (QcT G o hs' tvI) (XCT G o hs') args s 1 16 (gA G)) hs [(0, va_rf a0), (1, .int a1), (2, .int a2), (3, va_rf a3), (4, .int x4)] [] 68 := by
  intro n
  induction n with
  | zero =>
    intro x4 hs h
    rw [L_X9_ill_68] at h
    exact absurd h failO_e
  | succ n hrec_68 =>
    intro x4 hs h
    rw [L_X9_ill_68] at h
    refine q_iload C 4 dX9_ill_68 rfl ?_
    refine q_aload_n C 0 dX9_ill_70 rfl ?_
    refine q_gI C fl_X9_84 dX9_ill_71 h (fun v10 h => ?_)
    refine q_icmp_ge C 125 dX9_ill_74 (by decide) h (fun h => ?_) (fun h => ?_)
    · refine WG.sub [0, 1, 2, 3] rfl ?_
      exact hk_68_125 _ h
    · refine q_aload_n C 3 dX9_ill_77 rfl ?_
      refine q_iload C 4 dX9_ill_78 rfl ?_
      refine q_aload_n C 0 dX9_ill_80 rfl ?_
      refine q_gR C fl_X9_41 dX9_ill_81 h (fun v11 h => ?_)
      refine q_iload C 4 dX9_ill_84 rfl ?_
      refine q_iald C dX9_ill_86 h (fun v12 h => ?_)
      refine q_iload_n C 1 dX9_ill_87 rfl ?_
      refine q_icmp_ne C 117 dX9_ill_88 (by decide) h (fun h => ?_) (fun h => ?_)
      · exact w_j_X9_ill_117 C C2 _ _ _ _ _ _ _ _ hrec_68 h
      · refine q_aload_n C 0 dX9_ill_91 rfl ?_
        refine q_iload C 4 dX9_ill_92 rfl ?_
        refine q_callV C (CN := RX9) (T := TX9) (N := 28) [.int x4] [.int x4, va_rf a3] (fun a0 o2 hs1 hm => m_X9_isPlaced hm) lk_X9_118 im_X9_isPlaced se_X9_X9_isPlaced rfl ⟨(Nat.le_of_ble_eq_true rfl), (Nat.le_of_ble_eq_true rfl)⟩ ⟨(Nat.le_of_ble_eq_true rfl), (Nat.le_of_ble_eq_true rfl)⟩ rfl rfl (by simp only [List.map, cat_rf, cat_i, cat_a]; decide) dX9_ill_94 h (fun v14 hs h => WG_st (st' := [.int v14, .int x4, va_rf a3]) rfl ?_)
        refine q_if_eq C 117 dX9_ill_97 (by decide) h (fun h => ?_) (fun h => ?_)
        · exact w_j_X9_ill_117 C C2 _ _ _ _ _ _ _ _ hrec_68 h
        · refine q_aload_n C 0 dX9_ill_100 rfl ?_
          refine q_iload C 4 dX9_ill_101 rfl ?_
          refine q_callV C (CN := RX9) (T := TX9) (N := 28) [.int x4] [.int x4, va_rf a3] (fun a0 o2 hs1 hm => m_X9_slotOf hm) lk_X9_114 im_X9_slotOf se_X9_X9_slotOf rfl ⟨(Nat.le_of_ble_eq_true rfl), (Nat.le_of_ble_eq_true rfl)⟩ ⟨(Nat.le_of_ble_eq_true rfl), (Nat.le_of_ble_eq_true rfl)⟩ rfl rfl (by simp only [List.map, cat_rf, cat_i, cat_a]; decide) dX9_ill_103 h (fun v15 hs h => WG_st (st' := [.int v15, .int x4, va_rf a3]) rfl ?_)
          refine q_bipush C (6 : Int32) dX9_ill_106 (by decide) ?_
          refine q_idiv C dX9_ill_108 h (fun h => ?_)
          refine q_iload_n C 2 dX9_ill_109 rfl ?_
          refine q_icmp_ne C 117 dX9_ill_110 (by decide) h (fun h => ?_) (fun h => ?_)
          · exact w_j_X9_ill_117 C C2 _ _ _ _ _ _ _ _ hrec_68 h
          · refine q_iconst C (1 : Int32) dX9_ill_113 (by decide) ?_
            refine q_goto C 118 dX9_ill_114 (by decide) ?_
            exact w_j_X9_ill_118 C C2 _ _ _ _ _ _ _ _ _ hrec_68 h
def j_X9_ill_139 (a0 : Option Nat) (a1 : Int32) (a2 : Int32) (a3 : Option Nat) (s0 : Int32) (s1 : Option Nat)  : OO Int32 :=
  pI s1 12 20 s0 (
    gI a0 12 20 fun v19 =>
    (if v19 ≤ 0 then
    gR a0 12 3 fun v20 =>
    ldI 0 v20 a1 fun v21 =>
    stI v20 a1 ((v21 + (((1 : Int32) <<< (a2 &&& 31))))) (
    rcv a0 12 fun r23 => call (f_X9_repairs r23 a3) (fun (v22 : Int32) =>
    rtn v22) nox)
    else
    rtn (0 : Int32)))
set_option maxRecDepth 100000 in
set_option maxHeartbeats 4000000 in
theorem w_j_X9_ill_139 (C : Cx G l p s m args c RX9 cX9_ill 5) (C2 : Cy meth c (some .int)) {hs : Hs} (a0 : Option Nat) (a1 : Int32) (a2 : Int32) (a3 : Option Nat) (s0 : Int32) (s1 : Option Nat)   (h : j_X9_ill_139 a0 a1 a2 a3 s0 s1 hs = some (o, hs')) : WG G p l e { frames := 10, cells := 1, slots := 16, locals := 230 } s m args below meth c 5 1 16 (vx_MQ below (QcT G o hs' tvI) (XCT G o hs') args s 1 16 (gA G)) hs [(0, va_rf a0), (1, .int a1), (2, .int a2), (3, va_rf a3)] [.int s0, va_rf s1] 139 := by
  unfold j_X9_ill_139 at h
  refine q_pI C fw_X9_71 (fun z => nomatch z) dX9_ill_139 h (fun hs h => ?_)
  refine q_aload_n C 0 dX9_ill_142 rfl ?_
  refine q_gI C fl_X9_71 dX9_ill_143 h (fun v19 h => ?_)
  refine q_if_le C 151 dX9_ill_146 (by decide) h (fun h => ?_) (fun h => ?_)
  · refine q_aload_n C 0 dX9_ill_151 rfl ?_
    refine q_gR C fl_X9_19 dX9_ill_152 h (fun v20 h => ?_)
    refine q_iload_n C 1 dX9_ill_155 rfl ?_
    refine q_dup2 C rfl (cat_rf _) dX9_ill_156 ?_
    refine q_iald C dX9_ill_157 h (fun v21 h => ?_)
    refine q_iconst C (1 : Int32) dX9_ill_158 (by decide) ?_
    refine q_iload_n C 2 dX9_ill_159 rfl ?_
    refine q_ishl C dX9_ill_160 ?_
    refine q_iadd C dX9_ill_161 ?_
    refine q_iast C dX9_ill_162 h (fun hs h => ?_)
    refine q_aload_n C 0 dX9_ill_163 rfl ?_
    refine q_aload_n C 3 dX9_ill_164 rfl ?_
    refine q_callV C (CN := RX9) (T := TX9) (N := 28) [va_rf a3] [] (fun a0 o2 hs1 hm => m_X9_repairs hm) lk_X9_248 im_X9_repairs se_X9_X9_repairs rfl ⟨(Nat.le_of_ble_eq_true rfl), (Nat.le_of_ble_eq_true rfl)⟩ ⟨(Nat.le_of_ble_eq_true rfl), (Nat.le_of_ble_eq_true rfl)⟩ rfl rfl (by decide) dX9_ill_165 h (fun v22 hs h => WG_st (st' := [.int v22]) rfl ?_)
    exact q_iret C C2 rfl (Nat.le_of_ble_eq_true rfl) (Nat.le_of_ble_eq_true rfl) dX9_ill_168 h
  · refine q_iconst C (0 : Int32) dX9_ill_149 (by decide) ?_
    exact q_iret C C2 rfl (Nat.le_of_ble_eq_true rfl) (Nat.le_of_ble_eq_true rfl) dX9_ill_150 h
def j_X9_ill_48 (a0 : Option Nat) (a1 : Int32) (a2 : Int32) (s0 : Int32) (s1 : Option Nat)  : OO Int32 :=
  pI s1 12 20 s0 (
    gI a0 12 20 fun v6 =>
    (if v6 ≤ 0 then
    nwI 1 (16 : Int32) 16 fun q7 =>
    lets (some q7) fun (v8 : Option Nat) =>
    lets (0 : Int32) fun (v9 : Int32) =>
    L_X9_ill_68 a0 a1 a2 v8 (rcv a0 12 fun r24 => call (f_X9_hasLocked r24 v8) (fun (v18 : Int32) =>
    (if v18 = 0 then
    j_X9_ill_139 a0 a1 a2 v8 (0 : Int32) a0
    else
    j_X9_ill_139 a0 a1 a2 v8 (4 : Int32) a0)) nox) 100000 v9
    else
    rtn (0 : Int32)))
set_option maxRecDepth 100000 in
set_option maxHeartbeats 4000000 in
theorem w_j_X9_ill_48 (C : Cx G l p s m args c RX9 cX9_ill 5) (C2 : Cy meth c (some .int)) {hs : Hs} (a0 : Option Nat) (a1 : Int32) (a2 : Int32) (s0 : Int32) (s1 : Option Nat)   (h : j_X9_ill_48 a0 a1 a2 s0 s1 hs = some (o, hs')) : WG G p l e { frames := 10, cells := 1, slots := 16, locals := 230 } s m args below meth c 5 0 0 (vx_MQ below (QcT G o hs' tvI) (XCT G o hs') args s 1 16 (gA G)) hs [(0, va_rf a0), (1, .int a1), (2, .int a2)] [.int s0, va_rf s1] 48 := by
  unfold j_X9_ill_48 at h
  refine q_pI C fw_X9_71 (fun z => nomatch z) dX9_ill_48 h (fun hs h => ?_)
  refine q_aload_n C 0 dX9_ill_51 rfl ?_
  refine q_gI C fl_X9_71 dX9_ill_52 h (fun v6 h => ?_)
  refine q_if_le C 60 dX9_ill_55 (by decide) h (fun h => ?_) (fun h => ?_)
  · refine q_bipush C (16 : Int32) dX9_ill_60 (by decide) ?_
    refine q_newZ C 16 (Nat.le_of_ble_eq_true rfl) ac_1 (Nat.le_of_ble_eq_true rfl) (Nat.le_of_ble_eq_true rfl) dX9_ill_62 h (fun q7 hs h => ?_)
    refine q_astore_n C (fun v8 => [(3, va_rf v8), (0, va_rf a0), (1, .int a1), (2, .int a2)]) dX9_ill_64 (by decide) (fun _ => rfl) h (fun v8 h => ?_)
    refine q_iconst C (0 : Int32) dX9_ill_65 (by decide) ?_
    refine q_istore C (fun v9 => [(4, .int v9), (3, va_rf v8), (0, va_rf a0), (1, .int a1), (2, .int a2)]) dX9_ill_66 (by decide) (fun _ => rfl) h (fun v9 h => ?_)
    refine WG.sub [2, 3, 4, 1, 0] rfl ?_
    refine w_L_X9_ill_68 C C2 _ _ _ _ _ ?_ _ _ _ h
    · intro  hs h
      refine q_aload_n C 0 dX9_ill_125 rfl ?_
      refine q_aload_n C 0 dX9_ill_126 rfl ?_
      refine q_aload_n C 3 dX9_ill_127 rfl ?_
      refine q_callV C (CN := RX9) (T := TX9) (N := 28) [va_rf v8] [va_rf a0] (fun a0 o2 hs1 hm => m_X9_hasLocked hm) lk_X9_244 im_X9_hasLocked se_X9_X9_hasLocked rfl ⟨(Nat.le_of_ble_eq_true rfl), (Nat.le_of_ble_eq_true rfl)⟩ ⟨(Nat.le_of_ble_eq_true rfl), (Nat.le_of_ble_eq_true rfl)⟩ rfl rfl (by simp only [List.map, cat_rf, cat_i, cat_a]; decide) dX9_ill_128 h (fun v18 hs h => WG_st (st' := [.int v18, va_rf a0]) rfl ?_)
      refine q_if_eq C 138 dX9_ill_131 (by decide) h (fun h => ?_) (fun h => ?_)
      · refine q_iconst C (0 : Int32) dX9_ill_138 (by decide) ?_
        exact w_j_X9_ill_139 C C2 _ _ _ _ _ _   h
      · refine q_iconst C (4 : Int32) dX9_ill_134 (by decide) ?_
        refine q_goto C 139 dX9_ill_135 (by decide) ?_
        exact w_j_X9_ill_139 C C2 _ _ _ _ _ _   h
  · refine q_iconst C (0 : Int32) dX9_ill_58 (by decide) ?_
    exact q_iret C C2 rfl (Nat.le_of_ble_eq_true rfl) (Nat.le_of_ble_eq_true rfl) dX9_ill_59 h
end M_X9_ill
def f_X9_ill (a0 : Nat) (p1 : Int32) (p2 : Int32) : OO Int32 :=
    rcv (some a0) 12 fun r25 => call (f_X9_isTeacher r25 p1) (fun (v1 : Int32) =>
    (if ¬ v1 = 0 then
    gI (some a0) 12 26 fun v2 =>
    call (f_X9_in p2 v2 (4 : Int32)) (fun (v3 : Int32) =>
    (if ¬ v3 = 0 then
    gR (some a0) 12 3 fun v4 =>
    ldI 0 v4 p1 fun v5 =>
    dvz (2 : Int32) (
    (if ¬ ((irem (v5 >>> (p2 &&& 31)) (2 : Int32))) = (1 : Int32) then
    j_X9_ill_48 (some a0) p1 p2 (0 : Int32) (some a0)
    else
    j_X9_ill_48 (some a0) p1 p2 (3 : Int32) (some a0)))
    else
    j_X9_ill_48 (some a0) p1 p2 (2 : Int32) (some a0))) nox
    else
    j_X9_ill_48 (some a0) p1 p2 (1 : Int32) (some a0))) nox
set_option maxRecDepth 100000 in
set_option maxHeartbeats 4000000 in
theorem m_X9_ill {G : GG} {l : Launch} {a0 : Nat} {p1 : Int32} {p2 : Int32} {hs hs' : Hs} {o : Except Nat Int32} (h : f_X9_ill a0 p1 p2 hs = some (o, hs')) : CT G l yX9_ill cX9_ill 5 (some .int) 10 230 1 16 [.ref a0, .int p1, .int p2] hs o hs' tvI := by
  refine vx_ofW (cc := cX9_ill) (maxL := 5) (ret := (some .int)) (by decide +kernel) rfl ?_
  intro p e s m args below meth c s₁ B hml hxt hv
  obtain ⟨hav, hR, hKn⟩ := hv
  subst hav
  have hts := atoms_spec (ws := .code yX9_ill cX9_ill 5 (some .int) :: Tg) B.pre
  have C : Cx G l p s m _ c RX9 cX9_ill 5 := ⟨B.exec, B.bytes, hml, findClass_of_methodNamed B.named, fun w hw => hts w (List.mem_cons_of_mem _ hw), hKn, fun q hq => Nat.le_trans hR.2.2.1 hq⟩
  have C2 : Cy meth c (some .int) := ⟨B.returns, B.notSynchronized, hxt⟩
  have key : WG G p l e { frames := 10, cells := 1, slots := 16, locals := 230 } s m ([.ref a0, .int p1, .int p2] : List Value).toArray below meth c 5 0 0 (vx_MQ below (QcT G o hs' tvI) (XCT G o hs') ([.ref a0, .int p1, .int p2] : List Value).toArray s 1 16 (gA G)) hs [(0, va_rf (some a0)), (1, .int p1), (2, .int p2)] [] 0 := by
    unfold f_X9_ill at h
    refine q_aload_n C 0 dX9_ill_0 rfl ?_
    refine q_aload_n C 0 dX9_ill_1 rfl ?_
    refine q_iload_n C 1 dX9_ill_2 rfl ?_
    refine q_callV C (CN := RX9) (T := TX9) (N := 28) [.int p1] [va_rf (some a0)] (fun a0 o2 hs1 hm => m_X9_isTeacher hm) lk_X9_104 im_X9_isTeacher se_X9_X9_isTeacher rfl ⟨(Nat.le_of_ble_eq_true rfl), (Nat.le_of_ble_eq_true rfl)⟩ ⟨(Nat.le_of_ble_eq_true rfl), (Nat.le_of_ble_eq_true rfl)⟩ rfl rfl (by simp only [List.map, cat_rf, cat_i, cat_a]; decide) dX9_ill_3 h (fun v1 hs h => WG_st (st' := [.int v1, va_rf (some a0)]) rfl ?_)
    refine q_if_ne C 13 dX9_ill_6 (by decide) h (fun h => ?_) (fun h => ?_)
    · refine q_iload_n C 2 dX9_ill_13 rfl ?_
      refine q_aload_n C 0 dX9_ill_14 rfl ?_
      refine q_gI C fl_X9_90 dX9_ill_15 h (fun v2 h => ?_)
      refine q_iconst C (4 : Int32) dX9_ill_18 (by decide) ?_
      refine q_callS C [.int p2, .int v2, .int (4 : Int32)] [va_rf (some a0)] (fun o2 hs1 hm => m_X9_in hm) lk_X9_96 sm_X9_in ⟨(Nat.le_of_ble_eq_true rfl), (Nat.le_of_ble_eq_true rfl)⟩ ⟨(Nat.le_of_ble_eq_true rfl), (Nat.le_of_ble_eq_true rfl)⟩ rfl rfl (by simp only [List.map, cat_rf, cat_i, cat_a]; decide) dX9_ill_19 h (fun v3 hs h => WG_st (st' := [.int v3, va_rf (some a0)]) rfl ?_)
      refine q_if_ne C 29 dX9_ill_22 (by decide) h (fun h => ?_) (fun h => ?_)
      · refine q_aload_n C 0 dX9_ill_29 rfl ?_
        refine q_gR C fl_X9_19 dX9_ill_30 h (fun v4 h => ?_)
        refine q_iload_n C 1 dX9_ill_33 rfl ?_
        refine q_iald C dX9_ill_34 h (fun v5 h => ?_)
        refine q_iload_n C 2 dX9_ill_35 rfl ?_
        refine q_ishr C dX9_ill_36 ?_
        refine q_iconst C (2 : Int32) dX9_ill_37 (by decide) ?_
        refine q_irem C dX9_ill_38 h (fun h => ?_)
        refine q_iconst C (1 : Int32) dX9_ill_39 (by decide) ?_
        refine q_icmp_ne C 47 dX9_ill_40 (by decide) h (fun h => ?_) (fun h => ?_)
        · refine q_iconst C (0 : Int32) dX9_ill_47 (by decide) ?_
          exact w_j_X9_ill_48 C C2 _ _ _ _ _   h
        · refine q_iconst C (3 : Int32) dX9_ill_43 (by decide) ?_
          refine q_goto C 48 dX9_ill_44 (by decide) ?_
          exact w_j_X9_ill_48 C C2 _ _ _ _ _   h
      · refine q_iconst C (2 : Int32) dX9_ill_25 (by decide) ?_
        refine q_goto C 48 dX9_ill_26 (by decide) ?_
        exact w_j_X9_ill_48 C C2 _ _ _ _ _   h
    · refine q_iconst C (1 : Int32) dX9_ill_9 (by decide) ?_
      refine q_goto C 48 dX9_ill_10 (by decide) ?_
      exact w_j_X9_ill_48 C C2 _ _ _ _ _   h
  rw [lg_entry_eq]
  exact key _ _ _ hR va_S.rf ⟨lv_entry _ (n := 5) (Nat.le_of_ble_eq_true rfl), (c1_r (c1_i (c1_i c1_n)))⟩

theorem cd_X9_close : Cond.code yX9_close cX9_close 4 (some .int) ∈ Tg := Tg_of (i := 1882) (by decide +kernel) (by decide +kernel)
section M_X9_close
variable {p : Program} {l : Launch} {e : Env} {s : State} {m : MethodId} {args : Array Value} {below : List Frame} {meth : Method} {c : Code} {G : GG} {o : Except Nat Int32} {hs' : Hs}
def j_X9_close_82 (a0 : Option Nat) (a1 : Int32) (a2 : Option Nat) (a3 : Int32) (s0 : Int32) (s1 : Int32) (s2 : Option Nat) (rec_46 : Int32 → OO Int32) : OO Int32 :=
  stZ s2 s1 s0 (
    lets (a3 + (1 : Int32)) fun (v10 : Int32) =>
    rec_46 v10)
set_option maxRecDepth 100000 in
set_option maxHeartbeats 4000000 in
theorem w_j_X9_close_82 (C : Cx G l p s m args c RX9 cX9_close 4) (C2 : Cy meth c (some .int)) {hs : Hs} (a0 : Option Nat) (a1 : Int32) (a2 : Option Nat) (a3 : Int32) (s0 : Int32) (s1 : Int32) (s2 : Option Nat) (rec_46 : Int32 → OO Int32) (hrec_46 : ∀ (y3 : Int32) hs, rec_46 y3 hs = some (o, hs') → WG G p l e { frames := 10, cells := 1, slots := 16, locals := 230 } s m args below meth c 4 1 16 (vx_MQ below (QcT G o hs' tvI) (XCT G o hs') args s 1 16 (gA G)) hs [(0, va_rf a0), (1, .int a1), (2, va_rf a2), (3, .int y3)] [] 46) (h : j_X9_close_82 a0 a1 a2 a3 s0 s1 s2 rec_46 hs = some (o, hs')) : WG G p l e { frames := 10, cells := 1, slots := 16, locals := 230 } s m args below meth c 4 1 16 (vx_MQ below (QcT G o hs' tvI) (XCT G o hs') args s 1 16 (gA G)) hs [(0, va_rf a0), (1, .int a1), (2, va_rf a2), (3, .int a3)] [.int s0, .int s1, va_rf s2] 82 := by
  unfold j_X9_close_82 at h
  refine q_zast C dX9_close_82 h (fun hs h => ?_)
  refine q_iinc C 3 (1 : Int32) (fun v10 => [(3, .int v10), (0, va_rf a0), (1, .int a1), (2, va_rf a2)]) dX9_close_83 rfl (by decide) (by decide) (fun _ => rfl) h (fun v10 h => ?_)
  refine q_goto C 46 dX9_close_86 (by decide) ?_
  refine WG.sub [1, 2, 3, 0] rfl ?_
  exact hrec_46 _ _ h
def j_X9_close_81 (a0 : Option Nat) (a1 : Int32) (a2 : Option Nat) (a3 : Int32) (s0 : Int32) (s1 : Option Nat) (rec_46 : Int32 → OO Int32) : OO Int32 :=
  j_X9_close_82 a0 a1 a2 a3 (0 : Int32) s0 s1 rec_46
set_option maxRecDepth 100000 in
set_option maxHeartbeats 4000000 in
theorem w_j_X9_close_81 (C : Cx G l p s m args c RX9 cX9_close 4) (C2 : Cy meth c (some .int)) {hs : Hs} (a0 : Option Nat) (a1 : Int32) (a2 : Option Nat) (a3 : Int32) (s0 : Int32) (s1 : Option Nat) (rec_46 : Int32 → OO Int32) (hrec_46 : ∀ (y3 : Int32) hs, rec_46 y3 hs = some (o, hs') → WG G p l e { frames := 10, cells := 1, slots := 16, locals := 230 } s m args below meth c 4 1 16 (vx_MQ below (QcT G o hs' tvI) (XCT G o hs') args s 1 16 (gA G)) hs [(0, va_rf a0), (1, .int a1), (2, va_rf a2), (3, .int y3)] [] 46) (h : j_X9_close_81 a0 a1 a2 a3 s0 s1 rec_46 hs = some (o, hs')) : WG G p l e { frames := 10, cells := 1, slots := 16, locals := 230 } s m args below meth c 4 1 16 (vx_MQ below (QcT G o hs' tvI) (XCT G o hs') args s 1 16 (gA G)) hs [(0, va_rf a0), (1, .int a1), (2, va_rf a2), (3, .int a3)] [.int s0, va_rf s1] 81 := by
  unfold j_X9_close_81 at h
  refine q_iconst C (0 : Int32) dX9_close_81 (by decide) ?_
  exact w_j_X9_close_82 C C2 _ _ _ _ _ _ _ _ hrec_46 h
def L_X9_close_46 (a0 : Option Nat) (a1 : Int32) (a2 : Option Nat) (k_46_89 : OO Int32) : Nat → Int32 → OO Int32
  | 0, _ => failO
  | n + 1, x3 =>
    gI a0 12 24 fun v8 =>
    (if v8 ≤ x3 then
    k_46_89
    else
    rcv a0 12 fun r13 => call (f_X9_isPlaced r13 x3) (fun (v9 : Int32) =>
    (if v9 = 0 then
    j_X9_close_81 a0 a1 a2 x3 x3 a2 (L_X9_close_46 a0 a1 a2 k_46_89 n)
    else
    gR a0 12 14 fun v11 =>
    ldI 0 v11 x3 fun v12 =>
    dvz (8 : Int32) (
    (if ¬ (irem v12 (8 : Int32)) = a1 then
    j_X9_close_81 a0 a1 a2 x3 x3 a2 (L_X9_close_46 a0 a1 a2 k_46_89 n)
    else
    j_X9_close_82 a0 a1 a2 x3 (1 : Int32) x3 a2 (L_X9_close_46 a0 a1 a2 k_46_89 n))))) nox)
set_option maxRecDepth 100000 in
set_option maxHeartbeats 4000000 in
theorem w_L_X9_close_46 (C : Cx G l p s m args c RX9 cX9_close 4) (C2 : Cy meth c (some .int)) (a0 : Option Nat) (a1 : Int32) (a2 : Option Nat) (k_46_89 : OO Int32) (hk_46_89 : ∀ hs, k_46_89  hs = some (o, hs') → WG G p l e { frames := 10, cells := 1, slots := 16, locals := 230 } s m args below meth c 4 1 16 (vx_MQ below (QcT G o hs' tvI) (XCT G o hs') args s 1 16 (gA G)) hs [(0, va_rf a0), (1, .int a1), (2, va_rf a2)] [] 89) : ∀ (n : Nat) (x3 : Int32) (hs : Hs), L_X9_close_46 a0 a1 a2 k_46_89 n x3 hs = some (o, hs') → WG G p l e { frames := 10, cells := 1, slots := 16, locals := 230 } s m args below meth c 4 1 16 (vx_MQ below (QcT G o hs' tvI) (XCT G o hs') args s 1 16 (gA G)) hs [(0, va_rf a0), (1, .int a1), (2, va_rf a2), (3, .int x3)] [] 46 := by
  intro n
  induction n with
  | zero =>
    intro x3 hs h
    rw [L_X9_close_46] at h
    exact absurd h failO_e
  | succ n hrec_46 =>
    intro x3 hs h
    rw [L_X9_close_46] at h
    refine q_iload_n C 3 dX9_close_46 rfl ?_
    refine q_aload_n C 0 dX9_close_47 rfl ?_
    refine q_gI C fl_X9_84 dX9_close_48 h (fun v8 h => ?_)
    refine q_icmp_ge C 89 dX9_close_51 (by decide) h (fun h => ?_) (fun h => ?_)
    · refine WG.sub [0, 1, 2] rfl ?_
      exact hk_46_89 _ h
    · refine q_aload_n C 2 dX9_close_54 rfl ?_
      refine q_iload_n C 3 dX9_close_55 rfl ?_
      refine q_aload_n C 0 dX9_close_56 rfl ?_
      refine q_iload_n C 3 dX9_close_57 rfl ?_
      refine q_callV C (CN := RX9) (T := TX9) (N := 28) [.int x3] [.int x3, va_rf a2] (fun a0 o2 hs1 hm => m_X9_isPlaced hm) lk_X9_118 im_X9_isPlaced se_X9_X9_isPlaced rfl ⟨(Nat.le_of_ble_eq_true rfl), (Nat.le_of_ble_eq_true rfl)⟩ ⟨(Nat.le_of_ble_eq_true rfl), (Nat.le_of_ble_eq_true rfl)⟩ rfl rfl (by simp only [List.map, cat_rf, cat_i, cat_a]; decide) dX9_close_58 h (fun v9 hs h => WG_st (st' := [.int v9, .int x3, va_rf a2]) rfl ?_)
      refine q_if_eq C 81 dX9_close_61 (by decide) h (fun h => ?_) (fun h => ?_)
      · exact w_j_X9_close_81 C C2 _ _ _ _ _ _ _ hrec_46 h
      · refine q_aload_n C 0 dX9_close_64 rfl ?_
        refine q_gR C fl_X9_53 dX9_close_65 h (fun v11 h => ?_)
        refine q_iload_n C 3 dX9_close_68 rfl ?_
        refine q_iald C dX9_close_69 h (fun v12 h => ?_)
        refine q_bipush C (8 : Int32) dX9_close_70 (by decide) ?_
        refine q_irem C dX9_close_72 h (fun h => ?_)
        refine q_iload_n C 1 dX9_close_73 rfl ?_
        refine q_icmp_ne C 81 dX9_close_74 (by decide) h (fun h => ?_) (fun h => ?_)
        · exact w_j_X9_close_81 C C2 _ _ _ _ _ _ _ hrec_46 h
        · refine q_iconst C (1 : Int32) dX9_close_77 (by decide) ?_
          refine q_goto C 82 dX9_close_78 (by decide) ?_
          exact w_j_X9_close_82 C C2 _ _ _ _ _ _ _ _ hrec_46 h
def j_X9_close_153 (a0 : Option Nat) (a2 : Option Nat) (a3 : Int32) (s0 : Int32) (s1 : Int32) (s2 : Option Nat) (rec_124 : Int32 → OO Int32) : OO Int32 :=
  stZ s2 s1 s0 (
    lets (a3 + (1 : Int32)) fun (v20 : Int32) =>
    rec_124 v20)
set_option maxRecDepth 100000 in
set_option maxHeartbeats 4000000 in
theorem w_j_X9_close_153 (C : Cx G l p s m args c RX9 cX9_close 4) (C2 : Cy meth c (some .int)) {hs : Hs} (a0 : Option Nat) (a2 : Option Nat) (a3 : Int32) (s0 : Int32) (s1 : Int32) (s2 : Option Nat) (rec_124 : Int32 → OO Int32) (hrec_124 : ∀ (y3 : Int32) hs, rec_124 y3 hs = some (o, hs') → WG G p l e { frames := 10, cells := 1, slots := 16, locals := 230 } s m args below meth c 4 1 16 (vx_MQ below (QcT G o hs' tvI) (XCT G o hs') args s 1 16 (gA G)) hs [(0, va_rf a0), (2, va_rf a2), (3, .int y3)] [] 124) (h : j_X9_close_153 a0 a2 a3 s0 s1 s2 rec_124 hs = some (o, hs')) : WG G p l e { frames := 10, cells := 1, slots := 16, locals := 230 } s m args below meth c 4 1 16 (vx_MQ below (QcT G o hs' tvI) (XCT G o hs') args s 1 16 (gA G)) hs [(0, va_rf a0), (2, va_rf a2), (3, .int a3)] [.int s0, .int s1, va_rf s2] 153 := by
  unfold j_X9_close_153 at h
  refine q_zast C dX9_close_153 h (fun hs h => ?_)
  refine q_iinc C 2 (1 : Int32) (fun v20 => [(3, .int v20), (0, va_rf a0), (2, va_rf a2)]) dX9_close_154 rfl (by decide) (by decide) (fun _ => rfl) h (fun v20 h => ?_)
  refine q_goto C 124 dX9_close_157 (by decide) ?_
  refine WG.sub [1, 2, 0] rfl ?_
  exact hrec_124 _ _ h
def j_X9_close_152 (a0 : Option Nat) (a2 : Option Nat) (a3 : Int32) (s0 : Int32) (s1 : Option Nat) (rec_124 : Int32 → OO Int32) : OO Int32 :=
  j_X9_close_153 a0 a2 a3 (0 : Int32) s0 s1 rec_124
set_option maxRecDepth 100000 in
set_option maxHeartbeats 4000000 in
theorem w_j_X9_close_152 (C : Cx G l p s m args c RX9 cX9_close 4) (C2 : Cy meth c (some .int)) {hs : Hs} (a0 : Option Nat) (a2 : Option Nat) (a3 : Int32) (s0 : Int32) (s1 : Option Nat) (rec_124 : Int32 → OO Int32) (hrec_124 : ∀ (y3 : Int32) hs, rec_124 y3 hs = some (o, hs') → WG G p l e { frames := 10, cells := 1, slots := 16, locals := 230 } s m args below meth c 4 1 16 (vx_MQ below (QcT G o hs' tvI) (XCT G o hs') args s 1 16 (gA G)) hs [(0, va_rf a0), (2, va_rf a2), (3, .int y3)] [] 124) (h : j_X9_close_152 a0 a2 a3 s0 s1 rec_124 hs = some (o, hs')) : WG G p l e { frames := 10, cells := 1, slots := 16, locals := 230 } s m args below meth c 4 1 16 (vx_MQ below (QcT G o hs' tvI) (XCT G o hs') args s 1 16 (gA G)) hs [(0, va_rf a0), (2, va_rf a2), (3, .int a3)] [.int s0, va_rf s1] 152 := by
  unfold j_X9_close_152 at h
  refine q_iconst C (0 : Int32) dX9_close_152 (by decide) ?_
  exact w_j_X9_close_153 C C2 _ _ _ _ _ _ _ hrec_124 h
def L_X9_close_124 (a0 : Option Nat) (a2 : Option Nat) (k_124_160 : OO Int32) : Nat → Int32 → OO Int32
  | 0, _ => failO
  | n + 1, x3 =>
    gI a0 12 24 fun v18 =>
    (if v18 ≤ x3 then
    k_124_160
    else
    ldI 1 a2 x3 fun v19 =>
    (if v19 = 0 then
    j_X9_close_152 a0 a2 x3 x3 a2 (L_X9_close_124 a0 a2 k_124_160 n)
    else
    rcv a0 12 fun r22 => call (f_X9_isPast r22 x3) (fun (v21 : Int32) =>
    (if ¬ v21 = 0 then
    j_X9_close_152 a0 a2 x3 x3 a2 (L_X9_close_124 a0 a2 k_124_160 n)
    else
    j_X9_close_153 a0 a2 x3 (1 : Int32) x3 a2 (L_X9_close_124 a0 a2 k_124_160 n))) nox))
set_option maxRecDepth 100000 in
set_option maxHeartbeats 4000000 in
theorem w_L_X9_close_124 (C : Cx G l p s m args c RX9 cX9_close 4) (C2 : Cy meth c (some .int)) (a0 : Option Nat) (a2 : Option Nat) (k_124_160 : OO Int32) (hk_124_160 : ∀ hs, k_124_160  hs = some (o, hs') → WG G p l e { frames := 10, cells := 1, slots := 16, locals := 230 } s m args below meth c 4 1 16 (vx_MQ below (QcT G o hs' tvI) (XCT G o hs') args s 1 16 (gA G)) hs [(0, va_rf a0), (2, va_rf a2)] [] 160) : ∀ (n : Nat) (x3 : Int32) (hs : Hs), L_X9_close_124 a0 a2 k_124_160 n x3 hs = some (o, hs') → WG G p l e { frames := 10, cells := 1, slots := 16, locals := 230 } s m args below meth c 4 1 16 (vx_MQ below (QcT G o hs' tvI) (XCT G o hs') args s 1 16 (gA G)) hs [(0, va_rf a0), (2, va_rf a2), (3, .int x3)] [] 124 := by
  intro n
  induction n with
  | zero =>
    intro x3 hs h
    rw [L_X9_close_124] at h
    exact absurd h failO_e
  | succ n hrec_124 =>
    intro x3 hs h
    rw [L_X9_close_124] at h
    refine q_iload_n C 2 dX9_close_124 rfl ?_
    refine q_aload_n C 0 dX9_close_125 rfl ?_
    refine q_gI C fl_X9_84 dX9_close_126 h (fun v18 h => ?_)
    refine q_icmp_ge C 160 dX9_close_129 (by decide) h (fun h => ?_) (fun h => ?_)
    · refine WG.sub [0, 1] rfl ?_
      exact hk_124_160 _ h
    · refine q_aload_n C 1 dX9_close_132 rfl ?_
      refine q_iload_n C 2 dX9_close_133 rfl ?_
      refine q_aload_n C 1 dX9_close_134 rfl ?_
      refine q_iload_n C 2 dX9_close_135 rfl ?_
      refine q_zald C dX9_close_136 h (fun v19 h => ?_)
      refine q_if_eq C 152 dX9_close_137 (by decide) h (fun h => ?_) (fun h => ?_)
      · exact w_j_X9_close_152 C C2 _ _ _ _ _ _ hrec_124 h
      · refine q_aload_n C 0 dX9_close_140 rfl ?_
        refine q_iload_n C 2 dX9_close_141 rfl ?_
        refine q_callV C (CN := RX9) (T := TX9) (N := 28) [.int x3] [.int x3, va_rf a2] (fun a0 o2 hs1 hm => m_X9_isPast hm) lk_X9_202 im_X9_isPast se_X9_X9_isPast rfl ⟨(Nat.le_of_ble_eq_true rfl), (Nat.le_of_ble_eq_true rfl)⟩ ⟨(Nat.le_of_ble_eq_true rfl), (Nat.le_of_ble_eq_true rfl)⟩ rfl rfl (by simp only [List.map, cat_rf, cat_i, cat_a]; decide) dX9_close_142 h (fun v21 hs h => WG_st (st' := [.int v21, .int x3, va_rf a2]) rfl ?_)
        refine q_if_ne C 152 dX9_close_145 (by decide) h (fun h => ?_) (fun h => ?_)
        · exact w_j_X9_close_152 C C2 _ _ _ _ _ _ hrec_124 h
        · refine q_iconst C (1 : Int32) dX9_close_148 (by decide) ?_
          refine q_goto C 153 dX9_close_149 (by decide) ?_
          exact w_j_X9_close_153 C C2 _ _ _ _ _ _ _ hrec_124 h
def j_X9_close_103 (a0 : Option Nat) (a1 : Int32) (a2 : Option Nat) (s0 : Int32) (s1 : Option Nat)  : OO Int32 :=
  pI s1 12 20 s0 (
    gI a0 12 20 fun v15 =>
    (if v15 ≤ 0 then
    gR a0 12 7 fun v16 =>
    stZ v16 a1 (1 : Int32) (
    lets (0 : Int32) fun (v17 : Int32) =>
    L_X9_close_124 a0 a2 (rcv a0 12 fun r24 => call (f_X9_repairs r24 a2) (fun (v23 : Int32) =>
    rtn v23) nox) 100000 v17)
    else
    rtn (0 : Int32)))
set_option maxRecDepth 100000 in
set_option maxHeartbeats 4000000 in
theorem w_j_X9_close_103 (C : Cx G l p s m args c RX9 cX9_close 4) (C2 : Cy meth c (some .int)) {hs : Hs} (a0 : Option Nat) (a1 : Int32) (a2 : Option Nat) (s0 : Int32) (s1 : Option Nat)   (h : j_X9_close_103 a0 a1 a2 s0 s1 hs = some (o, hs')) : WG G p l e { frames := 10, cells := 1, slots := 16, locals := 230 } s m args below meth c 4 1 16 (vx_MQ below (QcT G o hs' tvI) (XCT G o hs') args s 1 16 (gA G)) hs [(0, va_rf a0), (1, .int a1), (2, va_rf a2)] [.int s0, va_rf s1] 103 := by
  unfold j_X9_close_103 at h
  refine q_pI C fw_X9_71 (fun z => nomatch z) dX9_close_103 h (fun hs h => ?_)
  refine q_aload_n C 0 dX9_close_106 rfl ?_
  refine q_gI C fl_X9_71 dX9_close_107 h (fun v15 h => ?_)
  refine q_if_le C 115 dX9_close_110 (by decide) h (fun h => ?_) (fun h => ?_)
  · refine q_aload_n C 0 dX9_close_115 rfl ?_
    refine q_gR C fl_X9_31 dX9_close_116 h (fun v16 h => ?_)
    refine q_iload_n C 1 dX9_close_119 rfl ?_
    refine q_iconst C (1 : Int32) dX9_close_120 (by decide) ?_
    refine q_zast C dX9_close_121 h (fun hs h => ?_)
    refine q_iconst C (0 : Int32) dX9_close_122 (by decide) ?_
    refine q_istore_n C (fun v17 => [(3, .int v17), (0, va_rf a0), (1, .int a1), (2, va_rf a2)]) dX9_close_123 (by decide) (fun _ => rfl) h (fun v17 h => ?_)
    refine WG.sub [1, 3, 0] rfl ?_
    refine w_L_X9_close_124 C C2 _ _ _ ?_ _ _ _ h
    · intro  hs h
      refine q_aload_n C 0 dX9_close_160 rfl ?_
      refine q_aload_n C 1 dX9_close_161 rfl ?_
      refine q_callV C (CN := RX9) (T := TX9) (N := 28) [va_rf a2] [] (fun a0 o2 hs1 hm => m_X9_repairs hm) lk_X9_248 im_X9_repairs se_X9_X9_repairs rfl ⟨(Nat.le_of_ble_eq_true rfl), (Nat.le_of_ble_eq_true rfl)⟩ ⟨(Nat.le_of_ble_eq_true rfl), (Nat.le_of_ble_eq_true rfl)⟩ rfl rfl (by decide) dX9_close_162 h (fun v23 hs h => WG_st (st' := [.int v23]) rfl ?_)
      exact q_iret C C2 rfl (Nat.le_of_ble_eq_true rfl) (Nat.le_of_ble_eq_true rfl) dX9_close_165 h
  · refine q_iconst C (0 : Int32) dX9_close_113 (by decide) ?_
    exact q_iret C C2 rfl (Nat.le_of_ble_eq_true rfl) (Nat.le_of_ble_eq_true rfl) dX9_close_114 h
def j_X9_close_27 (a0 : Option Nat) (a1 : Int32) (s0 : Int32) (s1 : Option Nat)  : OO Int32 :=
  pI s1 12 20 s0 (
    gI a0 12 20 fun v4 =>
    (if v4 ≤ 0 then
    nwI 1 (16 : Int32) 16 fun q5 =>
    lets (some q5) fun (v6 : Option Nat) =>
    lets (0 : Int32) fun (v7 : Int32) =>
    L_X9_close_46 a0 a1 v6 (rcv a0 12 fun r25 => call (f_X9_hasLocked r25 v6) (fun (v14 : Int32) =>
    (if v14 = 0 then
    j_X9_close_103 a0 a1 v6 (0 : Int32) a0
    else
    j_X9_close_103 a0 a1 v6 (3 : Int32) a0)) nox) 100000 v7
    else
    rtn (0 : Int32)))
set_option maxRecDepth 100000 in
set_option maxHeartbeats 4000000 in
theorem w_j_X9_close_27 (C : Cx G l p s m args c RX9 cX9_close 4) (C2 : Cy meth c (some .int)) {hs : Hs} (a0 : Option Nat) (a1 : Int32) (s0 : Int32) (s1 : Option Nat)   (h : j_X9_close_27 a0 a1 s0 s1 hs = some (o, hs')) : WG G p l e { frames := 10, cells := 1, slots := 16, locals := 230 } s m args below meth c 4 0 0 (vx_MQ below (QcT G o hs' tvI) (XCT G o hs') args s 1 16 (gA G)) hs [(0, va_rf a0), (1, .int a1)] [.int s0, va_rf s1] 27 := by
  unfold j_X9_close_27 at h
  refine q_pI C fw_X9_71 (fun z => nomatch z) dX9_close_27 h (fun hs h => ?_)
  refine q_aload_n C 0 dX9_close_30 rfl ?_
  refine q_gI C fl_X9_71 dX9_close_31 h (fun v4 h => ?_)
  refine q_if_le C 39 dX9_close_34 (by decide) h (fun h => ?_) (fun h => ?_)
  · refine q_bipush C (16 : Int32) dX9_close_39 (by decide) ?_
    refine q_newZ C 16 (Nat.le_of_ble_eq_true rfl) ac_1 (Nat.le_of_ble_eq_true rfl) (Nat.le_of_ble_eq_true rfl) dX9_close_41 h (fun q5 hs h => ?_)
    refine q_astore_n C (fun v6 => [(2, va_rf v6), (0, va_rf a0), (1, .int a1)]) dX9_close_43 (by decide) (fun _ => rfl) h (fun v6 h => ?_)
    refine q_iconst C (0 : Int32) dX9_close_44 (by decide) ?_
    refine q_istore_n C (fun v7 => [(3, .int v7), (2, va_rf v6), (0, va_rf a0), (1, .int a1)]) dX9_close_45 (by decide) (fun _ => rfl) h (fun v7 h => ?_)
    refine WG.sub [2, 3, 1, 0] rfl ?_
    refine w_L_X9_close_46 C C2 _ _ _ _ ?_ _ _ _ h
    · intro  hs h
      refine q_aload_n C 0 dX9_close_89 rfl ?_
      refine q_aload_n C 0 dX9_close_90 rfl ?_
      refine q_aload_n C 2 dX9_close_91 rfl ?_
      refine q_callV C (CN := RX9) (T := TX9) (N := 28) [va_rf v6] [va_rf a0] (fun a0 o2 hs1 hm => m_X9_hasLocked hm) lk_X9_244 im_X9_hasLocked se_X9_X9_hasLocked rfl ⟨(Nat.le_of_ble_eq_true rfl), (Nat.le_of_ble_eq_true rfl)⟩ ⟨(Nat.le_of_ble_eq_true rfl), (Nat.le_of_ble_eq_true rfl)⟩ rfl rfl (by simp only [List.map, cat_rf, cat_i, cat_a]; decide) dX9_close_92 h (fun v14 hs h => WG_st (st' := [.int v14, va_rf a0]) rfl ?_)
      refine q_if_eq C 102 dX9_close_95 (by decide) h (fun h => ?_) (fun h => ?_)
      · refine q_iconst C (0 : Int32) dX9_close_102 (by decide) ?_
        exact w_j_X9_close_103 C C2 _ _ _ _ _   h
      · refine q_iconst C (3 : Int32) dX9_close_98 (by decide) ?_
        refine q_goto C 103 dX9_close_99 (by decide) ?_
        exact w_j_X9_close_103 C C2 _ _ _ _ _   h
  · refine q_iconst C (0 : Int32) dX9_close_37 (by decide) ?_
    exact q_iret C C2 rfl (Nat.le_of_ble_eq_true rfl) (Nat.le_of_ble_eq_true rfl) dX9_close_38 h
end M_X9_close
def f_X9_close (a0 : Nat) (p1 : Int32) : OO Int32 :=
    rcv (some a0) 12 fun r26 => call (f_X9_isRoom r26 p1) (fun (v1 : Int32) =>
    (if ¬ v1 = 0 then
    gR (some a0) 12 7 fun v2 =>
    ldI 1 v2 p1 fun v3 =>
    (if v3 = 0 then
    j_X9_close_27 (some a0) p1 (0 : Int32) (some a0)
    else
    j_X9_close_27 (some a0) p1 (2 : Int32) (some a0))
    else
    j_X9_close_27 (some a0) p1 (1 : Int32) (some a0))) nox
set_option maxRecDepth 100000 in
set_option maxHeartbeats 4000000 in
theorem m_X9_close {G : GG} {l : Launch} {a0 : Nat} {p1 : Int32} {hs hs' : Hs} {o : Except Nat Int32} (h : f_X9_close a0 p1 hs = some (o, hs')) : CT G l yX9_close cX9_close 4 (some .int) 10 230 1 16 [.ref a0, .int p1] hs o hs' tvI := by
  refine vx_ofW (cc := cX9_close) (maxL := 4) (ret := (some .int)) (by decide +kernel) rfl ?_
  intro p e s m args below meth c s₁ B hml hxt hv
  obtain ⟨hav, hR, hKn⟩ := hv
  subst hav
  have hts := atoms_spec (ws := .code yX9_close cX9_close 4 (some .int) :: Tg) B.pre
  have C : Cx G l p s m _ c RX9 cX9_close 4 := ⟨B.exec, B.bytes, hml, findClass_of_methodNamed B.named, fun w hw => hts w (List.mem_cons_of_mem _ hw), hKn, fun q hq => Nat.le_trans hR.2.2.1 hq⟩
  have C2 : Cy meth c (some .int) := ⟨B.returns, B.notSynchronized, hxt⟩
  have key : WG G p l e { frames := 10, cells := 1, slots := 16, locals := 230 } s m ([.ref a0, .int p1] : List Value).toArray below meth c 4 0 0 (vx_MQ below (QcT G o hs' tvI) (XCT G o hs') ([.ref a0, .int p1] : List Value).toArray s 1 16 (gA G)) hs [(0, va_rf (some a0)), (1, .int p1)] [] 0 := by
    unfold f_X9_close at h
    refine q_aload_n C 0 dX9_close_0 rfl ?_
    refine q_aload_n C 0 dX9_close_1 rfl ?_
    refine q_iload_n C 1 dX9_close_2 rfl ?_
    refine q_callV C (CN := RX9) (T := TX9) (N := 28) [.int p1] [va_rf (some a0)] (fun a0 o2 hs1 hm => m_X9_isRoom hm) lk_X9_151 im_X9_isRoom se_X9_X9_isRoom rfl ⟨(Nat.le_of_ble_eq_true rfl), (Nat.le_of_ble_eq_true rfl)⟩ ⟨(Nat.le_of_ble_eq_true rfl), (Nat.le_of_ble_eq_true rfl)⟩ rfl rfl (by simp only [List.map, cat_rf, cat_i, cat_a]; decide) dX9_close_3 h (fun v1 hs h => WG_st (st' := [.int v1, va_rf (some a0)]) rfl ?_)
    refine q_if_ne C 13 dX9_close_6 (by decide) h (fun h => ?_) (fun h => ?_)
    · refine q_aload_n C 0 dX9_close_13 rfl ?_
      refine q_gR C fl_X9_31 dX9_close_14 h (fun v2 h => ?_)
      refine q_iload_n C 1 dX9_close_17 rfl ?_
      refine q_zald C dX9_close_18 h (fun v3 h => ?_)
      refine q_if_eq C 26 dX9_close_19 (by decide) h (fun h => ?_) (fun h => ?_)
      · refine q_iconst C (0 : Int32) dX9_close_26 (by decide) ?_
        exact w_j_X9_close_27 C C2 _ _ _ _   h
      · refine q_iconst C (2 : Int32) dX9_close_22 (by decide) ?_
        refine q_goto C 27 dX9_close_23 (by decide) ?_
        exact w_j_X9_close_27 C C2 _ _ _ _   h
    · refine q_iconst C (1 : Int32) dX9_close_9 (by decide) ?_
      refine q_goto C 27 dX9_close_10 (by decide) ?_
      exact w_j_X9_close_27 C C2 _ _ _ _   h
  rw [lg_entry_eq]
  exact key _ _ _ hR va_S.rf ⟨lv_entry _ (n := 4) (Nat.le_of_ble_eq_true rfl), (c1_r (c1_i c1_n))⟩

theorem cd_X9_open : Cond.code yX9_open cX9_open 4 (some .int) ∈ Tg := Tg_of (i := 1886) (by decide +kernel) (by decide +kernel)
section M_X9_open
variable {p : Program} {l : Launch} {e : Env} {s : State} {m : MethodId} {args : Array Value} {below : List Frame} {meth : Method} {c : Code} {G : GG} {o : Except Nat Int32} {hs' : Hs}
def j_X9_open_73 (a0 : Option Nat) (a3 : Int32) (s0 : Int32) (s1 : Int32) (rec_50 : Int32 → Int32 → OO Int32) : OO Int32 :=
  lets (s1 + s0) fun (v11 : Int32) =>
    lets (a3 + (1 : Int32)) fun (v12 : Int32) =>
    rec_50 v11 v12
set_option maxRecDepth 100000 in
set_option maxHeartbeats 4000000 in
theorem w_j_X9_open_73 (C : Cx G l p s m args c RX9 cX9_open 4) (C2 : Cy meth c (some .int)) {hs : Hs} (a0 : Option Nat) (a3 : Int32) (s0 : Int32) (s1 : Int32) (rec_50 : Int32 → Int32 → OO Int32) (hrec_50 : ∀ (y2 : Int32) (y3 : Int32) hs, rec_50 y2 y3 hs = some (o, hs') → WG G p l e { frames := 2, cells := 0, slots := 0, locals := 43 } s m args below meth c 4 0 0 (vx_MQ below (QcT G o hs' tvI) (XCT G o hs') args s 0 0 (gA G)) hs [(0, va_rf a0), (2, .int y2), (3, .int y3)] [] 50) (h : j_X9_open_73 a0 a3 s0 s1 rec_50 hs = some (o, hs')) : WG G p l e { frames := 2, cells := 0, slots := 0, locals := 43 } s m args below meth c 4 0 0 (vx_MQ below (QcT G o hs' tvI) (XCT G o hs') args s 0 0 (gA G)) hs [(0, va_rf a0), (3, .int a3)] [.int s0, .int s1] 73 := by
  unfold j_X9_open_73 at h
  refine q_iadd C dX9_open_73 ?_
  refine q_istore_n C (fun v11 => [(2, .int v11), (0, va_rf a0), (3, .int a3)]) dX9_open_74 (by decide) (fun _ => rfl) h (fun v11 h => ?_)
  refine q_iinc C 2 (1 : Int32) (fun v12 => [(3, .int v12), (2, .int v11), (0, va_rf a0)]) dX9_open_75 rfl (by decide) (by decide) (fun _ => rfl) h (fun v12 h => ?_)
  refine q_goto C 50 dX9_open_78 (by decide) ?_
  refine WG.sub [2, 1, 0] rfl ?_
  exact hrec_50 _ _ _ h
def L_X9_open_50 (a0 : Option Nat) (k_50_81 : Int32 → OO Int32) : Nat → Int32 → Int32 → OO Int32
  | 0, _, _ => failO
  | n + 1, x2, x3 =>
    gI a0 12 21 fun v8 =>
    (if v8 ≤ x3 then
    k_50_81 x2
    else
    gR a0 12 7 fun v9 =>
    ldI 1 v9 x3 fun v10 =>
    (if v10 = 0 then
    j_X9_open_73 a0 x3 (1 : Int32) x2 (L_X9_open_50 a0 k_50_81 n)
    else
    j_X9_open_73 a0 x3 (0 : Int32) x2 (L_X9_open_50 a0 k_50_81 n)))
set_option maxRecDepth 100000 in
set_option maxHeartbeats 4000000 in
theorem w_L_X9_open_50 (C : Cx G l p s m args c RX9 cX9_open 4) (C2 : Cy meth c (some .int)) (a0 : Option Nat) (k_50_81 : Int32 → OO Int32) (hk_50_81 : ∀ (y2 : Int32) hs, k_50_81 y2 hs = some (o, hs') → WG G p l e { frames := 2, cells := 0, slots := 0, locals := 43 } s m args below meth c 4 0 0 (vx_MQ below (QcT G o hs' tvI) (XCT G o hs') args s 0 0 (gA G)) hs [(2, .int y2)] [] 81) : ∀ (n : Nat) (x2 : Int32) (x3 : Int32) (hs : Hs), L_X9_open_50 a0 k_50_81 n x2 x3 hs = some (o, hs') → WG G p l e { frames := 2, cells := 0, slots := 0, locals := 43 } s m args below meth c 4 0 0 (vx_MQ below (QcT G o hs' tvI) (XCT G o hs') args s 0 0 (gA G)) hs [(0, va_rf a0), (2, .int x2), (3, .int x3)] [] 50 := by
  intro n
  induction n with
  | zero =>
    intro x2 x3 hs h
    rw [L_X9_open_50] at h
    exact absurd h failO_e
  | succ n hrec_50 =>
    intro x2 x3 hs h
    rw [L_X9_open_50] at h
    refine q_iload_n C 2 dX9_open_50 rfl ?_
    refine q_aload_n C 0 dX9_open_51 rfl ?_
    refine q_gI C fl_X9_75 dX9_open_52 h (fun v8 h => ?_)
    refine q_icmp_ge C 81 dX9_open_55 (by decide) h (fun h => ?_) (fun h => ?_)
    · refine WG.sub [1] rfl ?_
      exact hk_50_81 _ _ h
    · refine q_iload_n C 1 dX9_open_58 rfl ?_
      refine q_aload_n C 0 dX9_open_59 rfl ?_
      refine q_gR C fl_X9_31 dX9_open_60 h (fun v9 h => ?_)
      refine q_iload_n C 2 dX9_open_63 rfl ?_
      refine q_zald C dX9_open_64 h (fun v10 h => ?_)
      refine q_if_eq C 72 dX9_open_65 (by decide) h (fun h => ?_) (fun h => ?_)
      · refine q_iconst C (1 : Int32) dX9_open_72 (by decide) ?_
        refine WG.sub [0, 2] rfl ?_
        exact w_j_X9_open_73 C C2 _ _ _ _ _ hrec_50 h
      · refine q_iconst C (0 : Int32) dX9_open_68 (by decide) ?_
        refine q_goto C 73 dX9_open_69 (by decide) ?_
        refine WG.sub [0, 2] rfl ?_
        exact w_j_X9_open_73 C C2 _ _ _ _ _ hrec_50 h
def j_X9_open_27 (a0 : Option Nat) (a1 : Int32) (s0 : Int32) (s1 : Option Nat)  : OO Int32 :=
  pI s1 12 20 s0 (
    gI a0 12 20 fun v4 =>
    (if v4 ≤ 0 then
    gR a0 12 7 fun v5 =>
    stZ v5 a1 (0 : Int32) (
    lets (0 : Int32) fun (v6 : Int32) =>
    lets (0 : Int32) fun (v7 : Int32) =>
    L_X9_open_50 a0 (fun (v13 : Int32) => rtn v13) 100000 v6 v7)
    else
    rtn (0 : Int32)))
set_option maxRecDepth 100000 in
set_option maxHeartbeats 4000000 in
theorem w_j_X9_open_27 (C : Cx G l p s m args c RX9 cX9_open 4) (C2 : Cy meth c (some .int)) {hs : Hs} (a0 : Option Nat) (a1 : Int32) (s0 : Int32) (s1 : Option Nat)   (h : j_X9_open_27 a0 a1 s0 s1 hs = some (o, hs')) : WG G p l e { frames := 2, cells := 0, slots := 0, locals := 43 } s m args below meth c 4 0 0 (vx_MQ below (QcT G o hs' tvI) (XCT G o hs') args s 0 0 (gA G)) hs [(0, va_rf a0), (1, .int a1)] [.int s0, va_rf s1] 27 := by
  unfold j_X9_open_27 at h
  refine q_pI C fw_X9_71 (fun z => nomatch z) dX9_open_27 h (fun hs h => ?_)
  refine q_aload_n C 0 dX9_open_30 rfl ?_
  refine q_gI C fl_X9_71 dX9_open_31 h (fun v4 h => ?_)
  refine q_if_le C 39 dX9_open_34 (by decide) h (fun h => ?_) (fun h => ?_)
  · refine q_aload_n C 0 dX9_open_39 rfl ?_
    refine q_gR C fl_X9_31 dX9_open_40 h (fun v5 h => ?_)
    refine q_iload_n C 1 dX9_open_43 rfl ?_
    refine q_iconst C (0 : Int32) dX9_open_44 (by decide) ?_
    refine q_zast C dX9_open_45 h (fun hs h => ?_)
    refine q_iconst C (0 : Int32) dX9_open_46 (by decide) ?_
    refine q_istore_n C (fun v6 => [(2, .int v6), (0, va_rf a0), (1, .int a1)]) dX9_open_47 (by decide) (fun _ => rfl) h (fun v6 h => ?_)
    refine q_iconst C (0 : Int32) dX9_open_48 (by decide) ?_
    refine q_istore_n C (fun v7 => [(3, .int v7), (2, .int v6), (0, va_rf a0), (1, .int a1)]) dX9_open_49 (by decide) (fun _ => rfl) h (fun v7 h => ?_)
    refine WG.sub [2, 1, 0] rfl ?_
    refine w_L_X9_open_50 C C2 _ _ ?_ _ _ _ _ h
    · intro v13 hs h
      refine q_iload_n C 0 dX9_open_81 rfl ?_
      exact q_iret C C2 rfl (Nat.le_of_ble_eq_true rfl) (Nat.le_of_ble_eq_true rfl) dX9_open_82 h
  · refine q_iconst C (0 : Int32) dX9_open_37 (by decide) ?_
    exact q_iret C C2 rfl (Nat.le_of_ble_eq_true rfl) (Nat.le_of_ble_eq_true rfl) dX9_open_38 h
end M_X9_open
def f_X9_open (a0 : Nat) (p1 : Int32) : OO Int32 :=
    rcv (some a0) 12 fun r14 => call (f_X9_isRoom r14 p1) (fun (v1 : Int32) =>
    (if ¬ v1 = 0 then
    gR (some a0) 12 7 fun v2 =>
    ldI 1 v2 p1 fun v3 =>
    (if ¬ v3 = 0 then
    j_X9_open_27 (some a0) p1 (0 : Int32) (some a0)
    else
    j_X9_open_27 (some a0) p1 (2 : Int32) (some a0))
    else
    j_X9_open_27 (some a0) p1 (1 : Int32) (some a0))) nox
set_option maxRecDepth 100000 in
set_option maxHeartbeats 4000000 in
theorem m_X9_open {G : GG} {l : Launch} {a0 : Nat} {p1 : Int32} {hs hs' : Hs} {o : Except Nat Int32} (h : f_X9_open a0 p1 hs = some (o, hs')) : CT G l yX9_open cX9_open 4 (some .int) 2 43 0 0 [.ref a0, .int p1] hs o hs' tvI := by
  refine vx_ofW (cc := cX9_open) (maxL := 4) (ret := (some .int)) (by decide +kernel) rfl ?_
  intro p e s m args below meth c s₁ B hml hxt hv
  obtain ⟨hav, hR, hKn⟩ := hv
  subst hav
  have hts := atoms_spec (ws := .code yX9_open cX9_open 4 (some .int) :: Tg) B.pre
  have C : Cx G l p s m _ c RX9 cX9_open 4 := ⟨B.exec, B.bytes, hml, findClass_of_methodNamed B.named, fun w hw => hts w (List.mem_cons_of_mem _ hw), hKn, fun q hq => Nat.le_trans hR.2.2.1 hq⟩
  have C2 : Cy meth c (some .int) := ⟨B.returns, B.notSynchronized, hxt⟩
  have key : WG G p l e { frames := 2, cells := 0, slots := 0, locals := 43 } s m ([.ref a0, .int p1] : List Value).toArray below meth c 4 0 0 (vx_MQ below (QcT G o hs' tvI) (XCT G o hs') ([.ref a0, .int p1] : List Value).toArray s 0 0 (gA G)) hs [(0, va_rf (some a0)), (1, .int p1)] [] 0 := by
    unfold f_X9_open at h
    refine q_aload_n C 0 dX9_open_0 rfl ?_
    refine q_aload_n C 0 dX9_open_1 rfl ?_
    refine q_iload_n C 1 dX9_open_2 rfl ?_
    refine q_callV C (CN := RX9) (T := TX9) (N := 28) [.int p1] [va_rf (some a0)] (fun a0 o2 hs1 hm => m_X9_isRoom hm) lk_X9_151 im_X9_isRoom se_X9_X9_isRoom rfl ⟨(Nat.le_of_ble_eq_true rfl), (Nat.le_of_ble_eq_true rfl)⟩ ⟨(Nat.le_of_ble_eq_true rfl), (Nat.le_of_ble_eq_true rfl)⟩ rfl rfl (by simp only [List.map, cat_rf, cat_i, cat_a]; decide) dX9_open_3 h (fun v1 hs h => WG_st (st' := [.int v1, va_rf (some a0)]) rfl ?_)
    refine q_if_ne C 13 dX9_open_6 (by decide) h (fun h => ?_) (fun h => ?_)
    · refine q_aload_n C 0 dX9_open_13 rfl ?_
      refine q_gR C fl_X9_31 dX9_open_14 h (fun v2 h => ?_)
      refine q_iload_n C 1 dX9_open_17 rfl ?_
      refine q_zald C dX9_open_18 h (fun v3 h => ?_)
      refine q_if_ne C 26 dX9_open_19 (by decide) h (fun h => ?_) (fun h => ?_)
      · refine q_iconst C (0 : Int32) dX9_open_26 (by decide) ?_
        exact w_j_X9_open_27 C C2 _ _ _ _   h
      · refine q_iconst C (2 : Int32) dX9_open_22 (by decide) ?_
        refine q_goto C 27 dX9_open_23 (by decide) ?_
        exact w_j_X9_open_27 C C2 _ _ _ _   h
    · refine q_iconst C (1 : Int32) dX9_open_9 (by decide) ?_
      refine q_goto C 27 dX9_open_10 (by decide) ?_
      exact w_j_X9_open_27 C C2 _ _ _ _   h
  rw [lg_entry_eq]
  exact key _ _ _ hR va_S.rf ⟨lv_entry _ (n := 4) (Nat.le_of_ble_eq_true rfl), (c1_r (c1_i c1_n))⟩

theorem cd_X9_passDay : Cond.code yX9_passDay cX9_passDay 1 (some .int) ∈ Tg := Tg_of (i := 1890) (by decide +kernel) (by decide +kernel)
section M_X9_passDay
variable {p : Program} {l : Launch} {e : Env} {s : State} {m : MethodId} {args : Array Value} {below : List Frame} {meth : Method} {c : Code} {G : GG} {o : Except Nat Int32} {hs' : Hs}
def j_X9_passDay_14 (a0 : Option Nat) (s0 : Int32) (s1 : Option Nat)  : OO Int32 :=
  rcv s1 12 fun r5 => call (f_X9_checked r5 s0) (fun (v2 : Int32) =>
    (if v2 ≤ 0 then
    gI a0 12 26 fun v3 =>
    pI a0 12 26 (v3 + (1 : Int32)) (
    gI a0 12 26 fun v4 =>
    rtn v4)
    else
    rtn (0 : Int32))) nox
set_option maxRecDepth 100000 in
set_option maxHeartbeats 4000000 in
theorem w_j_X9_passDay_14 (C : Cx G l p s m args c RX9 cX9_passDay 1) (C2 : Cy meth c (some .int)) {hs : Hs} (a0 : Option Nat) (s0 : Int32) (s1 : Option Nat)   (h : j_X9_passDay_14 a0 s0 s1 hs = some (o, hs')) : WG G p l e { frames := 1, cells := 0, slots := 0, locals := 21 } s m args below meth c 1 0 0 (vx_MQ below (QcT G o hs' tvI) (XCT G o hs') args s 0 0 (gA G)) hs [(0, va_rf a0)] [.int s0, va_rf s1] 14 := by
  unfold j_X9_passDay_14 at h
  refine q_callV C (CN := RX9) (T := TX9) (N := 28) [.int s0] [] (fun a0 o2 hs1 hm => m_X9_checked hm) lk_X9_110 im_X9_checked se_X9_X9_checked rfl ⟨(Nat.le_of_ble_eq_true rfl), (Nat.le_of_ble_eq_true rfl)⟩ ⟨(Nat.le_of_ble_eq_true rfl), (Nat.le_of_ble_eq_true rfl)⟩ rfl rfl (by decide) dX9_passDay_14 h (fun v2 hs h => WG_st (st' := [.int v2]) rfl ?_)
  refine q_if_le C 22 dX9_passDay_17 (by decide) h (fun h => ?_) (fun h => ?_)
  · refine q_aload_n C 0 dX9_passDay_22 rfl ?_
    refine q_dup C (cat_rf _) dX9_passDay_23 ?_
    refine q_gI C fl_X9_90 dX9_passDay_24 h (fun v3 h => ?_)
    refine q_iconst C (1 : Int32) dX9_passDay_27 (by decide) ?_
    refine q_iadd C dX9_passDay_28 ?_
    refine q_pI C fw_X9_90 (fun z => nomatch z) dX9_passDay_29 h (fun hs h => ?_)
    refine q_aload_n C 0 dX9_passDay_32 rfl ?_
    refine q_gI C fl_X9_90 dX9_passDay_33 h (fun v4 h => ?_)
    exact q_iret C C2 rfl (Nat.le_of_ble_eq_true rfl) (Nat.le_of_ble_eq_true rfl) dX9_passDay_36 h
  · refine q_iconst C (0 : Int32) dX9_passDay_20 (by decide) ?_
    exact q_iret C C2 rfl (Nat.le_of_ble_eq_true rfl) (Nat.le_of_ble_eq_true rfl) dX9_passDay_21 h
end M_X9_passDay
def f_X9_passDay (a0 : Nat) : OO Int32 :=
    gI (some a0) 12 26 fun v1 =>
    (if (4 : Int32) ≤ v1 then
    j_X9_passDay_14 (some a0) (0 : Int32) (some a0)
    else
    j_X9_passDay_14 (some a0) (1 : Int32) (some a0))
set_option maxRecDepth 100000 in
set_option maxHeartbeats 4000000 in
theorem m_X9_passDay {G : GG} {l : Launch} {a0 : Nat} {hs hs' : Hs} {o : Except Nat Int32} (h : f_X9_passDay a0 hs = some (o, hs')) : CT G l yX9_passDay cX9_passDay 1 (some .int) 1 21 0 0 [.ref a0] hs o hs' tvI := by
  refine vx_ofW (cc := cX9_passDay) (maxL := 1) (ret := (some .int)) (by decide +kernel) rfl ?_
  intro p e s m args below meth c s₁ B hml hxt hv
  obtain ⟨hav, hR, hKn⟩ := hv
  subst hav
  have hts := atoms_spec (ws := .code yX9_passDay cX9_passDay 1 (some .int) :: Tg) B.pre
  have C : Cx G l p s m _ c RX9 cX9_passDay 1 := ⟨B.exec, B.bytes, hml, findClass_of_methodNamed B.named, fun w hw => hts w (List.mem_cons_of_mem _ hw), hKn, fun q hq => Nat.le_trans hR.2.2.1 hq⟩
  have C2 : Cy meth c (some .int) := ⟨B.returns, B.notSynchronized, hxt⟩
  have key : WG G p l e { frames := 1, cells := 0, slots := 0, locals := 21 } s m ([.ref a0] : List Value).toArray below meth c 1 0 0 (vx_MQ below (QcT G o hs' tvI) (XCT G o hs') ([.ref a0] : List Value).toArray s 0 0 (gA G)) hs [(0, va_rf (some a0))] [] 0 := by
    unfold f_X9_passDay at h
    refine q_aload_n C 0 dX9_passDay_0 rfl ?_
    refine q_aload_n C 0 dX9_passDay_1 rfl ?_
    refine q_gI C fl_X9_90 dX9_passDay_2 h (fun v1 h => ?_)
    refine q_iconst C (4 : Int32) dX9_passDay_5 (by decide) ?_
    refine q_icmp_ge C 13 dX9_passDay_6 (by decide) h (fun h => ?_) (fun h => ?_)
    · refine q_iconst C (0 : Int32) dX9_passDay_13 (by decide) ?_
      exact w_j_X9_passDay_14 C C2 _ _ _   h
    · refine q_iconst C (1 : Int32) dX9_passDay_9 (by decide) ?_
      refine q_goto C 14 dX9_passDay_10 (by decide) ?_
      exact w_j_X9_passDay_14 C C2 _ _ _   h
  rw [lg_entry_eq]
  exact key _ _ _ hR va_S.rf ⟨lv_entry _ (n := 1) (Nat.le_of_ble_eq_true rfl), (c1_r c1_n)⟩

theorem cd_X9_nextWeek : Cond.code yX9_nextWeek cX9_nextWeek 3 (some .int) ∈ Tg := Tg_of (i := 1894) (by decide +kernel) (by decide +kernel)
theorem fl_X9_93 : Fld RX9 93 12 27 .int := ⟨RX9, TX9, 28, RX9, rfl, by decide, wf_X9_93, (Or.inl rfl), gu_X9, tyX9_ok _ (by decide), ⟨tyX9, tyX9_ok⟩, nmX9⟩
section M_X9_nextWeek
variable {p : Program} {l : Launch} {e : Env} {s : State} {m : MethodId} {args : Array Value} {below : List Frame} {meth : Method} {c : Code} {G : GG} {o : Except Nat Int32} {hs' : Hs}
def j_X9_nextWeek_71 (a0 : Option Nat) (a1 : Int32)  (rec_24 : Int32 → OO Int32) : OO Int32 :=
  lets (a1 + (1 : Int32)) fun (v6 : Int32) =>
    rec_24 v6
set_option maxRecDepth 100000 in
set_option maxHeartbeats 4000000 in
theorem w_j_X9_nextWeek_71 (C : Cx G l p s m args c RX9 cX9_nextWeek 3) (C2 : Cy meth c (some .int)) {hs : Hs} (a0 : Option Nat) (a1 : Int32)  (rec_24 : Int32 → OO Int32) (hrec_24 : ∀ (y1 : Int32) hs, rec_24 y1 hs = some (o, hs') → WG G p l e { frames := 10, cells := 1, slots := 16, locals := 230 } s m args below meth c 3 0 0 (vx_MQ below (QcT G o hs' tvI) (XCT G o hs') args s 1 16 (gA G)) hs [(0, va_rf a0), (1, .int y1)] [] 24) (h : j_X9_nextWeek_71 a0 a1 rec_24 hs = some (o, hs')) : WG G p l e { frames := 10, cells := 1, slots := 16, locals := 230 } s m args below meth c 3 0 0 (vx_MQ below (QcT G o hs' tvI) (XCT G o hs') args s 1 16 (gA G)) hs [(0, va_rf a0), (1, .int a1)] [] 71 := by
  unfold j_X9_nextWeek_71 at h
  refine q_iinc C 1 (1 : Int32) (fun v6 => [(1, .int v6), (0, va_rf a0)]) dX9_nextWeek_71 rfl (by decide) (by decide) (fun _ => rfl) h (fun v6 h => ?_)
  refine q_goto C 24 dX9_nextWeek_74 (by decide) ?_
  refine WG.sub [1, 0] rfl ?_
  exact hrec_24 _ _ h
def L_X9_nextWeek_24 (a0 : Option Nat) (k_24_77 : OO Int32) : Nat → Int32 → OO Int32
  | 0, _ => failO
  | n + 1, x1 =>
    gI a0 12 24 fun v4 =>
    (if v4 ≤ x1 then
    k_24_77
    else
    rcv a0 12 fun r15 => call (f_X9_isLate r15 x1) (fun (v5 : Int32) =>
    (if v5 = 0 then
    j_X9_nextWeek_71 a0 x1 (L_X9_nextWeek_24 a0 k_24_77 n)
    else
    gR a0 12 4 fun v7 =>
    gR a0 12 10 fun v8 =>
    ldI 0 v8 x1 fun v9 =>
    ldI 0 v7 v9 fun v10 =>
    (if (9 : Int32) ≤ v10 then
    j_X9_nextWeek_71 a0 x1 (L_X9_nextWeek_24 a0 k_24_77 n)
    else
    gR a0 12 4 fun v11 =>
    gR a0 12 10 fun v12 =>
    ldI 0 v12 x1 fun v13 =>
    ldI 0 v11 v13 fun v14 =>
    stI v11 v13 (v14 + (1 : Int32)) (
    j_X9_nextWeek_71 a0 x1 (L_X9_nextWeek_24 a0 k_24_77 n))))) nox)
set_option maxRecDepth 100000 in
set_option maxHeartbeats 4000000 in
theorem w_L_X9_nextWeek_24 (C : Cx G l p s m args c RX9 cX9_nextWeek 3) (C2 : Cy meth c (some .int)) (a0 : Option Nat) (k_24_77 : OO Int32) (hk_24_77 : ∀ hs, k_24_77  hs = some (o, hs') → WG G p l e { frames := 10, cells := 1, slots := 16, locals := 230 } s m args below meth c 3 0 0 (vx_MQ below (QcT G o hs' tvI) (XCT G o hs') args s 1 16 (gA G)) hs [(0, va_rf a0)] [] 77) : ∀ (n : Nat) (x1 : Int32) (hs : Hs), L_X9_nextWeek_24 a0 k_24_77 n x1 hs = some (o, hs') → WG G p l e { frames := 10, cells := 1, slots := 16, locals := 230 } s m args below meth c 3 0 0 (vx_MQ below (QcT G o hs' tvI) (XCT G o hs') args s 1 16 (gA G)) hs [(0, va_rf a0), (1, .int x1)] [] 24 := by
  intro n
  induction n with
  | zero =>
    intro x1 hs h
    rw [L_X9_nextWeek_24] at h
    exact absurd h failO_e
  | succ n hrec_24 =>
    intro x1 hs h
    rw [L_X9_nextWeek_24] at h
    refine q_iload_n C 1 dX9_nextWeek_24 rfl ?_
    refine q_aload_n C 0 dX9_nextWeek_25 rfl ?_
    refine q_gI C fl_X9_84 dX9_nextWeek_26 h (fun v4 h => ?_)
    refine q_icmp_ge C 77 dX9_nextWeek_29 (by decide) h (fun h => ?_) (fun h => ?_)
    · refine WG.sub [0] rfl ?_
      exact hk_24_77 _ h
    · refine q_aload_n C 0 dX9_nextWeek_32 rfl ?_
      refine q_iload_n C 1 dX9_nextWeek_33 rfl ?_
      refine q_callV C (CN := RX9) (T := TX9) (N := 28) [.int x1] [] (fun a0 o2 hs1 hm => m_X9_isLate hm) lk_X9_180 im_X9_isLate se_X9_X9_isLate rfl ⟨(Nat.le_of_ble_eq_true rfl), (Nat.le_of_ble_eq_true rfl)⟩ ⟨(Nat.le_of_ble_eq_true rfl), (Nat.le_of_ble_eq_true rfl)⟩ rfl rfl (by decide) dX9_nextWeek_34 h (fun v5 hs h => WG_st (st' := [.int v5]) rfl ?_)
      refine q_if_eq C 71 dX9_nextWeek_37 (by decide) h (fun h => ?_) (fun h => ?_)
      · exact w_j_X9_nextWeek_71 C C2 _ _ _ hrec_24 h
      · refine q_aload_n C 0 dX9_nextWeek_40 rfl ?_
        refine q_gR C fl_X9_22 dX9_nextWeek_41 h (fun v7 h => ?_)
        refine q_aload_n C 0 dX9_nextWeek_44 rfl ?_
        refine q_gR C fl_X9_41 dX9_nextWeek_45 h (fun v8 h => ?_)
        refine q_iload_n C 1 dX9_nextWeek_48 rfl ?_
        refine q_iald C dX9_nextWeek_49 h (fun v9 h => ?_)
        refine q_iald C dX9_nextWeek_50 h (fun v10 h => ?_)
        refine q_bipush C (9 : Int32) dX9_nextWeek_51 (by decide) ?_
        refine q_icmp_ge C 71 dX9_nextWeek_53 (by decide) h (fun h => ?_) (fun h => ?_)
        · exact w_j_X9_nextWeek_71 C C2 _ _ _ hrec_24 h
        · refine q_aload_n C 0 dX9_nextWeek_56 rfl ?_
          refine q_gR C fl_X9_22 dX9_nextWeek_57 h (fun v11 h => ?_)
          refine q_aload_n C 0 dX9_nextWeek_60 rfl ?_
          refine q_gR C fl_X9_41 dX9_nextWeek_61 h (fun v12 h => ?_)
          refine q_iload_n C 1 dX9_nextWeek_64 rfl ?_
          refine q_iald C dX9_nextWeek_65 h (fun v13 h => ?_)
          refine q_dup2 C rfl (cat_rf _) dX9_nextWeek_66 ?_
          refine q_iald C dX9_nextWeek_67 h (fun v14 h => ?_)
          refine q_iconst C (1 : Int32) dX9_nextWeek_68 (by decide) ?_
          refine q_iadd C dX9_nextWeek_69 ?_
          refine q_iast C dX9_nextWeek_70 h (fun hs h => ?_)
          exact w_j_X9_nextWeek_71 C C2 _ _ _ hrec_24 h
def j_X9_nextWeek_148 (a0 : Option Nat) (a1 : Option Nat) (a2 : Int32) (s0 : Int32) (s1 : Int32) (s2 : Option Nat) (rec_99 : Int32 → OO Int32) : OO Int32 :=
  stZ s2 s1 s0 (
    lets (a2 + (1 : Int32)) fun (v22 : Int32) =>
    rec_99 v22)
set_option maxRecDepth 100000 in
set_option maxHeartbeats 4000000 in
theorem w_j_X9_nextWeek_148 (C : Cx G l p s m args c RX9 cX9_nextWeek 3) (C2 : Cy meth c (some .int)) {hs : Hs} (a0 : Option Nat) (a1 : Option Nat) (a2 : Int32) (s0 : Int32) (s1 : Int32) (s2 : Option Nat) (rec_99 : Int32 → OO Int32) (hrec_99 : ∀ (y2 : Int32) hs, rec_99 y2 hs = some (o, hs') → WG G p l e { frames := 10, cells := 1, slots := 16, locals := 230 } s m args below meth c 3 1 16 (vx_MQ below (QcT G o hs' tvI) (XCT G o hs') args s 1 16 (gA G)) hs [(0, va_rf a0), (1, va_rf a1), (2, .int y2)] [] 99) (h : j_X9_nextWeek_148 a0 a1 a2 s0 s1 s2 rec_99 hs = some (o, hs')) : WG G p l e { frames := 10, cells := 1, slots := 16, locals := 230 } s m args below meth c 3 1 16 (vx_MQ below (QcT G o hs' tvI) (XCT G o hs') args s 1 16 (gA G)) hs [(0, va_rf a0), (1, va_rf a1), (2, .int a2)] [.int s0, .int s1, va_rf s2] 148 := by
  unfold j_X9_nextWeek_148 at h
  refine q_zast C dX9_nextWeek_148 h (fun hs h => ?_)
  refine q_iinc C 2 (1 : Int32) (fun v22 => [(2, .int v22), (0, va_rf a0), (1, va_rf a1)]) dX9_nextWeek_149 rfl (by decide) (by decide) (fun _ => rfl) h (fun v22 h => ?_)
  refine q_goto C 99 dX9_nextWeek_152 (by decide) ?_
  refine WG.sub [1, 2, 0] rfl ?_
  exact hrec_99 _ _ h
def j_X9_nextWeek_147 (a0 : Option Nat) (a1 : Option Nat) (a2 : Int32) (s0 : Int32) (s1 : Option Nat) (rec_99 : Int32 → OO Int32) : OO Int32 :=
  j_X9_nextWeek_148 a0 a1 a2 (0 : Int32) s0 s1 rec_99
set_option maxRecDepth 100000 in
set_option maxHeartbeats 4000000 in
theorem w_j_X9_nextWeek_147 (C : Cx G l p s m args c RX9 cX9_nextWeek 3) (C2 : Cy meth c (some .int)) {hs : Hs} (a0 : Option Nat) (a1 : Option Nat) (a2 : Int32) (s0 : Int32) (s1 : Option Nat) (rec_99 : Int32 → OO Int32) (hrec_99 : ∀ (y2 : Int32) hs, rec_99 y2 hs = some (o, hs') → WG G p l e { frames := 10, cells := 1, slots := 16, locals := 230 } s m args below meth c 3 1 16 (vx_MQ below (QcT G o hs' tvI) (XCT G o hs') args s 1 16 (gA G)) hs [(0, va_rf a0), (1, va_rf a1), (2, .int y2)] [] 99) (h : j_X9_nextWeek_147 a0 a1 a2 s0 s1 rec_99 hs = some (o, hs')) : WG G p l e { frames := 10, cells := 1, slots := 16, locals := 230 } s m args below meth c 3 1 16 (vx_MQ below (QcT G o hs' tvI) (XCT G o hs') args s 1 16 (gA G)) hs [(0, va_rf a0), (1, va_rf a1), (2, .int a2)] [.int s0, va_rf s1] 147 := by
  unfold j_X9_nextWeek_147 at h
  refine q_iconst C (0 : Int32) dX9_nextWeek_147 (by decide) ?_
  exact w_j_X9_nextWeek_148 C C2 _ _ _ _ _ _ _ hrec_99 h
def L_X9_nextWeek_99 (a0 : Option Nat) (a1 : Option Nat) (k_99_155 : OO Int32) : Nat → Int32 → OO Int32
  | 0, _ => failO
  | n + 1, x2 =>
    gI a0 12 24 fun v20 =>
    (if v20 ≤ x2 then
    k_99_155
    else
    rcv a0 12 fun r29 => call (f_X9_isPlaced r29 x2) (fun (v21 : Int32) =>
    (if v21 = 0 then
    j_X9_nextWeek_147 a0 a1 x2 x2 a1 (L_X9_nextWeek_99 a0 a1 k_99_155 n)
    else
    gR a0 12 14 fun v23 =>
    ldI 0 v23 x2 fun v24 =>
    dvz (8 : Int32) (
    gR a0 12 14 fun v25 =>
    ldI 0 v25 x2 fun v26 =>
    dvz (8 : Int32) (
    rcv a0 12 fun r28 => call (f_X9_letters r28 x2 (v24 / (8 : Int32)) (irem v26 (8 : Int32))) (fun (v27 : Int32) =>
    (if v27 ≤ 0 then
    j_X9_nextWeek_147 a0 a1 x2 x2 a1 (L_X9_nextWeek_99 a0 a1 k_99_155 n)
    else
    j_X9_nextWeek_148 a0 a1 x2 (1 : Int32) x2 a1 (L_X9_nextWeek_99 a0 a1 k_99_155 n))) nox)))) nox)
set_option maxRecDepth 100000 in
set_option maxHeartbeats 4000000 in
theorem w_L_X9_nextWeek_99 (C : Cx G l p s m args c RX9 cX9_nextWeek 3) (C2 : Cy meth c (some .int)) (a0 : Option Nat) (a1 : Option Nat) (k_99_155 : OO Int32) (hk_99_155 : ∀ hs, k_99_155  hs = some (o, hs') → WG G p l e { frames := 10, cells := 1, slots := 16, locals := 230 } s m args below meth c 3 1 16 (vx_MQ below (QcT G o hs' tvI) (XCT G o hs') args s 1 16 (gA G)) hs [(0, va_rf a0), (1, va_rf a1)] [] 155) : ∀ (n : Nat) (x2 : Int32) (hs : Hs), L_X9_nextWeek_99 a0 a1 k_99_155 n x2 hs = some (o, hs') → WG G p l e { frames := 10, cells := 1, slots := 16, locals := 230 } s m args below meth c 3 1 16 (vx_MQ below (QcT G o hs' tvI) (XCT G o hs') args s 1 16 (gA G)) hs [(0, va_rf a0), (1, va_rf a1), (2, .int x2)] [] 99 := by
  intro n
  induction n with
  | zero =>
    intro x2 hs h
    rw [L_X9_nextWeek_99] at h
    exact absurd h failO_e
  | succ n hrec_99 =>
    intro x2 hs h
    rw [L_X9_nextWeek_99] at h
    refine q_iload_n C 2 dX9_nextWeek_99 rfl ?_
    refine q_aload_n C 0 dX9_nextWeek_100 rfl ?_
    refine q_gI C fl_X9_84 dX9_nextWeek_101 h (fun v20 h => ?_)
    refine q_icmp_ge C 155 dX9_nextWeek_104 (by decide) h (fun h => ?_) (fun h => ?_)
    · refine WG.sub [0, 1] rfl ?_
      exact hk_99_155 _ h
    · refine q_aload_n C 1 dX9_nextWeek_107 rfl ?_
      refine q_iload_n C 2 dX9_nextWeek_108 rfl ?_
      refine q_aload_n C 0 dX9_nextWeek_109 rfl ?_
      refine q_iload_n C 2 dX9_nextWeek_110 rfl ?_
      refine q_callV C (CN := RX9) (T := TX9) (N := 28) [.int x2] [.int x2, va_rf a1] (fun a0 o2 hs1 hm => m_X9_isPlaced hm) lk_X9_118 im_X9_isPlaced se_X9_X9_isPlaced rfl ⟨(Nat.le_of_ble_eq_true rfl), (Nat.le_of_ble_eq_true rfl)⟩ ⟨(Nat.le_of_ble_eq_true rfl), (Nat.le_of_ble_eq_true rfl)⟩ rfl rfl (by simp only [List.map, cat_rf, cat_i, cat_a]; decide) dX9_nextWeek_111 h (fun v21 hs h => WG_st (st' := [.int v21, .int x2, va_rf a1]) rfl ?_)
      refine q_if_eq C 147 dX9_nextWeek_114 (by decide) h (fun h => ?_) (fun h => ?_)
      · exact w_j_X9_nextWeek_147 C C2 _ _ _ _ _ _ hrec_99 h
      · refine q_aload_n C 0 dX9_nextWeek_117 rfl ?_
        refine q_iload_n C 2 dX9_nextWeek_118 rfl ?_
        refine q_aload_n C 0 dX9_nextWeek_119 rfl ?_
        refine q_gR C fl_X9_53 dX9_nextWeek_120 h (fun v23 h => ?_)
        refine q_iload_n C 2 dX9_nextWeek_123 rfl ?_
        refine q_iald C dX9_nextWeek_124 h (fun v24 h => ?_)
        refine q_bipush C (8 : Int32) dX9_nextWeek_125 (by decide) ?_
        refine q_idiv C dX9_nextWeek_127 h (fun h => ?_)
        refine q_aload_n C 0 dX9_nextWeek_128 rfl ?_
        refine q_gR C fl_X9_53 dX9_nextWeek_129 h (fun v25 h => ?_)
        refine q_iload_n C 2 dX9_nextWeek_132 rfl ?_
        refine q_iald C dX9_nextWeek_133 h (fun v26 h => ?_)
        refine q_bipush C (8 : Int32) dX9_nextWeek_134 (by decide) ?_
        refine q_irem C dX9_nextWeek_136 h (fun h => ?_)
        refine q_callV C (CN := RX9) (T := TX9) (N := 28) [.int x2, .int (v24 / (8 : Int32)), .int (irem v26 (8 : Int32))] [.int x2, va_rf a1] (fun a0 o2 hs1 hm => m_X9_letters hm) lk_X9_145 im_X9_letters se_X9_X9_letters rfl ⟨(Nat.le_of_ble_eq_true rfl), (Nat.le_of_ble_eq_true rfl)⟩ ⟨(Nat.le_of_ble_eq_true rfl), (Nat.le_of_ble_eq_true rfl)⟩ rfl rfl (by simp only [List.map, cat_rf, cat_i, cat_a]; decide) dX9_nextWeek_137 h (fun v27 hs h => WG_st (st' := [.int v27, .int x2, va_rf a1]) rfl ?_)
        refine q_if_le C 147 dX9_nextWeek_140 (by decide) h (fun h => ?_) (fun h => ?_)
        · exact w_j_X9_nextWeek_147 C C2 _ _ _ _ _ _ hrec_99 h
        · refine q_iconst C (1 : Int32) dX9_nextWeek_143 (by decide) ?_
          refine q_goto C 148 dX9_nextWeek_144 (by decide) ?_
          exact w_j_X9_nextWeek_148 C C2 _ _ _ _ _ _ _ hrec_99 h
def j_X9_nextWeek_14 (a0 : Option Nat) (s0 : Int32) (s1 : Option Nat)  : OO Int32 :=
  rcv s1 12 fun r34 => call (f_X9_checked r34 s0) (fun (v2 : Int32) =>
    (if v2 ≤ 0 then
    lets (0 : Int32) fun (v3 : Int32) =>
    L_X9_nextWeek_24 a0 (pI a0 12 26 (0 : Int32) (
    gI a0 12 27 fun v16 =>
    pI a0 12 27 (v16 + (1 : Int32)) (
    nwI 1 (16 : Int32) 16 fun q17 =>
    lets (some q17) fun (v18 : Option Nat) =>
    lets (0 : Int32) fun (v19 : Int32) =>
    L_X9_nextWeek_99 a0 v18 (rcv a0 12 fun r33 => call (f_X9_repairs r33 v18) (fun (v30 : Int32) =>
    lets v30 fun (v31 : Int32) =>
    gI a0 12 27 fun v32 =>
    rtn v32) nox) 100000 v19))) 100000 v3
    else
    rtn (0 : Int32))) nox
set_option maxRecDepth 100000 in
set_option maxHeartbeats 4000000 in
theorem w_j_X9_nextWeek_14 (C : Cx G l p s m args c RX9 cX9_nextWeek 3) (C2 : Cy meth c (some .int)) {hs : Hs} (a0 : Option Nat) (s0 : Int32) (s1 : Option Nat)   (h : j_X9_nextWeek_14 a0 s0 s1 hs = some (o, hs')) : WG G p l e { frames := 10, cells := 1, slots := 16, locals := 230 } s m args below meth c 3 0 0 (vx_MQ below (QcT G o hs' tvI) (XCT G o hs') args s 1 16 (gA G)) hs [(0, va_rf a0)] [.int s0, va_rf s1] 14 := by
  unfold j_X9_nextWeek_14 at h
  refine q_callV C (CN := RX9) (T := TX9) (N := 28) [.int s0] [] (fun a0 o2 hs1 hm => m_X9_checked hm) lk_X9_110 im_X9_checked se_X9_X9_checked rfl ⟨(Nat.le_of_ble_eq_true rfl), (Nat.le_of_ble_eq_true rfl)⟩ ⟨(Nat.le_of_ble_eq_true rfl), (Nat.le_of_ble_eq_true rfl)⟩ rfl rfl (by decide) dX9_nextWeek_14 h (fun v2 hs h => WG_st (st' := [.int v2]) rfl ?_)
  refine q_if_le C 22 dX9_nextWeek_17 (by decide) h (fun h => ?_) (fun h => ?_)
  · refine q_iconst C (0 : Int32) dX9_nextWeek_22 (by decide) ?_
    refine q_istore_n C (fun v3 => [(1, .int v3), (0, va_rf a0)]) dX9_nextWeek_23 (by decide) (fun _ => rfl) h (fun v3 h => ?_)
    refine WG.sub [1, 0] rfl ?_
    refine w_L_X9_nextWeek_24 C C2 _ _ ?_ _ _ _ h
    · intro  hs h
      refine q_aload_n C 0 dX9_nextWeek_77 rfl ?_
      refine q_iconst C (0 : Int32) dX9_nextWeek_78 (by decide) ?_
      refine q_pI C fw_X9_90 (fun z => nomatch z) dX9_nextWeek_79 h (fun hs h => ?_)
      refine q_aload_n C 0 dX9_nextWeek_82 rfl ?_
      refine q_dup C (cat_rf _) dX9_nextWeek_83 ?_
      refine q_gI C fl_X9_93 dX9_nextWeek_84 h (fun v16 h => ?_)
      refine q_iconst C (1 : Int32) dX9_nextWeek_87 (by decide) ?_
      refine q_iadd C dX9_nextWeek_88 ?_
      refine q_pI C fw_X9_93 (fun z => nomatch z) dX9_nextWeek_89 h (fun hs h => ?_)
      refine q_bipush C (16 : Int32) dX9_nextWeek_92 (by decide) ?_
      refine q_newZ C 16 (Nat.le_of_ble_eq_true rfl) ac_1 (Nat.le_of_ble_eq_true rfl) (Nat.le_of_ble_eq_true rfl) dX9_nextWeek_94 h (fun q17 hs h => ?_)
      refine q_astore_n C (fun v18 => [(1, va_rf v18), (0, va_rf a0)]) dX9_nextWeek_96 (by decide) (fun _ => rfl) h (fun v18 h => ?_)
      refine q_iconst C (0 : Int32) dX9_nextWeek_97 (by decide) ?_
      refine q_istore_n C (fun v19 => [(2, .int v19), (1, va_rf v18), (0, va_rf a0)]) dX9_nextWeek_98 (by decide) (fun _ => rfl) h (fun v19 h => ?_)
      refine WG.sub [2, 1, 0] rfl ?_
      refine w_L_X9_nextWeek_99 C C2 _ _ _ ?_ _ _ _ h
      · intro  hs h
        refine q_aload_n C 0 dX9_nextWeek_155 rfl ?_
        refine q_aload_n C 1 dX9_nextWeek_156 rfl ?_
        refine q_callV C (CN := RX9) (T := TX9) (N := 28) [va_rf v18] [] (fun a0 o2 hs1 hm => m_X9_repairs hm) lk_X9_248 im_X9_repairs se_X9_X9_repairs rfl ⟨(Nat.le_of_ble_eq_true rfl), (Nat.le_of_ble_eq_true rfl)⟩ ⟨(Nat.le_of_ble_eq_true rfl), (Nat.le_of_ble_eq_true rfl)⟩ rfl rfl (by decide) dX9_nextWeek_157 h (fun v30 hs h => WG_st (st' := [.int v30]) rfl ?_)
        refine q_istore_n C (fun v31 => [(2, .int v31), (0, va_rf a0), (1, va_rf v18)]) dX9_nextWeek_160 (by decide) (fun _ => rfl) h (fun v31 h => ?_)
        refine q_aload_n C 1 dX9_nextWeek_161 rfl ?_
        refine q_gI C fl_X9_93 dX9_nextWeek_162 h (fun v32 h => ?_)
        exact q_iret C C2 rfl (Nat.le_of_ble_eq_true rfl) (Nat.le_of_ble_eq_true rfl) dX9_nextWeek_165 h
  · refine q_iconst C (0 : Int32) dX9_nextWeek_20 (by decide) ?_
    exact q_iret C C2 rfl (Nat.le_of_ble_eq_true rfl) (Nat.le_of_ble_eq_true rfl) dX9_nextWeek_21 h
end M_X9_nextWeek
def f_X9_nextWeek (a0 : Nat) : OO Int32 :=
    gI (some a0) 12 26 fun v1 =>
    (if ¬ v1 = (4 : Int32) then
    j_X9_nextWeek_14 (some a0) (0 : Int32) (some a0)
    else
    j_X9_nextWeek_14 (some a0) (1 : Int32) (some a0))
set_option maxRecDepth 100000 in
set_option maxHeartbeats 4000000 in
theorem m_X9_nextWeek {G : GG} {l : Launch} {a0 : Nat} {hs hs' : Hs} {o : Except Nat Int32} (h : f_X9_nextWeek a0 hs = some (o, hs')) : CT G l yX9_nextWeek cX9_nextWeek 3 (some .int) 10 230 1 16 [.ref a0] hs o hs' tvI := by
  refine vx_ofW (cc := cX9_nextWeek) (maxL := 3) (ret := (some .int)) (by decide +kernel) rfl ?_
  intro p e s m args below meth c s₁ B hml hxt hv
  obtain ⟨hav, hR, hKn⟩ := hv
  subst hav
  have hts := atoms_spec (ws := .code yX9_nextWeek cX9_nextWeek 3 (some .int) :: Tg) B.pre
  have C : Cx G l p s m _ c RX9 cX9_nextWeek 3 := ⟨B.exec, B.bytes, hml, findClass_of_methodNamed B.named, fun w hw => hts w (List.mem_cons_of_mem _ hw), hKn, fun q hq => Nat.le_trans hR.2.2.1 hq⟩
  have C2 : Cy meth c (some .int) := ⟨B.returns, B.notSynchronized, hxt⟩
  have key : WG G p l e { frames := 10, cells := 1, slots := 16, locals := 230 } s m ([.ref a0] : List Value).toArray below meth c 3 0 0 (vx_MQ below (QcT G o hs' tvI) (XCT G o hs') ([.ref a0] : List Value).toArray s 1 16 (gA G)) hs [(0, va_rf (some a0))] [] 0 := by
    unfold f_X9_nextWeek at h
    refine q_aload_n C 0 dX9_nextWeek_0 rfl ?_
    refine q_aload_n C 0 dX9_nextWeek_1 rfl ?_
    refine q_gI C fl_X9_90 dX9_nextWeek_2 h (fun v1 h => ?_)
    refine q_iconst C (4 : Int32) dX9_nextWeek_5 (by decide) ?_
    refine q_icmp_ne C 13 dX9_nextWeek_6 (by decide) h (fun h => ?_) (fun h => ?_)
    · refine q_iconst C (0 : Int32) dX9_nextWeek_13 (by decide) ?_
      exact w_j_X9_nextWeek_14 C C2 _ _ _   h
    · refine q_iconst C (1 : Int32) dX9_nextWeek_9 (by decide) ?_
      refine q_goto C 14 dX9_nextWeek_10 (by decide) ?_
      exact w_j_X9_nextWeek_14 C C2 _ _ _   h
  rw [lg_entry_eq]
  exact key _ _ _ hR va_S.rf ⟨lv_entry _ (n := 3) (Nat.le_of_ble_eq_true rfl), (c1_r c1_n)⟩

theorem cd_X9_today : Cond.code yX9_today cX9_today 1 (some .int) ∈ Tg := Tg_of (i := 1898) (by decide +kernel) (by decide +kernel)
section M_X9_today
variable {p : Program} {l : Launch} {e : Env} {s : State} {m : MethodId} {args : Array Value} {below : List Frame} {meth : Method} {c : Code} {G : GG} {o : Except Nat Int32} {hs' : Hs}
end M_X9_today
def f_X9_today (a0 : Nat) : OO Int32 :=
    gI (some a0) 12 26 fun v1 =>
    rcv (some a0) 12 fun r3 => call (f_X9_plain r3 v1) (fun (v2 : Int32) =>
    rtn v2) nox
set_option maxRecDepth 100000 in
set_option maxHeartbeats 4000000 in
theorem m_X9_today {G : GG} {l : Launch} {a0 : Nat} {hs hs' : Hs} {o : Except Nat Int32} (h : f_X9_today a0 hs = some (o, hs')) : CT G l yX9_today cX9_today 1 (some .int) 1 21 0 0 [.ref a0] hs o hs' tvI := by
  refine vx_ofW (cc := cX9_today) (maxL := 1) (ret := (some .int)) (by decide +kernel) rfl ?_
  intro p e s m args below meth c s₁ B hml hxt hv
  obtain ⟨hav, hR, hKn⟩ := hv
  subst hav
  have hts := atoms_spec (ws := .code yX9_today cX9_today 1 (some .int) :: Tg) B.pre
  have C : Cx G l p s m _ c RX9 cX9_today 1 := ⟨B.exec, B.bytes, hml, findClass_of_methodNamed B.named, fun w hw => hts w (List.mem_cons_of_mem _ hw), hKn, fun q hq => Nat.le_trans hR.2.2.1 hq⟩
  have C2 : Cy meth c (some .int) := ⟨B.returns, B.notSynchronized, hxt⟩
  have key : WG G p l e { frames := 1, cells := 0, slots := 0, locals := 21 } s m ([.ref a0] : List Value).toArray below meth c 1 0 0 (vx_MQ below (QcT G o hs' tvI) (XCT G o hs') ([.ref a0] : List Value).toArray s 0 0 (gA G)) hs [(0, va_rf (some a0))] [] 0 := by
    unfold f_X9_today at h
    refine q_aload_n C 0 dX9_today_0 rfl ?_
    refine q_aload_n C 0 dX9_today_1 rfl ?_
    refine q_gI C fl_X9_90 dX9_today_2 h (fun v1 h => ?_)
    refine q_callV C (CN := RX9) (T := TX9) (N := 28) [.int v1] [] (fun a0 o2 hs1 hm => m_X9_plain hm) lk_X9_211 im_X9_plain se_X9_X9_plain rfl ⟨(Nat.le_of_ble_eq_true rfl), (Nat.le_of_ble_eq_true rfl)⟩ ⟨(Nat.le_of_ble_eq_true rfl), (Nat.le_of_ble_eq_true rfl)⟩ rfl rfl (by decide) dX9_today_5 h (fun v2 hs h => WG_st (st' := [.int v2]) rfl ?_)
    exact q_iret C C2 rfl (Nat.le_of_ble_eq_true rfl) (Nat.le_of_ble_eq_true rfl) dX9_today_8 h
  rw [lg_entry_eq]
  exact key _ _ _ hR va_S.rf ⟨lv_entry _ (n := 1) (Nat.le_of_ble_eq_true rfl), (c1_r c1_n)⟩

theorem cd_X9_account : Cond.code yX9_account cX9_account 2 (some .int) ∈ Tg := Tg_of (i := 1902) (by decide +kernel) (by decide +kernel)
section M_X9_account
variable {p : Program} {l : Launch} {e : Env} {s : State} {m : MethodId} {args : Array Value} {below : List Frame} {meth : Method} {c : Code} {G : GG} {o : Except Nat Int32} {hs' : Hs}
end M_X9_account
def f_X9_account (a0 : Nat) (p1 : Int32) : OO Int32 :=
    rcv (some a0) 12 fun r6 => call (f_X9_isTeacher r6 p1) (fun (v1 : Int32) =>
    rcv (some a0) 12 fun r5 => call (f_X9_checked r5 v1) (fun (v2 : Int32) =>
    (if v2 ≤ 0 then
    gR (some a0) 12 4 fun v3 =>
    ldI 0 v3 p1 fun v4 =>
    rtn v4
    else
    rtn (0 : Int32))) nox) nox
set_option maxRecDepth 100000 in
set_option maxHeartbeats 4000000 in
theorem m_X9_account {G : GG} {l : Launch} {a0 : Nat} {p1 : Int32} {hs hs' : Hs} {o : Except Nat Int32} (h : f_X9_account a0 p1 hs = some (o, hs')) : CT G l yX9_account cX9_account 2 (some .int) 2 43 0 0 [.ref a0, .int p1] hs o hs' tvI := by
  refine vx_ofW (cc := cX9_account) (maxL := 2) (ret := (some .int)) (by decide +kernel) rfl ?_
  intro p e s m args below meth c s₁ B hml hxt hv
  obtain ⟨hav, hR, hKn⟩ := hv
  subst hav
  have hts := atoms_spec (ws := .code yX9_account cX9_account 2 (some .int) :: Tg) B.pre
  have C : Cx G l p s m _ c RX9 cX9_account 2 := ⟨B.exec, B.bytes, hml, findClass_of_methodNamed B.named, fun w hw => hts w (List.mem_cons_of_mem _ hw), hKn, fun q hq => Nat.le_trans hR.2.2.1 hq⟩
  have C2 : Cy meth c (some .int) := ⟨B.returns, B.notSynchronized, hxt⟩
  have key : WG G p l e { frames := 2, cells := 0, slots := 0, locals := 43 } s m ([.ref a0, .int p1] : List Value).toArray below meth c 2 0 0 (vx_MQ below (QcT G o hs' tvI) (XCT G o hs') ([.ref a0, .int p1] : List Value).toArray s 0 0 (gA G)) hs [(0, va_rf (some a0)), (1, .int p1)] [] 0 := by
    unfold f_X9_account at h
    refine q_aload_n C 0 dX9_account_0 rfl ?_
    refine q_aload_n C 0 dX9_account_1 rfl ?_
    refine q_iload_n C 1 dX9_account_2 rfl ?_
    refine q_callV C (CN := RX9) (T := TX9) (N := 28) [.int p1] [va_rf (some a0)] (fun a0 o2 hs1 hm => m_X9_isTeacher hm) lk_X9_104 im_X9_isTeacher se_X9_X9_isTeacher rfl ⟨(Nat.le_of_ble_eq_true rfl), (Nat.le_of_ble_eq_true rfl)⟩ ⟨(Nat.le_of_ble_eq_true rfl), (Nat.le_of_ble_eq_true rfl)⟩ rfl rfl (by simp only [List.map, cat_rf, cat_i, cat_a]; decide) dX9_account_3 h (fun v1 hs h => WG_st (st' := [.int v1, va_rf (some a0)]) rfl ?_)
    refine q_callV C (CN := RX9) (T := TX9) (N := 28) [.int v1] [] (fun a0 o2 hs1 hm => m_X9_checked hm) lk_X9_110 im_X9_checked se_X9_X9_checked rfl ⟨(Nat.le_of_ble_eq_true rfl), (Nat.le_of_ble_eq_true rfl)⟩ ⟨(Nat.le_of_ble_eq_true rfl), (Nat.le_of_ble_eq_true rfl)⟩ rfl rfl (by decide) dX9_account_6 h (fun v2 hs h => WG_st (st' := [.int v2]) rfl ?_)
    refine q_if_le C 16 dX9_account_9 (by decide) h (fun h => ?_) (fun h => ?_)
    · refine q_aload_n C 0 dX9_account_16 rfl ?_
      refine q_gR C fl_X9_22 dX9_account_17 h (fun v3 h => ?_)
      refine q_iload_n C 1 dX9_account_20 rfl ?_
      refine q_iald C dX9_account_21 h (fun v4 h => ?_)
      exact q_iret C C2 rfl (Nat.le_of_ble_eq_true rfl) (Nat.le_of_ble_eq_true rfl) dX9_account_22 h
    · refine q_iconst C (0 : Int32) dX9_account_12 (by decide) ?_
      refine q_goto C 22 dX9_account_13 (by decide) ?_
      exact q_iret C C2 rfl (Nat.le_of_ble_eq_true rfl) (Nat.le_of_ble_eq_true rfl) dX9_account_22 h
  rw [lg_entry_eq]
  exact key _ _ _ hR va_S.rf ⟨lv_entry _ (n := 2) (Nat.le_of_ble_eq_true rfl), (c1_r (c1_i c1_n))⟩

theorem cd_X9_isVersion : Cond.code yX9_isVersion cX9_isVersion 2 (some .boolean) ∈ Tg := Tg_of (i := 1914) (by decide +kernel) (by decide +kernel)
theorem fl_X9_87 : Fld RX9 87 12 25 .int := ⟨RX9, TX9, 28, RX9, rfl, by decide, wf_X9_87, (Or.inl rfl), gu_X9, tyX9_ok _ (by decide), ⟨tyX9, tyX9_ok⟩, nmX9⟩
section M_X9_isVersion
variable {p : Program} {l : Launch} {e : Env} {s : State} {m : MethodId} {args : Array Value} {below : List Frame} {meth : Method} {c : Code} {G : GG} {o : Except Nat Int32} {hs' : Hs}
end M_X9_isVersion
def f_X9_isVersion (a0 : Nat) (p1 : Int32) : OO Int32 :=
    gI (some a0) 12 25 fun v1 =>
    call (f_X9_in p1 (0 : Int32) (v1 - (1 : Int32))) (fun (v2 : Int32) =>
    retZ v2) nox
set_option maxRecDepth 100000 in
set_option maxHeartbeats 4000000 in
theorem m_X9_isVersion {G : GG} {l : Launch} {a0 : Nat} {p1 : Int32} {hs hs' : Hs} {o : Except Nat Int32} (h : f_X9_isVersion a0 p1 hs = some (o, hs')) : CT G l yX9_isVersion cX9_isVersion 2 (some .boolean) 1 22 0 0 [.ref a0, .int p1] hs o hs' tvI := by
  refine vx_ofW (cc := cX9_isVersion) (maxL := 2) (ret := (some .boolean)) (by decide +kernel) rfl ?_
  intro p e s m args below meth c s₁ B hml hxt hv
  obtain ⟨hav, hR, hKn⟩ := hv
  subst hav
  have hts := atoms_spec (ws := .code yX9_isVersion cX9_isVersion 2 (some .boolean) :: Tg) B.pre
  have C : Cx G l p s m _ c RX9 cX9_isVersion 2 := ⟨B.exec, B.bytes, hml, findClass_of_methodNamed B.named, fun w hw => hts w (List.mem_cons_of_mem _ hw), hKn, fun q hq => Nat.le_trans hR.2.2.1 hq⟩
  have C2 : Cy meth c (some .boolean) := ⟨B.returns, B.notSynchronized, hxt⟩
  have key : WG G p l e { frames := 1, cells := 0, slots := 0, locals := 22 } s m ([.ref a0, .int p1] : List Value).toArray below meth c 2 0 0 (vx_MQ below (QcT G o hs' tvI) (XCT G o hs') ([.ref a0, .int p1] : List Value).toArray s 0 0 (gA G)) hs [(0, va_rf (some a0)), (1, .int p1)] [] 0 := by
    unfold f_X9_isVersion at h
    refine q_iload_n C 1 dX9_isVersion_0 rfl ?_
    refine q_iconst C (0 : Int32) dX9_isVersion_1 (by decide) ?_
    refine q_aload_n C 0 dX9_isVersion_2 rfl ?_
    refine q_gI C fl_X9_87 dX9_isVersion_3 h (fun v1 h => ?_)
    refine q_iconst C (1 : Int32) dX9_isVersion_6 (by decide) ?_
    refine q_isub C dX9_isVersion_7 ?_
    refine q_callS C [.int p1, .int (0 : Int32), .int (v1 - (1 : Int32))] [] (fun o2 hs1 hm => m_X9_in hm) lk_X9_96 sm_X9_in ⟨(Nat.le_of_ble_eq_true rfl), (Nat.le_of_ble_eq_true rfl)⟩ ⟨(Nat.le_of_ble_eq_true rfl), (Nat.le_of_ble_eq_true rfl)⟩ rfl rfl (by decide) dX9_isVersion_8 h (fun v2 hs h => WG_st (st' := [.int v2]) rfl ?_)
    exact q_zret C C2 rfl (Nat.le_of_ble_eq_true rfl) (Nat.le_of_ble_eq_true rfl) dX9_isVersion_11 h
  rw [lg_entry_eq]
  exact key _ _ _ hR va_S.rf ⟨lv_entry _ (n := 2) (Nat.le_of_ble_eq_true rfl), (c1_r (c1_i c1_n))⟩

theorem cd_X9_save : Cond.code yX9_save cX9_save 2 (some .int) ∈ Tg := Tg_of (i := 1906) (by decide +kernel) (by decide +kernel)
theorem fl_X9_59 : Fld RX9 59 12 16 (.array .int) := ⟨RX9, TX9, 28, RX9, rfl, by decide, wf_X9_59, (Or.inl rfl), gu_X9, tyX9_ok _ (by decide), ⟨tyX9, tyX9_ok⟩, nmX9⟩
section M_X9_save
variable {p : Program} {l : Launch} {e : Env} {s : State} {m : MethodId} {args : Array Value} {below : List Frame} {meth : Method} {c : Code} {G : GG} {o : Except Nat Int32} {hs' : Hs}
def j_X9_save_62 (a0 : Option Nat) (a1 : Int32) (s0 : Int32) (s1 : Int32) (s2 : Option Nat) (rec_25 : Int32 → OO Int32) : OO Int32 :=
  stI s2 s1 s0 (
    lets (a1 + (1 : Int32)) fun (v7 : Int32) =>
    rec_25 v7)
set_option maxRecDepth 100000 in
set_option maxHeartbeats 4000000 in
theorem w_j_X9_save_62 (C : Cx G l p s m args c RX9 cX9_save 2) (C2 : Cy meth c (some .int)) {hs : Hs} (a0 : Option Nat) (a1 : Int32) (s0 : Int32) (s1 : Int32) (s2 : Option Nat) (rec_25 : Int32 → OO Int32) (hrec_25 : ∀ (y1 : Int32) hs, rec_25 y1 hs = some (o, hs') → WG G p l e { frames := 1, cells := 0, slots := 0, locals := 21 } s m args below meth c 2 0 0 (vx_MQ below (QcT G o hs' tvI) (XCT G o hs') args s 0 0 (gA G)) hs [(0, va_rf a0), (1, .int y1)] [] 25) (h : j_X9_save_62 a0 a1 s0 s1 s2 rec_25 hs = some (o, hs')) : WG G p l e { frames := 1, cells := 0, slots := 0, locals := 21 } s m args below meth c 2 0 0 (vx_MQ below (QcT G o hs' tvI) (XCT G o hs') args s 0 0 (gA G)) hs [(0, va_rf a0), (1, .int a1)] [.int s0, .int s1, va_rf s2] 62 := by
  unfold j_X9_save_62 at h
  refine q_iast C dX9_save_62 h (fun hs h => ?_)
  refine q_iinc C 1 (1 : Int32) (fun v7 => [(1, .int v7), (0, va_rf a0)]) dX9_save_63 rfl (by decide) (by decide) (fun _ => rfl) h (fun v7 h => ?_)
  refine q_goto C 25 dX9_save_66 (by decide) ?_
  refine WG.sub [1, 0] rfl ?_
  exact hrec_25 _ _ h
def L_X9_save_25 (a0 : Option Nat) (k_25_69 : OO Int32) : Nat → Int32 → OO Int32
  | 0, _ => failO
  | n + 1, x1 =>
    (if (16 : Int32) ≤ x1 then
    k_25_69
    else
    gR a0 12 16 fun v4 =>
    gI a0 12 25 fun v5 =>
    gI a0 12 24 fun v6 =>
    (if v6 ≤ x1 then
    j_X9_save_62 a0 x1 (-1 : Int32) (((16 : Int32) * v5) + x1) v4 (L_X9_save_25 a0 k_25_69 n)
    else
    gR a0 12 14 fun v8 =>
    ldI 0 v8 x1 fun v9 =>
    j_X9_save_62 a0 x1 v9 (((16 : Int32) * v5) + x1) v4 (L_X9_save_25 a0 k_25_69 n)))
set_option maxRecDepth 100000 in
set_option maxHeartbeats 4000000 in
theorem w_L_X9_save_25 (C : Cx G l p s m args c RX9 cX9_save 2) (C2 : Cy meth c (some .int)) (a0 : Option Nat) (k_25_69 : OO Int32) (hk_25_69 : ∀ hs, k_25_69  hs = some (o, hs') → WG G p l e { frames := 1, cells := 0, slots := 0, locals := 21 } s m args below meth c 2 0 0 (vx_MQ below (QcT G o hs' tvI) (XCT G o hs') args s 0 0 (gA G)) hs [(0, va_rf a0)] [] 69) : ∀ (n : Nat) (x1 : Int32) (hs : Hs), L_X9_save_25 a0 k_25_69 n x1 hs = some (o, hs') → WG G p l e { frames := 1, cells := 0, slots := 0, locals := 21 } s m args below meth c 2 0 0 (vx_MQ below (QcT G o hs' tvI) (XCT G o hs') args s 0 0 (gA G)) hs [(0, va_rf a0), (1, .int x1)] [] 25 := by
  intro n
  induction n with
  | zero =>
    intro x1 hs h
    rw [L_X9_save_25] at h
    exact absurd h failO_e
  | succ n hrec_25 =>
    intro x1 hs h
    rw [L_X9_save_25] at h
    refine q_iload_n C 1 dX9_save_25 rfl ?_
    refine q_bipush C (16 : Int32) dX9_save_26 (by decide) ?_
    refine q_icmp_ge C 69 dX9_save_28 (by decide) h (fun h => ?_) (fun h => ?_)
    · refine WG.sub [0] rfl ?_
      exact hk_25_69 _ h
    · refine q_aload_n C 0 dX9_save_31 rfl ?_
      refine q_gR C fl_X9_59 dX9_save_32 h (fun v4 h => ?_)
      refine q_bipush C (16 : Int32) dX9_save_35 (by decide) ?_
      refine q_aload_n C 0 dX9_save_37 rfl ?_
      refine q_gI C fl_X9_87 dX9_save_38 h (fun v5 h => ?_)
      refine q_imul C dX9_save_41 ?_
      refine q_iload_n C 1 dX9_save_42 rfl ?_
      refine q_iadd C dX9_save_43 ?_
      refine q_iload_n C 1 dX9_save_44 rfl ?_
      refine q_aload_n C 0 dX9_save_45 rfl ?_
      refine q_gI C fl_X9_84 dX9_save_46 h (fun v6 h => ?_)
      refine q_icmp_ge C 61 dX9_save_49 (by decide) h (fun h => ?_) (fun h => ?_)
      · refine q_iconst C (-1 : Int32) dX9_save_61 (by decide) ?_
        exact w_j_X9_save_62 C C2 _ _ _ _ _ _ hrec_25 h
      · refine q_aload_n C 0 dX9_save_52 rfl ?_
        refine q_gR C fl_X9_53 dX9_save_53 h (fun v8 h => ?_)
        refine q_iload_n C 1 dX9_save_56 rfl ?_
        refine q_iald C dX9_save_57 h (fun v9 h => ?_)
        refine q_goto C 62 dX9_save_58 (by decide) ?_
        exact w_j_X9_save_62 C C2 _ _ _ _ _ _ hrec_25 h
def j_X9_save_15 (a0 : Option Nat) (s0 : Int32) (s1 : Option Nat)  : OO Int32 :=
  rcv s1 12 fun r12 => call (f_X9_checked r12 s0) (fun (v2 : Int32) =>
    (if v2 ≤ 0 then
    lets (0 : Int32) fun (v3 : Int32) =>
    L_X9_save_25 a0 (gI a0 12 25 fun v10 =>
    pI a0 12 25 (v10 + (1 : Int32)) (
    gI a0 12 25 fun v11 =>
    rtn (v11 - (1 : Int32)))) 100000 v3
    else
    rtn (0 : Int32))) nox
set_option maxRecDepth 100000 in
set_option maxHeartbeats 4000000 in
theorem w_j_X9_save_15 (C : Cx G l p s m args c RX9 cX9_save 2) (C2 : Cy meth c (some .int)) {hs : Hs} (a0 : Option Nat) (s0 : Int32) (s1 : Option Nat)   (h : j_X9_save_15 a0 s0 s1 hs = some (o, hs')) : WG G p l e { frames := 1, cells := 0, slots := 0, locals := 21 } s m args below meth c 2 0 0 (vx_MQ below (QcT G o hs' tvI) (XCT G o hs') args s 0 0 (gA G)) hs [(0, va_rf a0)] [.int s0, va_rf s1] 15 := by
  unfold j_X9_save_15 at h
  refine q_callV C (CN := RX9) (T := TX9) (N := 28) [.int s0] [] (fun a0 o2 hs1 hm => m_X9_checked hm) lk_X9_110 im_X9_checked se_X9_X9_checked rfl ⟨(Nat.le_of_ble_eq_true rfl), (Nat.le_of_ble_eq_true rfl)⟩ ⟨(Nat.le_of_ble_eq_true rfl), (Nat.le_of_ble_eq_true rfl)⟩ rfl rfl (by decide) dX9_save_15 h (fun v2 hs h => WG_st (st' := [.int v2]) rfl ?_)
  refine q_if_le C 23 dX9_save_18 (by decide) h (fun h => ?_) (fun h => ?_)
  · refine q_iconst C (0 : Int32) dX9_save_23 (by decide) ?_
    refine q_istore_n C (fun v3 => [(1, .int v3), (0, va_rf a0)]) dX9_save_24 (by decide) (fun _ => rfl) h (fun v3 h => ?_)
    refine WG.sub [1, 0] rfl ?_
    refine w_L_X9_save_25 C C2 _ _ ?_ _ _ _ h
    · intro  hs h
      refine q_aload_n C 0 dX9_save_69 rfl ?_
      refine q_dup C (cat_rf _) dX9_save_70 ?_
      refine q_gI C fl_X9_87 dX9_save_71 h (fun v10 h => ?_)
      refine q_iconst C (1 : Int32) dX9_save_74 (by decide) ?_
      refine q_iadd C dX9_save_75 ?_
      refine q_pI C fw_X9_87 (fun z => nomatch z) dX9_save_76 h (fun hs h => ?_)
      refine q_aload_n C 0 dX9_save_79 rfl ?_
      refine q_gI C fl_X9_87 dX9_save_80 h (fun v11 h => ?_)
      refine q_iconst C (1 : Int32) dX9_save_83 (by decide) ?_
      refine q_isub C dX9_save_84 ?_
      exact q_iret C C2 rfl (Nat.le_of_ble_eq_true rfl) (Nat.le_of_ble_eq_true rfl) dX9_save_85 h
  · refine q_iconst C (0 : Int32) dX9_save_21 (by decide) ?_
    exact q_iret C C2 rfl (Nat.le_of_ble_eq_true rfl) (Nat.le_of_ble_eq_true rfl) dX9_save_22 h
end M_X9_save
def f_X9_save (a0 : Nat) : OO Int32 :=
    gI (some a0) 12 25 fun v1 =>
    (if (6 : Int32) ≤ v1 then
    j_X9_save_15 (some a0) (0 : Int32) (some a0)
    else
    j_X9_save_15 (some a0) (1 : Int32) (some a0))
set_option maxRecDepth 100000 in
set_option maxHeartbeats 4000000 in
theorem m_X9_save {G : GG} {l : Launch} {a0 : Nat} {hs hs' : Hs} {o : Except Nat Int32} (h : f_X9_save a0 hs = some (o, hs')) : CT G l yX9_save cX9_save 2 (some .int) 1 21 0 0 [.ref a0] hs o hs' tvI := by
  refine vx_ofW (cc := cX9_save) (maxL := 2) (ret := (some .int)) (by decide +kernel) rfl ?_
  intro p e s m args below meth c s₁ B hml hxt hv
  obtain ⟨hav, hR, hKn⟩ := hv
  subst hav
  have hts := atoms_spec (ws := .code yX9_save cX9_save 2 (some .int) :: Tg) B.pre
  have C : Cx G l p s m _ c RX9 cX9_save 2 := ⟨B.exec, B.bytes, hml, findClass_of_methodNamed B.named, fun w hw => hts w (List.mem_cons_of_mem _ hw), hKn, fun q hq => Nat.le_trans hR.2.2.1 hq⟩
  have C2 : Cy meth c (some .int) := ⟨B.returns, B.notSynchronized, hxt⟩
  have key : WG G p l e { frames := 1, cells := 0, slots := 0, locals := 21 } s m ([.ref a0] : List Value).toArray below meth c 2 0 0 (vx_MQ below (QcT G o hs' tvI) (XCT G o hs') ([.ref a0] : List Value).toArray s 0 0 (gA G)) hs [(0, va_rf (some a0))] [] 0 := by
    unfold f_X9_save at h
    refine q_aload_n C 0 dX9_save_0 rfl ?_
    refine q_aload_n C 0 dX9_save_1 rfl ?_
    refine q_gI C fl_X9_87 dX9_save_2 h (fun v1 h => ?_)
    refine q_bipush C (6 : Int32) dX9_save_5 (by decide) ?_
    refine q_icmp_ge C 14 dX9_save_7 (by decide) h (fun h => ?_) (fun h => ?_)
    · refine q_iconst C (0 : Int32) dX9_save_14 (by decide) ?_
      exact w_j_X9_save_15 C C2 _ _ _   h
    · refine q_iconst C (1 : Int32) dX9_save_10 (by decide) ?_
      refine q_goto C 15 dX9_save_11 (by decide) ?_
      exact w_j_X9_save_15 C C2 _ _ _   h
  rw [lg_entry_eq]
  exact key _ _ _ hR va_S.rf ⟨lv_entry _ (n := 2) (Nat.le_of_ble_eq_true rfl), (c1_r c1_n)⟩

theorem cd_X9_placeIn : Cond.code yX9_placeIn cX9_placeIn 3 (some .int) ∈ Tg := Tg_of (i := 1910) (by decide +kernel) (by decide +kernel)
theorem ml_X9_251 : Cond.methodLink RX9 251 yX9_isVersion ∈ Tg := Tg_of (i := 1911) (by decide +kernel) (by decide +kernel)
theorem lk_X9_251 : Lk RX9 251 yX9_isVersion cX9_isVersion 2 (some .boolean) 1 := ⟨ml_X9_251, cd_X9_isVersion, iw_X9, by decide +kernel⟩
theorem im_X9_isVersion : Cond.instanceMethod yX9_isVersion ∈ Tg := Tg_of (i := 1913) (by decide +kernel) (by decide +kernel)
theorem se_X9_X9_isVersion : Cond.selects RX9 yX9_isVersion yX9_isVersion ∈ Tg := Tg_of (i := 77) (by decide +kernel) (by decide +kernel)
section M_X9_placeIn
variable {p : Program} {l : Launch} {e : Env} {s : State} {m : MethodId} {args : Array Value} {below : List Frame} {meth : Method} {c : Code} {G : GG} {o : Except Nat Int32} {hs' : Hs}
def j_X9_placeIn_44 (a0 : Option Nat) (a1 : Int32) (a2 : Int32) (s0 : Int32) (s1 : Option Nat)  : OO Int32 :=
  pI s1 12 20 s0 (
    gI a0 12 20 fun v5 =>
    (if v5 ≤ 0 then
    gR a0 12 16 fun v6 =>
    ldI 0 v6 (((16 : Int32) * a1) + a2) fun v7 =>
    rtn v7
    else
    rtn (0 : Int32)))
set_option maxRecDepth 100000 in
set_option maxHeartbeats 4000000 in
theorem w_j_X9_placeIn_44 (C : Cx G l p s m args c RX9 cX9_placeIn 3) (C2 : Cy meth c (some .int)) {hs : Hs} (a0 : Option Nat) (a1 : Int32) (a2 : Int32) (s0 : Int32) (s1 : Option Nat)   (h : j_X9_placeIn_44 a0 a1 a2 s0 s1 hs = some (o, hs')) : WG G p l e { frames := 2, cells := 0, slots := 0, locals := 43 } s m args below meth c 3 0 0 (vx_MQ below (QcT G o hs' tvI) (XCT G o hs') args s 0 0 (gA G)) hs [(0, va_rf a0), (1, .int a1), (2, .int a2)] [.int s0, va_rf s1] 44 := by
  unfold j_X9_placeIn_44 at h
  refine q_pI C fw_X9_71 (fun z => nomatch z) dX9_placeIn_44 h (fun hs h => ?_)
  refine q_aload_n C 0 dX9_placeIn_47 rfl ?_
  refine q_gI C fl_X9_71 dX9_placeIn_48 h (fun v5 h => ?_)
  refine q_if_le C 58 dX9_placeIn_51 (by decide) h (fun h => ?_) (fun h => ?_)
  · refine q_aload_n C 0 dX9_placeIn_58 rfl ?_
    refine q_gR C fl_X9_59 dX9_placeIn_59 h (fun v6 h => ?_)
    refine q_bipush C (16 : Int32) dX9_placeIn_62 (by decide) ?_
    refine q_iload_n C 1 dX9_placeIn_64 rfl ?_
    refine q_imul C dX9_placeIn_65 ?_
    refine q_iload_n C 2 dX9_placeIn_66 rfl ?_
    refine q_iadd C dX9_placeIn_67 ?_
    refine q_iald C dX9_placeIn_68 h (fun v7 h => ?_)
    exact q_iret C C2 rfl (Nat.le_of_ble_eq_true rfl) (Nat.le_of_ble_eq_true rfl) dX9_placeIn_69 h
  · refine q_iconst C (0 : Int32) dX9_placeIn_54 (by decide) ?_
    refine q_goto C 69 dX9_placeIn_55 (by decide) ?_
    exact q_iret C C2 rfl (Nat.le_of_ble_eq_true rfl) (Nat.le_of_ble_eq_true rfl) dX9_placeIn_69 h
end M_X9_placeIn
def f_X9_placeIn (a0 : Nat) (p1 : Int32) (p2 : Int32) : OO Int32 :=
    rcv (some a0) 12 fun r9 => call (f_X9_isVersion r9 p1) (fun (v1 : Int32) =>
    (if ¬ v1 = 0 then
    rcv (some a0) 12 fun r8 => call (f_X9_isLesson r8 p2) (fun (v2 : Int32) =>
    (if ¬ v2 = 0 then
    gR (some a0) 12 16 fun v3 =>
    ldI 0 v3 (((16 : Int32) * p1) + p2) fun v4 =>
    (if 0 ≤ v4 then
    j_X9_placeIn_44 (some a0) p1 p2 (0 : Int32) (some a0)
    else
    j_X9_placeIn_44 (some a0) p1 p2 (1 : Int32) (some a0))
    else
    j_X9_placeIn_44 (some a0) p1 p2 (2 : Int32) (some a0))) nox
    else
    j_X9_placeIn_44 (some a0) p1 p2 (1 : Int32) (some a0))) nox
set_option maxRecDepth 100000 in
set_option maxHeartbeats 4000000 in
theorem m_X9_placeIn {G : GG} {l : Launch} {a0 : Nat} {p1 : Int32} {p2 : Int32} {hs hs' : Hs} {o : Except Nat Int32} (h : f_X9_placeIn a0 p1 p2 hs = some (o, hs')) : CT G l yX9_placeIn cX9_placeIn 3 (some .int) 2 43 0 0 [.ref a0, .int p1, .int p2] hs o hs' tvI := by
  refine vx_ofW (cc := cX9_placeIn) (maxL := 3) (ret := (some .int)) (by decide +kernel) rfl ?_
  intro p e s m args below meth c s₁ B hml hxt hv
  obtain ⟨hav, hR, hKn⟩ := hv
  subst hav
  have hts := atoms_spec (ws := .code yX9_placeIn cX9_placeIn 3 (some .int) :: Tg) B.pre
  have C : Cx G l p s m _ c RX9 cX9_placeIn 3 := ⟨B.exec, B.bytes, hml, findClass_of_methodNamed B.named, fun w hw => hts w (List.mem_cons_of_mem _ hw), hKn, fun q hq => Nat.le_trans hR.2.2.1 hq⟩
  have C2 : Cy meth c (some .int) := ⟨B.returns, B.notSynchronized, hxt⟩
  have key : WG G p l e { frames := 2, cells := 0, slots := 0, locals := 43 } s m ([.ref a0, .int p1, .int p2] : List Value).toArray below meth c 3 0 0 (vx_MQ below (QcT G o hs' tvI) (XCT G o hs') ([.ref a0, .int p1, .int p2] : List Value).toArray s 0 0 (gA G)) hs [(0, va_rf (some a0)), (1, .int p1), (2, .int p2)] [] 0 := by
    unfold f_X9_placeIn at h
    refine q_aload_n C 0 dX9_placeIn_0 rfl ?_
    refine q_aload_n C 0 dX9_placeIn_1 rfl ?_
    refine q_iload_n C 1 dX9_placeIn_2 rfl ?_
    refine q_callV C (CN := RX9) (T := TX9) (N := 28) [.int p1] [va_rf (some a0)] (fun a0 o2 hs1 hm => m_X9_isVersion hm) lk_X9_251 im_X9_isVersion se_X9_X9_isVersion rfl ⟨(Nat.le_of_ble_eq_true rfl), (Nat.le_of_ble_eq_true rfl)⟩ ⟨(Nat.le_of_ble_eq_true rfl), (Nat.le_of_ble_eq_true rfl)⟩ rfl rfl (by simp only [List.map, cat_rf, cat_i, cat_a]; decide) dX9_placeIn_3 h (fun v1 hs h => WG_st (st' := [.int v1, va_rf (some a0)]) rfl ?_)
    refine q_if_ne C 13 dX9_placeIn_6 (by decide) h (fun h => ?_) (fun h => ?_)
    · refine q_aload_n C 0 dX9_placeIn_13 rfl ?_
      refine q_iload_n C 2 dX9_placeIn_14 rfl ?_
      refine q_callV C (CN := RX9) (T := TX9) (N := 28) [.int p2] [va_rf (some a0)] (fun a0 o2 hs1 hm => m_X9_isLesson hm) lk_X9_148 im_X9_isLesson se_X9_X9_isLesson rfl ⟨(Nat.le_of_ble_eq_true rfl), (Nat.le_of_ble_eq_true rfl)⟩ ⟨(Nat.le_of_ble_eq_true rfl), (Nat.le_of_ble_eq_true rfl)⟩ rfl rfl (by simp only [List.map, cat_rf, cat_i, cat_a]; decide) dX9_placeIn_15 h (fun v2 hs h => WG_st (st' := [.int v2, va_rf (some a0)]) rfl ?_)
      refine q_if_ne C 25 dX9_placeIn_18 (by decide) h (fun h => ?_) (fun h => ?_)
      · refine q_aload_n C 0 dX9_placeIn_25 rfl ?_
        refine q_gR C fl_X9_59 dX9_placeIn_26 h (fun v3 h => ?_)
        refine q_bipush C (16 : Int32) dX9_placeIn_29 (by decide) ?_
        refine q_iload_n C 1 dX9_placeIn_31 rfl ?_
        refine q_imul C dX9_placeIn_32 ?_
        refine q_iload_n C 2 dX9_placeIn_33 rfl ?_
        refine q_iadd C dX9_placeIn_34 ?_
        refine q_iald C dX9_placeIn_35 h (fun v4 h => ?_)
        refine q_if_ge C 43 dX9_placeIn_36 (by decide) h (fun h => ?_) (fun h => ?_)
        · refine q_iconst C (0 : Int32) dX9_placeIn_43 (by decide) ?_
          exact w_j_X9_placeIn_44 C C2 _ _ _ _ _   h
        · refine q_iconst C (1 : Int32) dX9_placeIn_39 (by decide) ?_
          refine q_goto C 44 dX9_placeIn_40 (by decide) ?_
          exact w_j_X9_placeIn_44 C C2 _ _ _ _ _   h
      · refine q_iconst C (2 : Int32) dX9_placeIn_21 (by decide) ?_
        refine q_goto C 44 dX9_placeIn_22 (by decide) ?_
        exact w_j_X9_placeIn_44 C C2 _ _ _ _ _   h
    · refine q_iconst C (1 : Int32) dX9_placeIn_9 (by decide) ?_
      refine q_goto C 44 dX9_placeIn_10 (by decide) ?_
      exact w_j_X9_placeIn_44 C C2 _ _ _ _ _   h
  rw [lg_entry_eq]
  exact key _ _ _ hR va_S.rf ⟨lv_entry _ (n := 3) (Nat.le_of_ble_eq_true rfl), (c1_r (c1_i (c1_i c1_n)))⟩

