theorem cd_X9_moves : Cond.code yX9_moves cX9_moves 7 (some .boolean) ∈ Tg := Tg_of (i := 1833) (by decide +kernel) (by decide +kernel)
theorem ml_X9_231 : Cond.methodLink RX9 231 yX9_wasMoved ∈ Tg := Tg_of (i := 1834) (by decide +kernel) (by decide +kernel)
theorem lk_X9_231 : Lk RX9 231 yX9_wasMoved cX9_wasMoved 2 (some .boolean) 1 := ⟨ml_X9_231, cd_X9_wasMoved, iw_X9, by decide +kernel⟩
theorem im_X9_wasMoved : Cond.instanceMethod yX9_wasMoved ∈ Tg := Tg_of (i := 1836) (by decide +kernel) (by decide +kernel)
theorem se_X9_X9_wasMoved : Cond.selects RX9 yX9_wasMoved yX9_wasMoved ∈ Tg := Tg_of (i := 73) (by decide +kernel) (by decide +kernel)
section M_X9_moves
variable {p : Program} {l : Launch} {e : Env} {s : State} {m : MethodId} {args : Array Value} {below : List Frame} {meth : Method} {c : Code} {G : GG} {o : Except Nat Int32} {hs' : Hs}
def j_X9_moves_133 (a0 : Option Nat) (a1 : Int32) (a2 : Int32) (a3 : Int32) (a4 : Int32)  (rec_9 : Int32 → Int32 → Int32 → Int32 → OO Int32) : OO Int32 :=
  lets (a4 + (1 : Int32)) fun (v7 : Int32) =>
    rec_9 a1 a2 a3 v7
set_option maxRecDepth 100000 in
set_option maxHeartbeats 4000000 in
theorem w_j_X9_moves_133 (C : Cx G l p s m args c RX9 cX9_moves 7) (C2 : Cy meth c (some .boolean)) {hs : Hs} (a0 : Option Nat) (a1 : Int32) (a2 : Int32) (a3 : Int32) (a4 : Int32)  (rec_9 : Int32 → Int32 → Int32 → Int32 → OO Int32) (hrec_9 : ∀ (y1 : Int32) (y2 : Int32) (y3 : Int32) (y4 : Int32) hs, rec_9 y1 y2 y3 y4 hs = some (o, hs') → WG G p l e { frames := 8, cells := 0, slots := 0, locals := 182 } s m args below meth c 7 0 0 (vx_MQ below (QcT G o hs' tvI) (XCT G o hs') args s 0 0 (gA G)) hs [(0, va_rf a0), (1, .int y1), (2, .int y2), (3, .int y3), (4, .int y4)] [] 9) (h : j_X9_moves_133 a0 a1 a2 a3 a4 rec_9 hs = some (o, hs')) : WG G p l e { frames := 8, cells := 0, slots := 0, locals := 182 } s m args below meth c 7 0 0 (vx_MQ below (QcT G o hs' tvI) (XCT G o hs') args s 0 0 (gA G)) hs [(0, va_rf a0), (1, .int a1), (2, .int a2), (3, .int a3), (4, .int a4)] [] 133 := by
  unfold j_X9_moves_133 at h
  refine q_iinc C 4 (1 : Int32) (fun v7 => [(4, .int v7), (0, va_rf a0), (1, .int a1), (2, .int a2), (3, .int a3)]) dX9_moves_133 rfl (by decide) (by decide) (fun _ => rfl) h (fun v7 h => ?_)
  refine q_goto C 9 dX9_moves_136 (by decide) ?_
  refine WG.sub [1, 2, 3, 4, 0] rfl ?_
  exact hrec_9 _ _ _ _ _ h
def j_X9_moves_127 (a0 : Option Nat) (a1 : Int32) (a2 : Int32) (a3 : Int32) (a4 : Int32) (a5 : Int32)  (rec_61 : Int32 → Int32 → Int32 → Int32 → OO Int32) : OO Int32 :=
  lets (a5 + (1 : Int32)) fun (v15 : Int32) =>
    rec_61 a1 a2 a3 v15
set_option maxRecDepth 100000 in
set_option maxHeartbeats 4000000 in
theorem w_j_X9_moves_127 (C : Cx G l p s m args c RX9 cX9_moves 7) (C2 : Cy meth c (some .boolean)) {hs : Hs} (a0 : Option Nat) (a1 : Int32) (a2 : Int32) (a3 : Int32) (a4 : Int32) (a5 : Int32)  (rec_61 : Int32 → Int32 → Int32 → Int32 → OO Int32) (hrec_61 : ∀ (y1 : Int32) (y2 : Int32) (y3 : Int32) (y5 : Int32) hs, rec_61 y1 y2 y3 y5 hs = some (o, hs') → WG G p l e { frames := 8, cells := 0, slots := 0, locals := 182 } s m args below meth c 7 0 0 (vx_MQ below (QcT G o hs' tvI) (XCT G o hs') args s 0 0 (gA G)) hs [(0, va_rf a0), (1, .int y1), (2, .int y2), (3, .int y3), (4, .int a4), (5, .int y5)] [] 61) (h : j_X9_moves_127 a0 a1 a2 a3 a4 a5 rec_61 hs = some (o, hs')) : WG G p l e { frames := 8, cells := 0, slots := 0, locals := 182 } s m args below meth c 7 0 0 (vx_MQ below (QcT G o hs' tvI) (XCT G o hs') args s 0 0 (gA G)) hs [(0, va_rf a0), (1, .int a1), (2, .int a2), (3, .int a3), (4, .int a4), (5, .int a5)] [] 127 := by
  unfold j_X9_moves_127 at h
  refine q_iinc C 5 (1 : Int32) (fun v15 => [(5, .int v15), (0, va_rf a0), (1, .int a1), (2, .int a2), (3, .int a3), (4, .int a4)]) dX9_moves_127 rfl (by decide) (by decide) (fun _ => rfl) h (fun v15 h => ?_)
  refine q_goto C 61 dX9_moves_130 (by decide) ?_
  refine WG.sub [1, 2, 3, 4, 5, 0] rfl ?_
  exact hrec_61 _ _ _ _ _ h
def j_X9_moves_118 (a0 : Option Nat) (a4 : Int32) (a5 : Int32) (a6 : Int32)  (rec_61 : Int32 → Int32 → Int32 → Int32 → OO Int32) : OO Int32 :=
  lets a4 fun (v19 : Int32) =>
    lets a5 fun (v20 : Int32) =>
    lets a6 fun (v21 : Int32) =>
    j_X9_moves_127 a0 v19 v20 v21 a4 a5 rec_61
set_option maxRecDepth 100000 in
set_option maxHeartbeats 4000000 in
theorem w_j_X9_moves_118 (C : Cx G l p s m args c RX9 cX9_moves 7) (C2 : Cy meth c (some .boolean)) {hs : Hs} (a0 : Option Nat) (a4 : Int32) (a5 : Int32) (a6 : Int32)  (rec_61 : Int32 → Int32 → Int32 → Int32 → OO Int32) (hrec_61 : ∀ (y1 : Int32) (y2 : Int32) (y3 : Int32) (y5 : Int32) hs, rec_61 y1 y2 y3 y5 hs = some (o, hs') → WG G p l e { frames := 8, cells := 0, slots := 0, locals := 182 } s m args below meth c 7 0 0 (vx_MQ below (QcT G o hs' tvI) (XCT G o hs') args s 0 0 (gA G)) hs [(0, va_rf a0), (1, .int y1), (2, .int y2), (3, .int y3), (4, .int a4), (5, .int y5)] [] 61) (h : j_X9_moves_118 a0 a4 a5 a6 rec_61 hs = some (o, hs')) : WG G p l e { frames := 8, cells := 0, slots := 0, locals := 182 } s m args below meth c 7 0 0 (vx_MQ below (QcT G o hs' tvI) (XCT G o hs') args s 0 0 (gA G)) hs [(0, va_rf a0), (4, .int a4), (5, .int a5), (6, .int a6)] [] 118 := by
  unfold j_X9_moves_118 at h
  refine q_iload C 1 dX9_moves_118 rfl ?_
  refine q_istore_n C (fun v19 => [(1, .int v19), (0, va_rf a0), (4, .int a4), (5, .int a5), (6, .int a6)]) dX9_moves_120 (by decide) (fun _ => rfl) h (fun v19 h => ?_)
  refine q_iload C 3 dX9_moves_121 rfl ?_
  refine q_istore_n C (fun v20 => [(2, .int v20), (1, .int v19), (0, va_rf a0), (4, .int a4), (5, .int a5), (6, .int a6)]) dX9_moves_123 (by decide) (fun _ => rfl) h (fun v20 h => ?_)
  refine q_iload C 5 dX9_moves_124 rfl ?_
  refine q_istore_n C (fun v21 => [(3, .int v21), (2, .int v20), (1, .int v19), (0, va_rf a0), (4, .int a4), (5, .int a5), (6, .int a6)]) dX9_moves_126 (by decide) (fun _ => rfl) h (fun v21 h => ?_)
  refine WG.sub [3, 2, 1, 0, 4, 5] rfl ?_
  exact w_j_X9_moves_127 C C2 _ _ _ _ _ _ _ hrec_61 h
def L_X9_moves_61 (a0 : Option Nat) (a4 : Int32) (k_61_133 : Int32 → Int32 → Int32 → OO Int32) : Nat → Int32 → Int32 → Int32 → Int32 → OO Int32
  | 0, _, _, _, _ => failO
  | n + 1, x1, x2, x3, x5 =>
    (if (240 : Int32) ≤ x5 then
    k_61_133 x1 x2 x3
    else
    gR a0 12 14 fun v13 =>
    ldI 0 v13 a4 fun v14 =>
    (if x5 = v14 then
    j_X9_moves_127 a0 x1 x2 x3 a4 x5 (L_X9_moves_61 a0 a4 k_61_133 n)
    else
    rcv a0 12 fun r23 => call (f_X9_isPossible r23 a4 x5) (fun (v16 : Int32) =>
    (if ¬ v16 = 0 then
    rcv a0 12 fun r22 => call (f_X9_costAt r22 a4 x5) (fun (v17 : Int32) =>
    lets v17 fun (v18 : Int32) =>
    (if x1 < 0 then
    j_X9_moves_118 a0 a4 x5 v18 (L_X9_moves_61 a0 a4 k_61_133 n)
    else
    (if v18 < x3 then
    j_X9_moves_118 a0 a4 x5 v18 (L_X9_moves_61 a0 a4 k_61_133 n)
    else
    j_X9_moves_127 a0 x1 x2 x3 a4 x5 (L_X9_moves_61 a0 a4 k_61_133 n)))) nox
    else
    j_X9_moves_127 a0 x1 x2 x3 a4 x5 (L_X9_moves_61 a0 a4 k_61_133 n))) nox))
set_option maxRecDepth 100000 in
set_option maxHeartbeats 4000000 in
theorem w_L_X9_moves_61 (C : Cx G l p s m args c RX9 cX9_moves 7) (C2 : Cy meth c (some .boolean)) (a0 : Option Nat) (a4 : Int32) (k_61_133 : Int32 → Int32 → Int32 → OO Int32) (hk_61_133 : ∀ (y1 : Int32) (y2 : Int32) (y3 : Int32) hs, k_61_133 y1 y2 y3 hs = some (o, hs') → WG G p l e { frames := 8, cells := 0, slots := 0, locals := 182 } s m args below meth c 7 0 0 (vx_MQ below (QcT G o hs' tvI) (XCT G o hs') args s 0 0 (gA G)) hs [(0, va_rf a0), (1, .int y1), (2, .int y2), (3, .int y3), (4, .int a4)] [] 133) : ∀ (n : Nat) (x1 : Int32) (x2 : Int32) (x3 : Int32) (x5 : Int32) (hs : Hs), L_X9_moves_61 a0 a4 k_61_133 n x1 x2 x3 x5 hs = some (o, hs') → WG G p l e { frames := 8, cells := 0, slots := 0, locals := 182 } s m args below meth c 7 0 0 (vx_MQ below (QcT G o hs' tvI) (XCT G o hs') args s 0 0 (gA G)) hs [(0, va_rf a0), (1, .int x1), (2, .int x2), (3, .int x3), (4, .int a4), (5, .int x5)] [] 61 := by
  intro n
  induction n with
  | zero =>
    intro x1 x2 x3 x5 hs h
    rw [L_X9_moves_61] at h
    exact absurd h failO_e
  | succ n hrec_61 =>
    intro x1 x2 x3 x5 hs h
    rw [L_X9_moves_61] at h
    refine q_iload C 5 dX9_moves_61 rfl ?_
    refine q_sipush C (240 : Int32) dX9_moves_63 (by decide) ?_
    refine q_icmp_ge C 133 dX9_moves_66 (by decide) h (fun h => ?_) (fun h => ?_)
    · refine WG.sub [0, 1, 2, 3, 4] rfl ?_
      exact hk_61_133 _ _ _ _ h
    · refine q_iload C 5 dX9_moves_69 rfl ?_
      refine q_aload_n C 0 dX9_moves_71 rfl ?_
      refine q_gR C fl_X9_53 dX9_moves_72 h (fun v13 h => ?_)
      refine q_iload C 4 dX9_moves_75 rfl ?_
      refine q_iald C dX9_moves_77 h (fun v14 h => ?_)
      refine q_icmp_eq C 127 dX9_moves_78 (by decide) h (fun h => ?_) (fun h => ?_)
      · exact w_j_X9_moves_127 C C2 _ _ _ _ _ _ _ hrec_61 h
      · refine q_aload_n C 0 dX9_moves_81 rfl ?_
        refine q_iload C 4 dX9_moves_82 rfl ?_
        refine q_iload C 5 dX9_moves_84 rfl ?_
        refine q_callV C (CN := RX9) (T := TX9) (N := 28) [.int a4, .int x5] [] (fun a0 o2 hs1 hm => m_X9_isPossible hm) lk_X9_193 im_X9_isPossible se_X9_X9_isPossible rfl ⟨(Nat.le_of_ble_eq_true rfl), (Nat.le_of_ble_eq_true rfl)⟩ ⟨(Nat.le_of_ble_eq_true rfl), (Nat.le_of_ble_eq_true rfl)⟩ rfl rfl (by decide) dX9_moves_86 h (fun v16 hs h => WG_st (st' := [.int v16]) rfl ?_)
        refine q_if_ne C 95 dX9_moves_89 (by decide) h (fun h => ?_) (fun h => ?_)
        · refine q_aload_n C 0 dX9_moves_95 rfl ?_
          refine q_iload C 4 dX9_moves_96 rfl ?_
          refine q_iload C 5 dX9_moves_98 rfl ?_
          refine q_callV C (CN := RX9) (T := TX9) (N := 28) [.int a4, .int x5] [] (fun a0 o2 hs1 hm => m_X9_costAt hm) lk_X9_196 im_X9_costAt se_X9_X9_costAt rfl ⟨(Nat.le_of_ble_eq_true rfl), (Nat.le_of_ble_eq_true rfl)⟩ ⟨(Nat.le_of_ble_eq_true rfl), (Nat.le_of_ble_eq_true rfl)⟩ rfl rfl (by decide) dX9_moves_100 h (fun v17 hs h => WG_st (st' := [.int v17]) rfl ?_)
          refine q_istore C (fun v18 => [(6, .int v18), (0, va_rf a0), (1, .int x1), (2, .int x2), (3, .int x3), (4, .int a4), (5, .int x5)]) dX9_moves_103 (by decide) (fun _ => rfl) h (fun v18 h => ?_)
          refine q_iload_n C 2 dX9_moves_105 rfl ?_
          refine q_if_lt C 118 dX9_moves_106 (by decide) h (fun h => ?_) (fun h => ?_)
          · refine WG.sub [1, 5, 6, 0] rfl ?_
            exact w_j_X9_moves_118 C C2 _ _ _ _ _ hrec_61 h
          · refine q_iload C 0 dX9_moves_109 rfl ?_
            refine q_iload_n C 4 dX9_moves_111 rfl ?_
            refine q_icmp_lt C 118 dX9_moves_112 (by decide) h (fun h => ?_) (fun h => ?_)
            · refine WG.sub [1, 5, 6, 0] rfl ?_
              exact w_j_X9_moves_118 C C2 _ _ _ _ _ hrec_61 h
            · refine q_goto C 127 dX9_moves_115 (by decide) ?_
              refine WG.sub [1, 2, 3, 4, 5, 6] rfl ?_
              exact w_j_X9_moves_127 C C2 _ _ _ _ _ _ _ hrec_61 h
        · refine q_goto C 127 dX9_moves_92 (by decide) ?_
          exact w_j_X9_moves_127 C C2 _ _ _ _ _ _ _ hrec_61 h
def L_X9_moves_9 (a0 : Option Nat) (k_9_139 : Int32 → Int32 → OO Int32) : Nat → Int32 → Int32 → Int32 → Int32 → OO Int32
  | 0, _, _, _, _ => failO
  | n + 1, x1, x2, x3, x4 =>
    gI a0 12 24 fun v5 =>
    (if v5 ≤ x4 then
    k_9_139 x1 x2
    else
    rcv a0 12 fun r29 => call (f_X9_isPlaced r29 x4) (fun (v6 : Int32) =>
    (if v6 = 0 then
    j_X9_moves_133 a0 x1 x2 x3 x4 (L_X9_moves_9 a0 k_9_139 n)
    else
    gR a0 12 8 fun v8 =>
    ldI 1 v8 x4 fun v9 =>
    (if ¬ v9 = 0 then
    j_X9_moves_133 a0 x1 x2 x3 x4 (L_X9_moves_9 a0 k_9_139 n)
    else
    rcv a0 12 fun r28 => call (f_X9_isPast r28 x4) (fun (v10 : Int32) =>
    (if ¬ v10 = 0 then
    j_X9_moves_133 a0 x1 x2 x3 x4 (L_X9_moves_9 a0 k_9_139 n)
    else
    rcv a0 12 fun r27 => call (f_X9_wasMoved r27 x4) (fun (v11 : Int32) =>
    (if v11 = 0 then
    lets (0 : Int32) fun (v12 : Int32) =>
    L_X9_moves_61 a0 x4 (fun (v24 : Int32) (v25 : Int32) (v26 : Int32) => j_X9_moves_133 a0 v24 v25 v26 x4 (L_X9_moves_9 a0 k_9_139 n)) 100000 x1 x2 x3 v12
    else
    j_X9_moves_133 a0 x1 x2 x3 x4 (L_X9_moves_9 a0 k_9_139 n))) nox)) nox))) nox)
set_option maxRecDepth 100000 in
set_option maxHeartbeats 4000000 in
theorem w_L_X9_moves_9 (C : Cx G l p s m args c RX9 cX9_moves 7) (C2 : Cy meth c (some .boolean)) (a0 : Option Nat) (k_9_139 : Int32 → Int32 → OO Int32) (hk_9_139 : ∀ (y1 : Int32) (y2 : Int32) hs, k_9_139 y1 y2 hs = some (o, hs') → WG G p l e { frames := 8, cells := 0, slots := 0, locals := 182 } s m args below meth c 7 0 0 (vx_MQ below (QcT G o hs' tvI) (XCT G o hs') args s 0 0 (gA G)) hs [(0, va_rf a0), (1, .int y1), (2, .int y2)] [] 139) : ∀ (n : Nat) (x1 : Int32) (x2 : Int32) (x3 : Int32) (x4 : Int32) (hs : Hs), L_X9_moves_9 a0 k_9_139 n x1 x2 x3 x4 hs = some (o, hs') → WG G p l e { frames := 8, cells := 0, slots := 0, locals := 182 } s m args below meth c 7 0 0 (vx_MQ below (QcT G o hs' tvI) (XCT G o hs') args s 0 0 (gA G)) hs [(0, va_rf a0), (1, .int x1), (2, .int x2), (3, .int x3), (4, .int x4)] [] 9 := by
  intro n
  induction n with
  | zero =>
    intro x1 x2 x3 x4 hs h
    rw [L_X9_moves_9] at h
    exact absurd h failO_e
  | succ n hrec_9 =>
    intro x1 x2 x3 x4 hs h
    rw [L_X9_moves_9] at h
    refine q_iload C 4 dX9_moves_9 rfl ?_
    refine q_aload_n C 0 dX9_moves_11 rfl ?_
    refine q_gI C fl_X9_84 dX9_moves_12 h (fun v5 h => ?_)
    refine q_icmp_ge C 139 dX9_moves_15 (by decide) h (fun h => ?_) (fun h => ?_)
    · refine WG.sub [0, 1, 2] rfl ?_
      exact hk_9_139 _ _ _ h
    · refine q_aload_n C 0 dX9_moves_18 rfl ?_
      refine q_iload C 4 dX9_moves_19 rfl ?_
      refine q_callV C (CN := RX9) (T := TX9) (N := 28) [.int x4] [] (fun a0 o2 hs1 hm => m_X9_isPlaced hm) lk_X9_118 im_X9_isPlaced se_X9_X9_isPlaced rfl ⟨(Nat.le_of_ble_eq_true rfl), (Nat.le_of_ble_eq_true rfl)⟩ ⟨(Nat.le_of_ble_eq_true rfl), (Nat.le_of_ble_eq_true rfl)⟩ rfl rfl (by decide) dX9_moves_21 h (fun v6 hs h => WG_st (st' := [.int v6]) rfl ?_)
      refine q_if_eq C 133 dX9_moves_24 (by decide) h (fun h => ?_) (fun h => ?_)
      · exact w_j_X9_moves_133 C C2 _ _ _ _ _ _ hrec_9 h
      · refine q_aload_n C 0 dX9_moves_27 rfl ?_
        refine q_gR C fl_X9_35 dX9_moves_28 h (fun v8 h => ?_)
        refine q_iload C 4 dX9_moves_31 rfl ?_
        refine q_zald C dX9_moves_33 h (fun v9 h => ?_)
        refine q_if_ne C 133 dX9_moves_34 (by decide) h (fun h => ?_) (fun h => ?_)
        · exact w_j_X9_moves_133 C C2 _ _ _ _ _ _ hrec_9 h
        · refine q_aload_n C 0 dX9_moves_37 rfl ?_
          refine q_iload C 4 dX9_moves_38 rfl ?_
          refine q_callV C (CN := RX9) (T := TX9) (N := 28) [.int x4] [] (fun a0 o2 hs1 hm => m_X9_isPast hm) lk_X9_202 im_X9_isPast se_X9_X9_isPast rfl ⟨(Nat.le_of_ble_eq_true rfl), (Nat.le_of_ble_eq_true rfl)⟩ ⟨(Nat.le_of_ble_eq_true rfl), (Nat.le_of_ble_eq_true rfl)⟩ rfl rfl (by decide) dX9_moves_40 h (fun v10 hs h => WG_st (st' := [.int v10]) rfl ?_)
          refine q_if_ne C 133 dX9_moves_43 (by decide) h (fun h => ?_) (fun h => ?_)
          · exact w_j_X9_moves_133 C C2 _ _ _ _ _ _ hrec_9 h
          · refine q_aload_n C 0 dX9_moves_46 rfl ?_
            refine q_iload C 4 dX9_moves_47 rfl ?_
            refine q_callV C (CN := RX9) (T := TX9) (N := 28) [.int x4] [] (fun a0 o2 hs1 hm => m_X9_wasMoved hm) lk_X9_231 im_X9_wasMoved se_X9_X9_wasMoved rfl ⟨(Nat.le_of_ble_eq_true rfl), (Nat.le_of_ble_eq_true rfl)⟩ ⟨(Nat.le_of_ble_eq_true rfl), (Nat.le_of_ble_eq_true rfl)⟩ rfl rfl (by decide) dX9_moves_49 h (fun v11 hs h => WG_st (st' := [.int v11]) rfl ?_)
            refine q_if_eq C 58 dX9_moves_52 (by decide) h (fun h => ?_) (fun h => ?_)
            · refine q_iconst C (0 : Int32) dX9_moves_58 (by decide) ?_
              refine q_istore C (fun v12 => [(5, .int v12), (0, va_rf a0), (1, .int x1), (2, .int x2), (3, .int x3), (4, .int x4)]) dX9_moves_59 (by decide) (fun _ => rfl) h (fun v12 h => ?_)
              refine WG.sub [1, 2, 3, 4, 5, 0] rfl ?_
              refine w_L_X9_moves_61 C C2 _ _ _ ?_ _ _ _ _ _ _ h
              · intro v24 v25 v26 hs h
                exact w_j_X9_moves_133 C C2 _ _ _ _ _ _ hrec_9 h
            · refine q_goto C 133 dX9_moves_55 (by decide) ?_
              exact w_j_X9_moves_133 C C2 _ _ _ _ _ _ hrec_9 h
end M_X9_moves
def f_X9_moves (a0 : Nat) : OO Int32 :=
    lets (-1 : Int32) fun (v1 : Int32) =>
    lets (0 : Int32) fun (v2 : Int32) =>
    lets (0 : Int32) fun (v3 : Int32) =>
    lets (0 : Int32) fun (v4 : Int32) =>
    L_X9_moves_9 (some a0) (fun (v30 : Int32) (v31 : Int32) => (if 0 ≤ v30 then
    gR (some a0) 12 14 fun v32 =>
    stI v32 v30 v31 (
    gR (some a0) 12 18 fun v33 =>
    gR (some a0) 12 18 fun v34 =>
    ldI 0 v34 (1 : Int32) fun v35 =>
    stI v33 (2 : Int32) v35 (
    gR (some a0) 12 18 fun v36 =>
    gR (some a0) 12 18 fun v37 =>
    ldI 0 v37 (0 : Int32) fun v38 =>
    stI v36 (1 : Int32) v38 (
    gR (some a0) 12 18 fun v39 =>
    stI v39 (0 : Int32) v30 (
    retZ (1 : Int32)))))
    else
    retZ (0 : Int32))) 100000 v1 v2 v3 v4
set_option maxRecDepth 100000 in
set_option maxHeartbeats 4000000 in
theorem m_X9_moves {G : GG} {l : Launch} {a0 : Nat} {hs hs' : Hs} {o : Except Nat Int32} (h : f_X9_moves a0 hs = some (o, hs')) : CT G l yX9_moves cX9_moves 7 (some .boolean) 8 182 0 0 [.ref a0] hs o hs' tvI := by
  refine vx_ofW (cc := cX9_moves) (maxL := 7) (ret := (some .boolean)) (by decide +kernel) rfl ?_
  intro p e s m args below meth c s₁ B hml hxt hv
  obtain ⟨hav, hR, hKn⟩ := hv
  subst hav
  have hts := atoms_spec (ws := .code yX9_moves cX9_moves 7 (some .boolean) :: Tg) B.pre
  have C : Cx G l p s m _ c RX9 cX9_moves 7 := ⟨B.exec, B.bytes, hml, findClass_of_methodNamed B.named, fun w hw => hts w (List.mem_cons_of_mem _ hw), hKn, fun q hq => Nat.le_trans hR.2.2.1 hq⟩
  have C2 : Cy meth c (some .boolean) := ⟨B.returns, B.notSynchronized, hxt⟩
  have key : WG G p l e { frames := 8, cells := 0, slots := 0, locals := 182 } s m ([.ref a0] : List Value).toArray below meth c 7 0 0 (vx_MQ below (QcT G o hs' tvI) (XCT G o hs') ([.ref a0] : List Value).toArray s 0 0 (gA G)) hs [(0, va_rf (some a0))] [] 0 := by
    unfold f_X9_moves at h
    refine q_iconst C (-1 : Int32) dX9_moves_0 (by decide) ?_
    refine q_istore_n C (fun v1 => [(1, .int v1), (0, va_rf (some a0))]) dX9_moves_1 (by decide) (fun _ => rfl) h (fun v1 h => ?_)
    refine q_iconst C (0 : Int32) dX9_moves_2 (by decide) ?_
    refine q_istore_n C (fun v2 => [(2, .int v2), (1, .int v1), (0, va_rf (some a0))]) dX9_moves_3 (by decide) (fun _ => rfl) h (fun v2 h => ?_)
    refine q_iconst C (0 : Int32) dX9_moves_4 (by decide) ?_
    refine q_istore_n C (fun v3 => [(3, .int v3), (2, .int v2), (1, .int v1), (0, va_rf (some a0))]) dX9_moves_5 (by decide) (fun _ => rfl) h (fun v3 h => ?_)
    refine q_iconst C (0 : Int32) dX9_moves_6 (by decide) ?_
    refine q_istore C (fun v4 => [(4, .int v4), (3, .int v3), (2, .int v2), (1, .int v1), (0, va_rf (some a0))]) dX9_moves_7 (by decide) (fun _ => rfl) h (fun v4 h => ?_)
    refine WG.sub [4, 3, 2, 1, 0] rfl ?_
    refine w_L_X9_moves_9 C C2 _ _ ?_ _ _ _ _ _ _ h
    · intro v30 v31 hs h
      refine q_iload_n C 1 dX9_moves_139 rfl ?_
      refine q_if_ge C 145 dX9_moves_140 (by decide) h (fun h => ?_) (fun h => ?_)
      · refine q_aload_n C 0 dX9_moves_145 rfl ?_
        refine q_gR C fl_X9_53 dX9_moves_146 h (fun v32 h => ?_)
        refine q_iload_n C 1 dX9_moves_149 rfl ?_
        refine q_iload_n C 2 dX9_moves_150 rfl ?_
        refine q_iast C dX9_moves_151 h (fun hs h => ?_)
        refine q_aload_n C 0 dX9_moves_152 rfl ?_
        refine q_gR C fl_X9_65 dX9_moves_153 h (fun v33 h => ?_)
        refine q_iconst C (2 : Int32) dX9_moves_156 (by decide) ?_
        refine q_aload_n C 0 dX9_moves_157 rfl ?_
        refine q_gR C fl_X9_65 dX9_moves_158 h (fun v34 h => ?_)
        refine q_iconst C (1 : Int32) dX9_moves_161 (by decide) ?_
        refine q_iald C dX9_moves_162 h (fun v35 h => ?_)
        refine q_iast C dX9_moves_163 h (fun hs h => ?_)
        refine q_aload_n C 0 dX9_moves_164 rfl ?_
        refine q_gR C fl_X9_65 dX9_moves_165 h (fun v36 h => ?_)
        refine q_iconst C (1 : Int32) dX9_moves_168 (by decide) ?_
        refine q_aload_n C 0 dX9_moves_169 rfl ?_
        refine q_gR C fl_X9_65 dX9_moves_170 h (fun v37 h => ?_)
        refine q_iconst C (0 : Int32) dX9_moves_173 (by decide) ?_
        refine q_iald C dX9_moves_174 h (fun v38 h => ?_)
        refine q_iast C dX9_moves_175 h (fun hs h => ?_)
        refine q_aload_n C 0 dX9_moves_176 rfl ?_
        refine q_gR C fl_X9_65 dX9_moves_177 h (fun v39 h => ?_)
        refine q_iconst C (0 : Int32) dX9_moves_180 (by decide) ?_
        refine q_iload_n C 1 dX9_moves_181 rfl ?_
        refine q_iast C dX9_moves_182 h (fun hs h => ?_)
        refine q_iconst C (1 : Int32) dX9_moves_183 (by decide) ?_
        exact q_zret C C2 rfl (Nat.le_of_ble_eq_true rfl) (Nat.le_of_ble_eq_true rfl) dX9_moves_184 h
      · refine q_iconst C (0 : Int32) dX9_moves_143 (by decide) ?_
        exact q_zret C C2 rfl (Nat.le_of_ble_eq_true rfl) (Nat.le_of_ble_eq_true rfl) dX9_moves_144 h
  rw [lg_entry_eq]
  exact key _ _ _ hR va_S.rf ⟨lv_entry _ (n := 7) (Nat.le_of_ble_eq_true rfl), (c1_r c1_n)⟩

theorem cd_X9_improve : Cond.code yX9_improve cX9_improve 6 (some .int) ∈ Tg := Tg_of (i := 1829) (by decide +kernel) (by decide +kernel)
theorem fl_X9_68 : Fld RX9 68 12 19 (.array .int) := ⟨RX9, TX9, 28, RX9, rfl, by decide, wf_X9_68, (Or.inl rfl), gu_X9, tyX9_ok _ (by decide), ⟨tyX9, tyX9_ok⟩, nmX9⟩
theorem ml_X9_234 : Cond.methodLink RX9 234 yX9_moves ∈ Tg := Tg_of (i := 1830) (by decide +kernel) (by decide +kernel)
theorem lk_X9_234 : Lk RX9 234 yX9_moves cX9_moves 7 (some .boolean) 0 := ⟨ml_X9_234, cd_X9_moves, iw_X9, by decide +kernel⟩
theorem im_X9_moves : Cond.instanceMethod yX9_moves ∈ Tg := Tg_of (i := 1832) (by decide +kernel) (by decide +kernel)
theorem se_X9_X9_moves : Cond.selects RX9 yX9_moves yX9_moves ∈ Tg := Tg_of (i := 72) (by decide +kernel) (by decide +kernel)
section M_X9_improve
variable {p : Program} {l : Launch} {e : Env} {s : State} {m : MethodId} {args : Array Value} {below : List Frame} {meth : Method} {c : Code} {G : GG} {o : Except Nat Int32} {hs' : Hs}
def L_X9_improve_18 (a0 : Option Nat) (a1 : Int32) (k_18_36 : OO Int32) : Nat → Int32 → OO Int32
  | 0, _ => failO
  | n + 1, x2 =>
    (if (3 : Int32) ≤ x2 then
    k_18_36
    else
    gR a0 12 18 fun v4 =>
    stI v4 x2 (-1 : Int32) (
    lets (x2 + (1 : Int32)) fun (v5 : Int32) =>
    (L_X9_improve_18 a0 a1 k_18_36 n) v5))
set_option maxRecDepth 100000 in
set_option maxHeartbeats 4000000 in
theorem w_L_X9_improve_18 (C : Cx G l p s m args c RX9 cX9_improve 6) (C2 : Cy meth c (some .int)) (a0 : Option Nat) (a1 : Int32) (k_18_36 : OO Int32) (hk_18_36 : ∀ hs, k_18_36  hs = some (o, hs') → WG G p l e { frames := 9, cells := 0, slots := 0, locals := 208 } s m args below meth c 6 0 0 (vx_MQ below (QcT G o hs' tvI) (XCT G o hs') args s 0 0 (gA G)) hs [(0, va_rf a0), (1, .int a1)] [] 36) : ∀ (n : Nat) (x2 : Int32) (hs : Hs), L_X9_improve_18 a0 a1 k_18_36 n x2 hs = some (o, hs') → WG G p l e { frames := 9, cells := 0, slots := 0, locals := 208 } s m args below meth c 6 0 0 (vx_MQ below (QcT G o hs' tvI) (XCT G o hs') args s 0 0 (gA G)) hs [(0, va_rf a0), (1, .int a1), (2, .int x2)] [] 18 := by
  intro n
  induction n with
  | zero =>
    intro x2 hs h
    rw [L_X9_improve_18] at h
    exact absurd h failO_e
  | succ n hrec_18 =>
    intro x2 hs h
    rw [L_X9_improve_18] at h
    refine q_iload_n C 2 dX9_improve_18 rfl ?_
    refine q_iconst C (3 : Int32) dX9_improve_19 (by decide) ?_
    refine q_icmp_ge C 36 dX9_improve_20 (by decide) h (fun h => ?_) (fun h => ?_)
    · refine WG.sub [0, 1] rfl ?_
      exact hk_18_36 _ h
    · refine q_aload_n C 0 dX9_improve_23 rfl ?_
      refine q_gR C fl_X9_65 dX9_improve_24 h (fun v4 h => ?_)
      refine q_iload_n C 2 dX9_improve_27 rfl ?_
      refine q_iconst C (-1 : Int32) dX9_improve_28 (by decide) ?_
      refine q_iast C dX9_improve_29 h (fun hs h => ?_)
      refine q_iinc C 2 (1 : Int32) (fun v5 => [(2, .int v5), (0, va_rf a0), (1, .int a1)]) dX9_improve_30 rfl (by decide) (by decide) (fun _ => rfl) h (fun v5 h => ?_)
      refine q_goto C 18 dX9_improve_33 (by decide) ?_
      refine WG.sub [1, 2, 0] rfl ?_
      exact hrec_18 _ _ h
def L_X9_improve_38 (a0 : Option Nat) (a1 : Int32) (k_38_62 : OO Int32) : Nat → Int32 → OO Int32
  | 0, _ => failO
  | n + 1, x2 =>
    (if (16 : Int32) ≤ x2 then
    k_38_62
    else
    gR a0 12 19 fun v7 =>
    gR a0 12 14 fun v8 =>
    ldI 0 v8 x2 fun v9 =>
    stI v7 x2 v9 (
    lets (x2 + (1 : Int32)) fun (v10 : Int32) =>
    (L_X9_improve_38 a0 a1 k_38_62 n) v10))
set_option maxRecDepth 100000 in
set_option maxHeartbeats 4000000 in
theorem w_L_X9_improve_38 (C : Cx G l p s m args c RX9 cX9_improve 6) (C2 : Cy meth c (some .int)) (a0 : Option Nat) (a1 : Int32) (k_38_62 : OO Int32) (hk_38_62 : ∀ hs, k_38_62  hs = some (o, hs') → WG G p l e { frames := 9, cells := 0, slots := 0, locals := 208 } s m args below meth c 6 0 0 (vx_MQ below (QcT G o hs' tvI) (XCT G o hs') args s 0 0 (gA G)) hs [(0, va_rf a0), (1, .int a1)] [] 62) : ∀ (n : Nat) (x2 : Int32) (hs : Hs), L_X9_improve_38 a0 a1 k_38_62 n x2 hs = some (o, hs') → WG G p l e { frames := 9, cells := 0, slots := 0, locals := 208 } s m args below meth c 6 0 0 (vx_MQ below (QcT G o hs' tvI) (XCT G o hs') args s 0 0 (gA G)) hs [(0, va_rf a0), (1, .int a1), (2, .int x2)] [] 38 := by
  intro n
  induction n with
  | zero =>
    intro x2 hs h
    rw [L_X9_improve_38] at h
    exact absurd h failO_e
  | succ n hrec_38 =>
    intro x2 hs h
    rw [L_X9_improve_38] at h
    refine q_iload_n C 2 dX9_improve_38 rfl ?_
    refine q_bipush C (16 : Int32) dX9_improve_39 (by decide) ?_
    refine q_icmp_ge C 62 dX9_improve_41 (by decide) h (fun h => ?_) (fun h => ?_)
    · refine WG.sub [0, 1] rfl ?_
      exact hk_38_62 _ h
    · refine q_aload_n C 0 dX9_improve_44 rfl ?_
      refine q_gR C fl_X9_68 dX9_improve_45 h (fun v7 h => ?_)
      refine q_iload_n C 2 dX9_improve_48 rfl ?_
      refine q_aload_n C 0 dX9_improve_49 rfl ?_
      refine q_gR C fl_X9_53 dX9_improve_50 h (fun v8 h => ?_)
      refine q_iload_n C 2 dX9_improve_53 rfl ?_
      refine q_iald C dX9_improve_54 h (fun v9 h => ?_)
      refine q_iast C dX9_improve_55 h (fun hs h => ?_)
      refine q_iinc C 2 (1 : Int32) (fun v10 => [(2, .int v10), (0, va_rf a0), (1, .int a1)]) dX9_improve_56 rfl (by decide) (by decide) (fun _ => rfl) h (fun v10 h => ?_)
      refine q_goto C 38 dX9_improve_59 (by decide) ?_
      refine WG.sub [1, 2, 0] rfl ?_
      exact hrec_38 _ _ h
def L_X9_improve_102 (a0 : Option Nat) (a1 : Int32) (a2 : Int32) (a3 : Int32) (k_102_129 : OO Int32) : Nat → Int32 → OO Int32
  | 0, _ => failO
  | n + 1, x5 =>
    (if (16 : Int32) ≤ x5 then
    k_102_129
    else
    gR a0 12 19 fun v19 =>
    gR a0 12 14 fun v20 =>
    ldI 0 v20 x5 fun v21 =>
    stI v19 x5 v21 (
    lets (x5 + (1 : Int32)) fun (v22 : Int32) =>
    (L_X9_improve_102 a0 a1 a2 a3 k_102_129 n) v22))
set_option maxRecDepth 100000 in
set_option maxHeartbeats 4000000 in
theorem w_L_X9_improve_102 (C : Cx G l p s m args c RX9 cX9_improve 6) (C2 : Cy meth c (some .int)) (a0 : Option Nat) (a1 : Int32) (a2 : Int32) (a3 : Int32) (k_102_129 : OO Int32) (hk_102_129 : ∀ hs, k_102_129  hs = some (o, hs') → WG G p l e { frames := 9, cells := 0, slots := 0, locals := 208 } s m args below meth c 6 0 0 (vx_MQ below (QcT G o hs' tvI) (XCT G o hs') args s 0 0 (gA G)) hs [(0, va_rf a0), (1, .int a1), (2, .int a2), (3, .int a3)] [] 129) : ∀ (n : Nat) (x5 : Int32) (hs : Hs), L_X9_improve_102 a0 a1 a2 a3 k_102_129 n x5 hs = some (o, hs') → WG G p l e { frames := 9, cells := 0, slots := 0, locals := 208 } s m args below meth c 6 0 0 (vx_MQ below (QcT G o hs' tvI) (XCT G o hs') args s 0 0 (gA G)) hs [(0, va_rf a0), (1, .int a1), (2, .int a2), (3, .int a3), (5, .int x5)] [] 102 := by
  intro n
  induction n with
  | zero =>
    intro x5 hs h
    rw [L_X9_improve_102] at h
    exact absurd h failO_e
  | succ n hrec_102 =>
    intro x5 hs h
    rw [L_X9_improve_102] at h
    refine q_iload C 4 dX9_improve_102 rfl ?_
    refine q_bipush C (16 : Int32) dX9_improve_104 (by decide) ?_
    refine q_icmp_ge C 129 dX9_improve_106 (by decide) h (fun h => ?_) (fun h => ?_)
    · refine WG.sub [0, 1, 2, 3] rfl ?_
      exact hk_102_129 _ h
    · refine q_aload_n C 0 dX9_improve_109 rfl ?_
      refine q_gR C fl_X9_68 dX9_improve_110 h (fun v19 h => ?_)
      refine q_iload C 4 dX9_improve_113 rfl ?_
      refine q_aload_n C 0 dX9_improve_115 rfl ?_
      refine q_gR C fl_X9_53 dX9_improve_116 h (fun v20 h => ?_)
      refine q_iload C 4 dX9_improve_119 rfl ?_
      refine q_iald C dX9_improve_121 h (fun v21 h => ?_)
      refine q_iast C dX9_improve_122 h (fun hs h => ?_)
      refine q_iinc C 4 (1 : Int32) (fun v22 => [(5, .int v22), (0, va_rf a0), (1, .int a1), (2, .int a2), (3, .int a3)]) dX9_improve_123 rfl (by decide) (by decide) (fun _ => rfl) h (fun v22 h => ?_)
      refine q_goto C 102 dX9_improve_126 (by decide) ?_
      refine WG.sub [1, 2, 3, 4, 0] rfl ?_
      exact hrec_102 _ _ h
def j_X9_improve_129 (a0 : Option Nat) (a1 : Int32) (a2 : Int32) (a3 : Int32)  (rec_69 : Int32 → Int32 → OO Int32) : OO Int32 :=
  lets (a3 + (1 : Int32)) fun (v23 : Int32) =>
    rec_69 a2 v23
set_option maxRecDepth 100000 in
set_option maxHeartbeats 4000000 in
theorem w_j_X9_improve_129 (C : Cx G l p s m args c RX9 cX9_improve 6) (C2 : Cy meth c (some .int)) {hs : Hs} (a0 : Option Nat) (a1 : Int32) (a2 : Int32) (a3 : Int32)  (rec_69 : Int32 → Int32 → OO Int32) (hrec_69 : ∀ (y2 : Int32) (y3 : Int32) hs, rec_69 y2 y3 hs = some (o, hs') → WG G p l e { frames := 9, cells := 0, slots := 0, locals := 208 } s m args below meth c 6 0 0 (vx_MQ below (QcT G o hs' tvI) (XCT G o hs') args s 0 0 (gA G)) hs [(0, va_rf a0), (1, .int a1), (2, .int y2), (3, .int y3)] [] 69) (h : j_X9_improve_129 a0 a1 a2 a3 rec_69 hs = some (o, hs')) : WG G p l e { frames := 9, cells := 0, slots := 0, locals := 208 } s m args below meth c 6 0 0 (vx_MQ below (QcT G o hs' tvI) (XCT G o hs') args s 0 0 (gA G)) hs [(0, va_rf a0), (1, .int a1), (2, .int a2), (3, .int a3)] [] 129 := by
  unfold j_X9_improve_129 at h
  refine q_iinc C 3 (1 : Int32) (fun v23 => [(3, .int v23), (0, va_rf a0), (1, .int a1), (2, .int a2)]) dX9_improve_129 rfl (by decide) (by decide) (fun _ => rfl) h (fun v23 h => ?_)
  refine q_goto C 69 dX9_improve_132 (by decide) ?_
  refine WG.sub [1, 2, 3, 0] rfl ?_
  exact hrec_69 _ _ _ h
def L_X9_improve_69 (a0 : Option Nat) (a1 : Int32) (k_69_135 : Int32 → OO Int32) : Nat → Int32 → Int32 → OO Int32
  | 0, _, _ => failO
  | n + 1, x2, x3 =>
    (if a1 ≤ x3 then
    k_69_135 x2
    else
    rcv a0 12 fun r25 => call (f_X9_moves r25 ) (fun (v14 : Int32) =>
    (if v14 = 0 then
    k_69_135 x2
    else
    rcv a0 12 fun r24 => call (f_X9_costNow r24 ) (fun (v15 : Int32) =>
    lets v15 fun (v16 : Int32) =>
    (if v16 < x2 then
    lets v16 fun (v17 : Int32) =>
    lets (0 : Int32) fun (v18 : Int32) =>
    L_X9_improve_102 a0 a1 v17 x3 (j_X9_improve_129 a0 a1 v17 x3 (L_X9_improve_69 a0 a1 k_69_135 n)) 100000 v18
    else
    j_X9_improve_129 a0 a1 x2 x3 (L_X9_improve_69 a0 a1 k_69_135 n))) nox)) nox)
set_option maxRecDepth 100000 in
set_option maxHeartbeats 4000000 in
theorem w_L_X9_improve_69 (C : Cx G l p s m args c RX9 cX9_improve 6) (C2 : Cy meth c (some .int)) (a0 : Option Nat) (a1 : Int32) (k_69_135 : Int32 → OO Int32) (hk_69_135 : ∀ (y2 : Int32) hs, k_69_135 y2 hs = some (o, hs') → WG G p l e { frames := 9, cells := 0, slots := 0, locals := 208 } s m args below meth c 6 0 0 (vx_MQ below (QcT G o hs' tvI) (XCT G o hs') args s 0 0 (gA G)) hs [(0, va_rf a0), (2, .int y2)] [] 135) : ∀ (n : Nat) (x2 : Int32) (x3 : Int32) (hs : Hs), L_X9_improve_69 a0 a1 k_69_135 n x2 x3 hs = some (o, hs') → WG G p l e { frames := 9, cells := 0, slots := 0, locals := 208 } s m args below meth c 6 0 0 (vx_MQ below (QcT G o hs' tvI) (XCT G o hs') args s 0 0 (gA G)) hs [(0, va_rf a0), (1, .int a1), (2, .int x2), (3, .int x3)] [] 69 := by
  intro n
  induction n with
  | zero =>
    intro x2 x3 hs h
    rw [L_X9_improve_69] at h
    exact absurd h failO_e
  | succ n hrec_69 =>
    intro x2 x3 hs h
    rw [L_X9_improve_69] at h
    refine q_iload_n C 3 dX9_improve_69 rfl ?_
    refine q_iload_n C 1 dX9_improve_70 rfl ?_
    refine q_icmp_ge C 135 dX9_improve_71 (by decide) h (fun h => ?_) (fun h => ?_)
    · refine WG.sub [0, 2] rfl ?_
      exact hk_69_135 _ _ h
    · refine q_aload_n C 0 dX9_improve_74 rfl ?_
      refine q_callV C (CN := RX9) (T := TX9) (N := 28) [] [] (fun a0 o2 hs1 hm => m_X9_moves hm) lk_X9_234 im_X9_moves se_X9_X9_moves rfl ⟨(Nat.le_of_ble_eq_true rfl), (Nat.le_of_ble_eq_true rfl)⟩ ⟨(Nat.le_of_ble_eq_true rfl), (Nat.le_of_ble_eq_true rfl)⟩ rfl rfl (by decide) dX9_improve_75 h (fun v14 hs h => WG_st (st' := [.int v14]) rfl ?_)
      refine q_if_eq C 135 dX9_improve_78 (by decide) h (fun h => ?_) (fun h => ?_)
      · refine WG.sub [0, 2] rfl ?_
        exact hk_69_135 _ _ h
      · refine q_aload_n C 0 dX9_improve_81 rfl ?_
        refine q_callV C (CN := RX9) (T := TX9) (N := 28) [] [] (fun a0 o2 hs1 hm => m_X9_costNow hm) lk_X9_189 im_X9_costNow se_X9_X9_costNow rfl ⟨(Nat.le_of_ble_eq_true rfl), (Nat.le_of_ble_eq_true rfl)⟩ ⟨(Nat.le_of_ble_eq_true rfl), (Nat.le_of_ble_eq_true rfl)⟩ rfl rfl (by decide) dX9_improve_82 h (fun v15 hs h => WG_st (st' := [.int v15]) rfl ?_)
        refine q_istore C (fun v16 => [(4, .int v16), (0, va_rf a0), (1, .int a1), (2, .int x2), (3, .int x3)]) dX9_improve_85 (by decide) (fun _ => rfl) h (fun v16 h => ?_)
        refine q_iload C 0 dX9_improve_87 rfl ?_
        refine q_iload_n C 3 dX9_improve_89 rfl ?_
        refine q_icmp_lt C 96 dX9_improve_90 (by decide) h (fun h => ?_) (fun h => ?_)
        · refine q_iload C 0 dX9_improve_96 rfl ?_
          refine q_istore_n C (fun v17 => [(2, .int v17), (4, .int v16), (0, va_rf a0), (1, .int a1), (3, .int x3)]) dX9_improve_98 (by decide) (fun _ => rfl) h (fun v17 h => ?_)
          refine q_iconst C (0 : Int32) dX9_improve_99 (by decide) ?_
          refine q_istore C (fun v18 => [(5, .int v18), (2, .int v17), (4, .int v16), (0, va_rf a0), (1, .int a1), (3, .int x3)]) dX9_improve_100 (by decide) (fun _ => rfl) h (fun v18 h => ?_)
          refine WG.sub [3, 4, 1, 5, 0] rfl ?_
          refine w_L_X9_improve_102 C C2 _ _ _ _ _ ?_ _ _ _ h
          · intro  hs h
            exact w_j_X9_improve_129 C C2 _ _ _ _ _ hrec_69 h
        · refine q_goto C 129 dX9_improve_93 (by decide) ?_
          refine WG.sub [1, 2, 3, 4] rfl ?_
          exact w_j_X9_improve_129 C C2 _ _ _ _ _ hrec_69 h
def L_X9_improve_137 (a0 : Option Nat) (a2 : Int32) (k_137_161 : OO Int32) : Nat → Int32 → OO Int32
  | 0, _ => failO
  | n + 1, x3 =>
    (if (16 : Int32) ≤ x3 then
    k_137_161
    else
    gR a0 12 14 fun v28 =>
    gR a0 12 19 fun v29 =>
    ldI 0 v29 x3 fun v30 =>
    stI v28 x3 v30 (
    lets (x3 + (1 : Int32)) fun (v31 : Int32) =>
    (L_X9_improve_137 a0 a2 k_137_161 n) v31))
set_option maxRecDepth 100000 in
set_option maxHeartbeats 4000000 in
theorem w_L_X9_improve_137 (C : Cx G l p s m args c RX9 cX9_improve 6) (C2 : Cy meth c (some .int)) (a0 : Option Nat) (a2 : Int32) (k_137_161 : OO Int32) (hk_137_161 : ∀ hs, k_137_161  hs = some (o, hs') → WG G p l e { frames := 9, cells := 0, slots := 0, locals := 208 } s m args below meth c 6 0 0 (vx_MQ below (QcT G o hs' tvI) (XCT G o hs') args s 0 0 (gA G)) hs [(2, .int a2)] [] 161) : ∀ (n : Nat) (x3 : Int32) (hs : Hs), L_X9_improve_137 a0 a2 k_137_161 n x3 hs = some (o, hs') → WG G p l e { frames := 9, cells := 0, slots := 0, locals := 208 } s m args below meth c 6 0 0 (vx_MQ below (QcT G o hs' tvI) (XCT G o hs') args s 0 0 (gA G)) hs [(0, va_rf a0), (2, .int a2), (3, .int x3)] [] 137 := by
  intro n
  induction n with
  | zero =>
    intro x3 hs h
    rw [L_X9_improve_137] at h
    exact absurd h failO_e
  | succ n hrec_137 =>
    intro x3 hs h
    rw [L_X9_improve_137] at h
    refine q_iload_n C 2 dX9_improve_137 rfl ?_
    refine q_bipush C (16 : Int32) dX9_improve_138 (by decide) ?_
    refine q_icmp_ge C 161 dX9_improve_140 (by decide) h (fun h => ?_) (fun h => ?_)
    · refine WG.sub [1] rfl ?_
      exact hk_137_161 _ h
    · refine q_aload_n C 0 dX9_improve_143 rfl ?_
      refine q_gR C fl_X9_53 dX9_improve_144 h (fun v28 h => ?_)
      refine q_iload_n C 2 dX9_improve_147 rfl ?_
      refine q_aload_n C 0 dX9_improve_148 rfl ?_
      refine q_gR C fl_X9_68 dX9_improve_149 h (fun v29 h => ?_)
      refine q_iload_n C 2 dX9_improve_152 rfl ?_
      refine q_iald C dX9_improve_153 h (fun v30 h => ?_)
      refine q_iast C dX9_improve_154 h (fun hs h => ?_)
      refine q_iinc C 2 (1 : Int32) (fun v31 => [(3, .int v31), (0, va_rf a0), (2, .int a2)]) dX9_improve_155 rfl (by decide) (by decide) (fun _ => rfl) h (fun v31 h => ?_)
      refine q_goto C 137 dX9_improve_158 (by decide) ?_
      refine WG.sub [1, 2, 0] rfl ?_
      exact hrec_137 _ _ h
def j_X9_improve_135 (a0 : Option Nat) (a2 : Int32)   : OO Int32 :=
  lets (0 : Int32) fun (v27 : Int32) =>
    L_X9_improve_137 a0 a2 (rtn a2) 100000 v27
set_option maxRecDepth 100000 in
set_option maxHeartbeats 4000000 in
theorem w_j_X9_improve_135 (C : Cx G l p s m args c RX9 cX9_improve 6) (C2 : Cy meth c (some .int)) {hs : Hs} (a0 : Option Nat) (a2 : Int32)    (h : j_X9_improve_135 a0 a2 hs = some (o, hs')) : WG G p l e { frames := 9, cells := 0, slots := 0, locals := 208 } s m args below meth c 6 0 0 (vx_MQ below (QcT G o hs' tvI) (XCT G o hs') args s 0 0 (gA G)) hs [(0, va_rf a0), (2, .int a2)] [] 135 := by
  unfold j_X9_improve_135 at h
  refine q_iconst C (0 : Int32) dX9_improve_135 (by decide) ?_
  refine q_istore_n C (fun v27 => [(3, .int v27), (0, va_rf a0), (2, .int a2)]) dX9_improve_136 (by decide) (fun _ => rfl) h (fun v27 h => ?_)
  refine WG.sub [1, 2, 0] rfl ?_
  refine w_L_X9_improve_137 C C2 _ _ _ ?_ _ _ _ h
  · intro  hs h
    refine q_iload_n C 0 dX9_improve_161 rfl ?_
    exact q_iret C C2 rfl (Nat.le_of_ble_eq_true rfl) (Nat.le_of_ble_eq_true rfl) dX9_improve_162 h
end M_X9_improve
def f_X9_improve (a0 : Nat) (p1 : Int32) : OO Int32 :=
    call (f_X9_in p1 (1 : Int32) (20 : Int32)) (fun (v1 : Int32) =>
    rcv (some a0) 12 fun r33 => call (f_X9_checked r33 v1) (fun (v2 : Int32) =>
    (if v2 ≤ 0 then
    lets (0 : Int32) fun (v3 : Int32) =>
    L_X9_improve_18 (some a0) p1 (lets (0 : Int32) fun (v6 : Int32) =>
    L_X9_improve_38 (some a0) p1 (rcv (some a0) 12 fun r32 => call (f_X9_costNow r32 ) (fun (v11 : Int32) =>
    lets v11 fun (v12 : Int32) =>
    lets (0 : Int32) fun (v13 : Int32) =>
    L_X9_improve_69 (some a0) p1 (fun (v26 : Int32) => j_X9_improve_135 (some a0) v26) 100000 v12 v13) nox) 100000 v6) 100000 v3
    else
    rtn (0 : Int32))) nox) nox
set_option maxRecDepth 100000 in
set_option maxHeartbeats 4000000 in
theorem m_X9_improve {G : GG} {l : Launch} {a0 : Nat} {p1 : Int32} {hs hs' : Hs} {o : Except Nat Int32} (h : f_X9_improve a0 p1 hs = some (o, hs')) : CT G l yX9_improve cX9_improve 6 (some .int) 9 208 0 0 [.ref a0, .int p1] hs o hs' tvI := by
  refine vx_ofW (cc := cX9_improve) (maxL := 6) (ret := (some .int)) (by decide +kernel) rfl ?_
  intro p e s m args below meth c s₁ B hml hxt hv
  obtain ⟨hav, hR, hKn⟩ := hv
  subst hav
  have hts := atoms_spec (ws := .code yX9_improve cX9_improve 6 (some .int) :: Tg) B.pre
  have C : Cx G l p s m _ c RX9 cX9_improve 6 := ⟨B.exec, B.bytes, hml, findClass_of_methodNamed B.named, fun w hw => hts w (List.mem_cons_of_mem _ hw), hKn, fun q hq => Nat.le_trans hR.2.2.1 hq⟩
  have C2 : Cy meth c (some .int) := ⟨B.returns, B.notSynchronized, hxt⟩
  have key : WG G p l e { frames := 9, cells := 0, slots := 0, locals := 208 } s m ([.ref a0, .int p1] : List Value).toArray below meth c 6 0 0 (vx_MQ below (QcT G o hs' tvI) (XCT G o hs') ([.ref a0, .int p1] : List Value).toArray s 0 0 (gA G)) hs [(0, va_rf (some a0)), (1, .int p1)] [] 0 := by
    unfold f_X9_improve at h
    refine q_aload_n C 0 dX9_improve_0 rfl ?_
    refine q_iload_n C 1 dX9_improve_1 rfl ?_
    refine q_iconst C (1 : Int32) dX9_improve_2 (by decide) ?_
    refine q_bipush C (20 : Int32) dX9_improve_3 (by decide) ?_
    refine q_callS C [.int p1, .int (1 : Int32), .int (20 : Int32)] [va_rf (some a0)] (fun o2 hs1 hm => m_X9_in hm) lk_X9_96 sm_X9_in ⟨(Nat.le_of_ble_eq_true rfl), (Nat.le_of_ble_eq_true rfl)⟩ ⟨(Nat.le_of_ble_eq_true rfl), (Nat.le_of_ble_eq_true rfl)⟩ rfl rfl (by simp only [List.map, cat_rf, cat_i, cat_a]; decide) dX9_improve_5 h (fun v1 hs h => WG_st (st' := [.int v1, va_rf (some a0)]) rfl ?_)
    refine q_callV C (CN := RX9) (T := TX9) (N := 28) [.int v1] [] (fun a0 o2 hs1 hm => m_X9_checked hm) lk_X9_110 im_X9_checked se_X9_X9_checked rfl ⟨(Nat.le_of_ble_eq_true rfl), (Nat.le_of_ble_eq_true rfl)⟩ ⟨(Nat.le_of_ble_eq_true rfl), (Nat.le_of_ble_eq_true rfl)⟩ rfl rfl (by decide) dX9_improve_8 h (fun v2 hs h => WG_st (st' := [.int v2]) rfl ?_)
    refine q_if_le C 16 dX9_improve_11 (by decide) h (fun h => ?_) (fun h => ?_)
    · refine q_iconst C (0 : Int32) dX9_improve_16 (by decide) ?_
      refine q_istore_n C (fun v3 => [(2, .int v3), (0, va_rf (some a0)), (1, .int p1)]) dX9_improve_17 (by decide) (fun _ => rfl) h (fun v3 h => ?_)
      refine WG.sub [1, 2, 0] rfl ?_
      refine w_L_X9_improve_18 C C2 _ _ _ ?_ _ _ _ h
      · intro  hs h
        refine q_iconst C (0 : Int32) dX9_improve_36 (by decide) ?_
        refine q_istore_n C (fun v6 => [(2, .int v6), (0, va_rf (some a0)), (1, .int p1)]) dX9_improve_37 (by decide) (fun _ => rfl) h (fun v6 h => ?_)
        refine WG.sub [1, 2, 0] rfl ?_
        refine w_L_X9_improve_38 C C2 _ _ _ ?_ _ _ _ h
        · intro  hs h
          refine q_aload_n C 0 dX9_improve_62 rfl ?_
          refine q_callV C (CN := RX9) (T := TX9) (N := 28) [] [] (fun a0 o2 hs1 hm => m_X9_costNow hm) lk_X9_189 im_X9_costNow se_X9_X9_costNow rfl ⟨(Nat.le_of_ble_eq_true rfl), (Nat.le_of_ble_eq_true rfl)⟩ ⟨(Nat.le_of_ble_eq_true rfl), (Nat.le_of_ble_eq_true rfl)⟩ rfl rfl (by decide) dX9_improve_63 h (fun v11 hs h => WG_st (st' := [.int v11]) rfl ?_)
          refine q_istore_n C (fun v12 => [(2, .int v12), (0, va_rf (some a0)), (1, .int p1)]) dX9_improve_66 (by decide) (fun _ => rfl) h (fun v12 h => ?_)
          refine q_iconst C (0 : Int32) dX9_improve_67 (by decide) ?_
          refine q_istore_n C (fun v13 => [(3, .int v13), (2, .int v12), (0, va_rf (some a0)), (1, .int p1)]) dX9_improve_68 (by decide) (fun _ => rfl) h (fun v13 h => ?_)
          refine WG.sub [2, 3, 1, 0] rfl ?_
          refine w_L_X9_improve_69 C C2 _ _ _ ?_ _ _ _ _ h
          · intro v26 hs h
            exact w_j_X9_improve_135 C C2 _ _   h
    · refine q_iconst C (0 : Int32) dX9_improve_14 (by decide) ?_
      exact q_iret C C2 rfl (Nat.le_of_ble_eq_true rfl) (Nat.le_of_ble_eq_true rfl) dX9_improve_15 h
  rw [lg_entry_eq]
  exact key _ _ _ hR va_S.rf ⟨lv_entry _ (n := 6) (Nat.le_of_ble_eq_true rfl), (c1_r (c1_i c1_n))⟩

theorem cd_X9_cost : Cond.code yX9_cost cX9_cost 1 (some .int) ∈ Tg := Tg_of (i := 1841) (by decide +kernel) (by decide +kernel)
section M_X9_cost
variable {p : Program} {l : Launch} {e : Env} {s : State} {m : MethodId} {args : Array Value} {below : List Frame} {meth : Method} {c : Code} {G : GG} {o : Except Nat Int32} {hs' : Hs}
end M_X9_cost
def f_X9_cost (a0 : Nat) : OO Int32 :=
    rcv (some a0) 12 fun r4 => call (f_X9_costNow r4 ) (fun (v1 : Int32) =>
    rcv (some a0) 12 fun r3 => call (f_X9_plain r3 v1) (fun (v2 : Int32) =>
    rtn v2) nox) nox
set_option maxRecDepth 100000 in
set_option maxHeartbeats 4000000 in
theorem m_X9_cost {G : GG} {l : Launch} {a0 : Nat} {hs hs' : Hs} {o : Except Nat Int32} (h : f_X9_cost a0 hs = some (o, hs')) : CT G l yX9_cost cX9_cost 1 (some .int) 7 158 0 0 [.ref a0] hs o hs' tvI := by
  refine vx_ofW (cc := cX9_cost) (maxL := 1) (ret := (some .int)) (by decide +kernel) rfl ?_
  intro p e s m args below meth c s₁ B hml hxt hv
  obtain ⟨hav, hR, hKn⟩ := hv
  subst hav
  have hts := atoms_spec (ws := .code yX9_cost cX9_cost 1 (some .int) :: Tg) B.pre
  have C : Cx G l p s m _ c RX9 cX9_cost 1 := ⟨B.exec, B.bytes, hml, findClass_of_methodNamed B.named, fun w hw => hts w (List.mem_cons_of_mem _ hw), hKn, fun q hq => Nat.le_trans hR.2.2.1 hq⟩
  have C2 : Cy meth c (some .int) := ⟨B.returns, B.notSynchronized, hxt⟩
  have key : WG G p l e { frames := 7, cells := 0, slots := 0, locals := 158 } s m ([.ref a0] : List Value).toArray below meth c 1 0 0 (vx_MQ below (QcT G o hs' tvI) (XCT G o hs') ([.ref a0] : List Value).toArray s 0 0 (gA G)) hs [(0, va_rf (some a0))] [] 0 := by
    unfold f_X9_cost at h
    refine q_aload_n C 0 dX9_cost_0 rfl ?_
    refine q_aload_n C 0 dX9_cost_1 rfl ?_
    refine q_callV C (CN := RX9) (T := TX9) (N := 28) [] [va_rf (some a0)] (fun a0 o2 hs1 hm => m_X9_costNow hm) lk_X9_189 im_X9_costNow se_X9_X9_costNow rfl ⟨(Nat.le_of_ble_eq_true rfl), (Nat.le_of_ble_eq_true rfl)⟩ ⟨(Nat.le_of_ble_eq_true rfl), (Nat.le_of_ble_eq_true rfl)⟩ rfl rfl (by simp only [List.map, cat_rf, cat_i, cat_a]; decide) dX9_cost_2 h (fun v1 hs h => WG_st (st' := [.int v1, va_rf (some a0)]) rfl ?_)
    refine q_callV C (CN := RX9) (T := TX9) (N := 28) [.int v1] [] (fun a0 o2 hs1 hm => m_X9_plain hm) lk_X9_211 im_X9_plain se_X9_X9_plain rfl ⟨(Nat.le_of_ble_eq_true rfl), (Nat.le_of_ble_eq_true rfl)⟩ ⟨(Nat.le_of_ble_eq_true rfl), (Nat.le_of_ble_eq_true rfl)⟩ rfl rfl (by decide) dX9_cost_5 h (fun v2 hs h => WG_st (st' := [.int v2]) rfl ?_)
    exact q_iret C C2 rfl (Nat.le_of_ble_eq_true rfl) (Nat.le_of_ble_eq_true rfl) dX9_cost_8 h
  rw [lg_entry_eq]
  exact key _ _ _ hR va_S.rf ⟨lv_entry _ (n := 1) (Nat.le_of_ble_eq_true rfl), (c1_r c1_n)⟩

theorem cd_X9_costAnew : Cond.code yX9_costAnew cX9_costAnew 1 (some .int) ∈ Tg := Tg_of (i := 1845) (by decide +kernel) (by decide +kernel)
section M_X9_costAnew
variable {p : Program} {l : Launch} {e : Env} {s : State} {m : MethodId} {args : Array Value} {below : List Frame} {meth : Method} {c : Code} {G : GG} {o : Except Nat Int32} {hs' : Hs}
end M_X9_costAnew
def f_X9_costAnew (a0 : Nat) : OO Int32 :=
    rcv (some a0) 12 fun r4 => call (f_X9_costNow r4 ) (fun (v1 : Int32) =>
    rcv (some a0) 12 fun r3 => call (f_X9_plain r3 v1) (fun (v2 : Int32) =>
    rtn v2) nox) nox
set_option maxRecDepth 100000 in
set_option maxHeartbeats 4000000 in
theorem m_X9_costAnew {G : GG} {l : Launch} {a0 : Nat} {hs hs' : Hs} {o : Except Nat Int32} (h : f_X9_costAnew a0 hs = some (o, hs')) : CT G l yX9_costAnew cX9_costAnew 1 (some .int) 7 158 0 0 [.ref a0] hs o hs' tvI := by
  refine vx_ofW (cc := cX9_costAnew) (maxL := 1) (ret := (some .int)) (by decide +kernel) rfl ?_
  intro p e s m args below meth c s₁ B hml hxt hv
  obtain ⟨hav, hR, hKn⟩ := hv
  subst hav
  have hts := atoms_spec (ws := .code yX9_costAnew cX9_costAnew 1 (some .int) :: Tg) B.pre
  have C : Cx G l p s m _ c RX9 cX9_costAnew 1 := ⟨B.exec, B.bytes, hml, findClass_of_methodNamed B.named, fun w hw => hts w (List.mem_cons_of_mem _ hw), hKn, fun q hq => Nat.le_trans hR.2.2.1 hq⟩
  have C2 : Cy meth c (some .int) := ⟨B.returns, B.notSynchronized, hxt⟩
  have key : WG G p l e { frames := 7, cells := 0, slots := 0, locals := 158 } s m ([.ref a0] : List Value).toArray below meth c 1 0 0 (vx_MQ below (QcT G o hs' tvI) (XCT G o hs') ([.ref a0] : List Value).toArray s 0 0 (gA G)) hs [(0, va_rf (some a0))] [] 0 := by
    unfold f_X9_costAnew at h
    refine q_aload_n C 0 dX9_costAnew_0 rfl ?_
    refine q_aload_n C 0 dX9_costAnew_1 rfl ?_
    refine q_callV C (CN := RX9) (T := TX9) (N := 28) [] [va_rf (some a0)] (fun a0 o2 hs1 hm => m_X9_costNow hm) lk_X9_189 im_X9_costNow se_X9_X9_costNow rfl ⟨(Nat.le_of_ble_eq_true rfl), (Nat.le_of_ble_eq_true rfl)⟩ ⟨(Nat.le_of_ble_eq_true rfl), (Nat.le_of_ble_eq_true rfl)⟩ rfl rfl (by simp only [List.map, cat_rf, cat_i, cat_a]; decide) dX9_costAnew_2 h (fun v1 hs h => WG_st (st' := [.int v1, va_rf (some a0)]) rfl ?_)
    refine q_callV C (CN := RX9) (T := TX9) (N := 28) [.int v1] [] (fun a0 o2 hs1 hm => m_X9_plain hm) lk_X9_211 im_X9_plain se_X9_X9_plain rfl ⟨(Nat.le_of_ble_eq_true rfl), (Nat.le_of_ble_eq_true rfl)⟩ ⟨(Nat.le_of_ble_eq_true rfl), (Nat.le_of_ble_eq_true rfl)⟩ rfl rfl (by decide) dX9_costAnew_5 h (fun v2 hs h => WG_st (st' := [.int v2]) rfl ?_)
    exact q_iret C C2 rfl (Nat.le_of_ble_eq_true rfl) (Nat.le_of_ble_eq_true rfl) dX9_costAnew_8 h
  rw [lg_entry_eq]
  exact key _ _ _ hR va_S.rf ⟨lv_entry _ (n := 1) (Nat.le_of_ble_eq_true rfl), (c1_r c1_n)⟩

theorem cd_X9_amount : Cond.code yX9_amount cX9_amount 2 (some .int) ∈ Tg := Tg_of (i := 1849) (by decide +kernel) (by decide +kernel)
section M_X9_amount
variable {p : Program} {l : Launch} {e : Env} {s : State} {m : MethodId} {args : Array Value} {below : List Frame} {meth : Method} {c : Code} {G : GG} {o : Except Nat Int32} {hs' : Hs}
end M_X9_amount
def f_X9_amount (a0 : Nat) (p1 : Int32) : OO Int32 :=
    call (f_X9_in p1 (0 : Int32) (3 : Int32)) (fun (v1 : Int32) =>
    rcv (some a0) 12 fun r5 => call (f_X9_checked r5 v1) (fun (v2 : Int32) =>
    (if v2 ≤ 0 then
    rcv (some a0) 12 fun r4 => call (f_X9_amountOf r4 p1) (fun (v3 : Int32) =>
    rtn v3) nox
    else
    rtn (0 : Int32))) nox) nox
set_option maxRecDepth 100000 in
set_option maxHeartbeats 4000000 in
theorem m_X9_amount {G : GG} {l : Launch} {a0 : Nat} {p1 : Int32} {hs hs' : Hs} {o : Except Nat Int32} (h : f_X9_amount a0 p1 hs = some (o, hs')) : CT G l yX9_amount cX9_amount 2 (some .int) 6 136 0 0 [.ref a0, .int p1] hs o hs' tvI := by
  refine vx_ofW (cc := cX9_amount) (maxL := 2) (ret := (some .int)) (by decide +kernel) rfl ?_
  intro p e s m args below meth c s₁ B hml hxt hv
  obtain ⟨hav, hR, hKn⟩ := hv
  subst hav
  have hts := atoms_spec (ws := .code yX9_amount cX9_amount 2 (some .int) :: Tg) B.pre
  have C : Cx G l p s m _ c RX9 cX9_amount 2 := ⟨B.exec, B.bytes, hml, findClass_of_methodNamed B.named, fun w hw => hts w (List.mem_cons_of_mem _ hw), hKn, fun q hq => Nat.le_trans hR.2.2.1 hq⟩
  have C2 : Cy meth c (some .int) := ⟨B.returns, B.notSynchronized, hxt⟩
  have key : WG G p l e { frames := 6, cells := 0, slots := 0, locals := 136 } s m ([.ref a0, .int p1] : List Value).toArray below meth c 2 0 0 (vx_MQ below (QcT G o hs' tvI) (XCT G o hs') ([.ref a0, .int p1] : List Value).toArray s 0 0 (gA G)) hs [(0, va_rf (some a0)), (1, .int p1)] [] 0 := by
    unfold f_X9_amount at h
    refine q_aload_n C 0 dX9_amount_0 rfl ?_
    refine q_iload_n C 1 dX9_amount_1 rfl ?_
    refine q_iconst C (0 : Int32) dX9_amount_2 (by decide) ?_
    refine q_iconst C (3 : Int32) dX9_amount_3 (by decide) ?_
    refine q_callS C [.int p1, .int (0 : Int32), .int (3 : Int32)] [va_rf (some a0)] (fun o2 hs1 hm => m_X9_in hm) lk_X9_96 sm_X9_in ⟨(Nat.le_of_ble_eq_true rfl), (Nat.le_of_ble_eq_true rfl)⟩ ⟨(Nat.le_of_ble_eq_true rfl), (Nat.le_of_ble_eq_true rfl)⟩ rfl rfl (by simp only [List.map, cat_rf, cat_i, cat_a]; decide) dX9_amount_4 h (fun v1 hs h => WG_st (st' := [.int v1, va_rf (some a0)]) rfl ?_)
    refine q_callV C (CN := RX9) (T := TX9) (N := 28) [.int v1] [] (fun a0 o2 hs1 hm => m_X9_checked hm) lk_X9_110 im_X9_checked se_X9_X9_checked rfl ⟨(Nat.le_of_ble_eq_true rfl), (Nat.le_of_ble_eq_true rfl)⟩ ⟨(Nat.le_of_ble_eq_true rfl), (Nat.le_of_ble_eq_true rfl)⟩ rfl rfl (by decide) dX9_amount_7 h (fun v2 hs h => WG_st (st' := [.int v2]) rfl ?_)
    refine q_if_le C 17 dX9_amount_10 (by decide) h (fun h => ?_) (fun h => ?_)
    · refine q_aload_n C 0 dX9_amount_17 rfl ?_
      refine q_iload_n C 1 dX9_amount_18 rfl ?_
      refine q_callV C (CN := RX9) (T := TX9) (N := 28) [.int p1] [] (fun a0 o2 hs1 hm => m_X9_amountOf hm) lk_X9_186 im_X9_amountOf se_X9_X9_amountOf rfl ⟨(Nat.le_of_ble_eq_true rfl), (Nat.le_of_ble_eq_true rfl)⟩ ⟨(Nat.le_of_ble_eq_true rfl), (Nat.le_of_ble_eq_true rfl)⟩ rfl rfl (by decide) dX9_amount_19 h (fun v3 hs h => WG_st (st' := [.int v3]) rfl ?_)
      exact q_iret C C2 rfl (Nat.le_of_ble_eq_true rfl) (Nat.le_of_ble_eq_true rfl) dX9_amount_22 h
    · refine q_iconst C (0 : Int32) dX9_amount_13 (by decide) ?_
      refine q_goto C 22 dX9_amount_14 (by decide) ?_
      exact q_iret C C2 rfl (Nat.le_of_ble_eq_true rfl) (Nat.le_of_ble_eq_true rfl) dX9_amount_22 h
  rw [lg_entry_eq]
  exact key _ _ _ hR va_S.rf ⟨lv_entry _ (n := 2) (Nat.le_of_ble_eq_true rfl), (c1_r (c1_i c1_n))⟩

theorem cd_X9_breaks : Cond.code yX9_breaks cX9_breaks 3 (some .int) ∈ Tg := Tg_of (i := 1853) (by decide +kernel) (by decide +kernel)
section M_X9_breaks
variable {p : Program} {l : Launch} {e : Env} {s : State} {m : MethodId} {args : Array Value} {below : List Frame} {meth : Method} {c : Code} {G : GG} {o : Except Nat Int32} {hs' : Hs}
def j_X9_breaks_60 (a0 : Option Nat) (a2 : Int32) (s0 : Int32) (s1 : Int32) (rec_4 : Int32 → Int32 → OO Int32) : OO Int32 :=
  lets (s1 + s0) fun (v5 : Int32) =>
    lets (a2 + (1 : Int32)) fun (v6 : Int32) =>
    rec_4 v5 v6
set_option maxRecDepth 100000 in
set_option maxHeartbeats 4000000 in
theorem w_j_X9_breaks_60 (C : Cx G l p s m args c RX9 cX9_breaks 3) (C2 : Cy meth c (some .int)) {hs : Hs} (a0 : Option Nat) (a2 : Int32) (s0 : Int32) (s1 : Int32) (rec_4 : Int32 → Int32 → OO Int32) (hrec_4 : ∀ (y1 : Int32) (y2 : Int32) hs, rec_4 y1 y2 hs = some (o, hs') → WG G p l e { frames := 5, cells := 0, slots := 0, locals := 118 } s m args below meth c 3 0 0 (vx_MQ below (QcT G o hs' tvI) (XCT G o hs') args s 0 0 (gA G)) hs [(0, va_rf a0), (1, .int y1), (2, .int y2)] [] 4) (h : j_X9_breaks_60 a0 a2 s0 s1 rec_4 hs = some (o, hs')) : WG G p l e { frames := 5, cells := 0, slots := 0, locals := 118 } s m args below meth c 3 0 0 (vx_MQ below (QcT G o hs' tvI) (XCT G o hs') args s 0 0 (gA G)) hs [(0, va_rf a0), (2, .int a2)] [.int s0, .int s1] 60 := by
  unfold j_X9_breaks_60 at h
  refine q_iadd C dX9_breaks_60 ?_
  refine q_istore_n C (fun v5 => [(1, .int v5), (0, va_rf a0), (2, .int a2)]) dX9_breaks_61 (by decide) (fun _ => rfl) h (fun v5 h => ?_)
  refine q_iinc C 2 (1 : Int32) (fun v6 => [(2, .int v6), (1, .int v5), (0, va_rf a0)]) dX9_breaks_62 rfl (by decide) (by decide) (fun _ => rfl) h (fun v6 h => ?_)
  refine q_goto C 4 dX9_breaks_65 (by decide) ?_
  refine WG.sub [2, 1, 0] rfl ?_
  exact hrec_4 _ _ _ h
def j_X9_breaks_59 (a0 : Option Nat) (a2 : Int32) (s0 : Int32) (rec_4 : Int32 → Int32 → OO Int32) : OO Int32 :=
  j_X9_breaks_60 a0 a2 (0 : Int32) s0 rec_4
set_option maxRecDepth 100000 in
set_option maxHeartbeats 4000000 in
theorem w_j_X9_breaks_59 (C : Cx G l p s m args c RX9 cX9_breaks 3) (C2 : Cy meth c (some .int)) {hs : Hs} (a0 : Option Nat) (a2 : Int32) (s0 : Int32) (rec_4 : Int32 → Int32 → OO Int32) (hrec_4 : ∀ (y1 : Int32) (y2 : Int32) hs, rec_4 y1 y2 hs = some (o, hs') → WG G p l e { frames := 5, cells := 0, slots := 0, locals := 118 } s m args below meth c 3 0 0 (vx_MQ below (QcT G o hs' tvI) (XCT G o hs') args s 0 0 (gA G)) hs [(0, va_rf a0), (1, .int y1), (2, .int y2)] [] 4) (h : j_X9_breaks_59 a0 a2 s0 rec_4 hs = some (o, hs')) : WG G p l e { frames := 5, cells := 0, slots := 0, locals := 118 } s m args below meth c 3 0 0 (vx_MQ below (QcT G o hs' tvI) (XCT G o hs') args s 0 0 (gA G)) hs [(0, va_rf a0), (2, .int a2)] [.int s0] 59 := by
  unfold j_X9_breaks_59 at h
  refine q_iconst C (0 : Int32) dX9_breaks_59 (by decide) ?_
  exact w_j_X9_breaks_60 C C2 _ _ _ _ _ hrec_4 h
def L_X9_breaks_4 (a0 : Option Nat) (k_4_68 : Int32 → OO Int32) : Nat → Int32 → Int32 → OO Int32
  | 0, _, _ => failO
  | n + 1, x1, x2 =>
    gI a0 12 24 fun v3 =>
    (if v3 ≤ x2 then
    k_4_68 x1
    else
    rcv a0 12 fun r15 => call (f_X9_isPlaced r15 x2) (fun (v4 : Int32) =>
    (if v4 = 0 then
    j_X9_breaks_59 a0 x2 x1 (L_X9_breaks_4 a0 k_4_68 n)
    else
    rcv a0 12 fun r14 => call (f_X9_isPast r14 x2) (fun (v7 : Int32) =>
    (if ¬ v7 = 0 then
    j_X9_breaks_59 a0 x2 x1 (L_X9_breaks_4 a0 k_4_68 n)
    else
    gR a0 12 14 fun v8 =>
    ldI 0 v8 x2 fun v9 =>
    dvz (8 : Int32) (
    gR a0 12 14 fun v10 =>
    ldI 0 v10 x2 fun v11 =>
    dvz (8 : Int32) (
    rcv a0 12 fun r13 => call (f_X9_letters r13 x2 (v9 / (8 : Int32)) (irem v11 (8 : Int32))) (fun (v12 : Int32) =>
    (if v12 ≤ 0 then
    j_X9_breaks_59 a0 x2 x1 (L_X9_breaks_4 a0 k_4_68 n)
    else
    j_X9_breaks_60 a0 x2 (1 : Int32) x1 (L_X9_breaks_4 a0 k_4_68 n))) nox)))) nox)) nox)
set_option maxRecDepth 100000 in
set_option maxHeartbeats 4000000 in
theorem w_L_X9_breaks_4 (C : Cx G l p s m args c RX9 cX9_breaks 3) (C2 : Cy meth c (some .int)) (a0 : Option Nat) (k_4_68 : Int32 → OO Int32) (hk_4_68 : ∀ (y1 : Int32) hs, k_4_68 y1 hs = some (o, hs') → WG G p l e { frames := 5, cells := 0, slots := 0, locals := 118 } s m args below meth c 3 0 0 (vx_MQ below (QcT G o hs' tvI) (XCT G o hs') args s 0 0 (gA G)) hs [(0, va_rf a0), (1, .int y1)] [] 68) : ∀ (n : Nat) (x1 : Int32) (x2 : Int32) (hs : Hs), L_X9_breaks_4 a0 k_4_68 n x1 x2 hs = some (o, hs') → WG G p l e { frames := 5, cells := 0, slots := 0, locals := 118 } s m args below meth c 3 0 0 (vx_MQ below (QcT G o hs' tvI) (XCT G o hs') args s 0 0 (gA G)) hs [(0, va_rf a0), (1, .int x1), (2, .int x2)] [] 4 := by
  intro n
  induction n with
  | zero =>
    intro x1 x2 hs h
    rw [L_X9_breaks_4] at h
    exact absurd h failO_e
  | succ n hrec_4 =>
    intro x1 x2 hs h
    rw [L_X9_breaks_4] at h
    refine q_iload_n C 2 dX9_breaks_4 rfl ?_
    refine q_aload_n C 0 dX9_breaks_5 rfl ?_
    refine q_gI C fl_X9_84 dX9_breaks_6 h (fun v3 h => ?_)
    refine q_icmp_ge C 68 dX9_breaks_9 (by decide) h (fun h => ?_) (fun h => ?_)
    · refine WG.sub [0, 1] rfl ?_
      exact hk_4_68 _ _ h
    · refine q_iload_n C 1 dX9_breaks_12 rfl ?_
      refine q_aload_n C 0 dX9_breaks_13 rfl ?_
      refine q_iload_n C 2 dX9_breaks_14 rfl ?_
      refine q_callV C (CN := RX9) (T := TX9) (N := 28) [.int x2] [.int x1] (fun a0 o2 hs1 hm => m_X9_isPlaced hm) lk_X9_118 im_X9_isPlaced se_X9_X9_isPlaced rfl ⟨(Nat.le_of_ble_eq_true rfl), (Nat.le_of_ble_eq_true rfl)⟩ ⟨(Nat.le_of_ble_eq_true rfl), (Nat.le_of_ble_eq_true rfl)⟩ rfl rfl (by simp only [List.map, cat_rf, cat_i, cat_a]; decide) dX9_breaks_15 h (fun v4 hs h => WG_st (st' := [.int v4, .int x1]) rfl ?_)
      refine q_if_eq C 59 dX9_breaks_18 (by decide) h (fun h => ?_) (fun h => ?_)
      · refine WG.sub [0, 2] rfl ?_
        exact w_j_X9_breaks_59 C C2 _ _ _ _ hrec_4 h
      · refine q_aload_n C 0 dX9_breaks_21 rfl ?_
        refine q_iload_n C 2 dX9_breaks_22 rfl ?_
        refine q_callV C (CN := RX9) (T := TX9) (N := 28) [.int x2] [.int x1] (fun a0 o2 hs1 hm => m_X9_isPast hm) lk_X9_202 im_X9_isPast se_X9_X9_isPast rfl ⟨(Nat.le_of_ble_eq_true rfl), (Nat.le_of_ble_eq_true rfl)⟩ ⟨(Nat.le_of_ble_eq_true rfl), (Nat.le_of_ble_eq_true rfl)⟩ rfl rfl (by simp only [List.map, cat_rf, cat_i, cat_a]; decide) dX9_breaks_23 h (fun v7 hs h => WG_st (st' := [.int v7, .int x1]) rfl ?_)
        refine q_if_ne C 59 dX9_breaks_26 (by decide) h (fun h => ?_) (fun h => ?_)
        · refine WG.sub [0, 2] rfl ?_
          exact w_j_X9_breaks_59 C C2 _ _ _ _ hrec_4 h
        · refine q_aload_n C 0 dX9_breaks_29 rfl ?_
          refine q_iload_n C 2 dX9_breaks_30 rfl ?_
          refine q_aload_n C 0 dX9_breaks_31 rfl ?_
          refine q_gR C fl_X9_53 dX9_breaks_32 h (fun v8 h => ?_)
          refine q_iload_n C 2 dX9_breaks_35 rfl ?_
          refine q_iald C dX9_breaks_36 h (fun v9 h => ?_)
          refine q_bipush C (8 : Int32) dX9_breaks_37 (by decide) ?_
          refine q_idiv C dX9_breaks_39 h (fun h => ?_)
          refine q_aload_n C 0 dX9_breaks_40 rfl ?_
          refine q_gR C fl_X9_53 dX9_breaks_41 h (fun v10 h => ?_)
          refine q_iload_n C 2 dX9_breaks_44 rfl ?_
          refine q_iald C dX9_breaks_45 h (fun v11 h => ?_)
          refine q_bipush C (8 : Int32) dX9_breaks_46 (by decide) ?_
          refine q_irem C dX9_breaks_48 h (fun h => ?_)
          refine q_callV C (CN := RX9) (T := TX9) (N := 28) [.int x2, .int (v9 / (8 : Int32)), .int (irem v11 (8 : Int32))] [.int x1] (fun a0 o2 hs1 hm => m_X9_letters hm) lk_X9_145 im_X9_letters se_X9_X9_letters rfl ⟨(Nat.le_of_ble_eq_true rfl), (Nat.le_of_ble_eq_true rfl)⟩ ⟨(Nat.le_of_ble_eq_true rfl), (Nat.le_of_ble_eq_true rfl)⟩ rfl rfl (by simp only [List.map, cat_rf, cat_i, cat_a]; decide) dX9_breaks_49 h (fun v12 hs h => WG_st (st' := [.int v12, .int x1]) rfl ?_)
          refine q_if_le C 59 dX9_breaks_52 (by decide) h (fun h => ?_) (fun h => ?_)
          · refine WG.sub [0, 2] rfl ?_
            exact w_j_X9_breaks_59 C C2 _ _ _ _ hrec_4 h
          · refine q_iconst C (1 : Int32) dX9_breaks_55 (by decide) ?_
            refine q_goto C 60 dX9_breaks_56 (by decide) ?_
            refine WG.sub [0, 2] rfl ?_
            exact w_j_X9_breaks_60 C C2 _ _ _ _ _ hrec_4 h
end M_X9_breaks
def f_X9_breaks (a0 : Nat) : OO Int32 :=
    lets (0 : Int32) fun (v1 : Int32) =>
    lets (0 : Int32) fun (v2 : Int32) =>
    L_X9_breaks_4 (some a0) (fun (v16 : Int32) => rcv (some a0) 12 fun r18 => call (f_X9_plain r18 v16) (fun (v17 : Int32) =>
    rtn v17) nox) 100000 v1 v2
set_option maxRecDepth 100000 in
set_option maxHeartbeats 4000000 in
theorem m_X9_breaks {G : GG} {l : Launch} {a0 : Nat} {hs hs' : Hs} {o : Except Nat Int32} (h : f_X9_breaks a0 hs = some (o, hs')) : CT G l yX9_breaks cX9_breaks 3 (some .int) 5 118 0 0 [.ref a0] hs o hs' tvI := by
  refine vx_ofW (cc := cX9_breaks) (maxL := 3) (ret := (some .int)) (by decide +kernel) rfl ?_
  intro p e s m args below meth c s₁ B hml hxt hv
  obtain ⟨hav, hR, hKn⟩ := hv
  subst hav
  have hts := atoms_spec (ws := .code yX9_breaks cX9_breaks 3 (some .int) :: Tg) B.pre
  have C : Cx G l p s m _ c RX9 cX9_breaks 3 := ⟨B.exec, B.bytes, hml, findClass_of_methodNamed B.named, fun w hw => hts w (List.mem_cons_of_mem _ hw), hKn, fun q hq => Nat.le_trans hR.2.2.1 hq⟩
  have C2 : Cy meth c (some .int) := ⟨B.returns, B.notSynchronized, hxt⟩
  have key : WG G p l e { frames := 5, cells := 0, slots := 0, locals := 118 } s m ([.ref a0] : List Value).toArray below meth c 3 0 0 (vx_MQ below (QcT G o hs' tvI) (XCT G o hs') ([.ref a0] : List Value).toArray s 0 0 (gA G)) hs [(0, va_rf (some a0))] [] 0 := by
    unfold f_X9_breaks at h
    refine q_iconst C (0 : Int32) dX9_breaks_0 (by decide) ?_
    refine q_istore_n C (fun v1 => [(1, .int v1), (0, va_rf (some a0))]) dX9_breaks_1 (by decide) (fun _ => rfl) h (fun v1 h => ?_)
    refine q_iconst C (0 : Int32) dX9_breaks_2 (by decide) ?_
    refine q_istore_n C (fun v2 => [(2, .int v2), (1, .int v1), (0, va_rf (some a0))]) dX9_breaks_3 (by decide) (fun _ => rfl) h (fun v2 h => ?_)
    refine WG.sub [2, 1, 0] rfl ?_
    refine w_L_X9_breaks_4 C C2 _ _ ?_ _ _ _ _ h
    · intro v16 hs h
      refine q_aload_n C 0 dX9_breaks_68 rfl ?_
      refine q_iload_n C 1 dX9_breaks_69 rfl ?_
      refine q_callV C (CN := RX9) (T := TX9) (N := 28) [.int v16] [] (fun a0 o2 hs1 hm => m_X9_plain hm) lk_X9_211 im_X9_plain se_X9_X9_plain rfl ⟨(Nat.le_of_ble_eq_true rfl), (Nat.le_of_ble_eq_true rfl)⟩ ⟨(Nat.le_of_ble_eq_true rfl), (Nat.le_of_ble_eq_true rfl)⟩ rfl rfl (by decide) dX9_breaks_70 h (fun v17 hs h => WG_st (st' := [.int v17]) rfl ?_)
      exact q_iret C C2 rfl (Nat.le_of_ble_eq_true rfl) (Nat.le_of_ble_eq_true rfl) dX9_breaks_73 h
  rw [lg_entry_eq]
  exact key _ _ _ hR va_S.rf ⟨lv_entry _ (n := 3) (Nat.le_of_ble_eq_true rfl), (c1_r c1_n)⟩

theorem cd_X9_lacksAbove : Cond.code yX9_lacksAbove cX9_lacksAbove 5 (some .int) ∈ Tg := Tg_of (i := 1861) (by decide +kernel) (by decide +kernel)
section M_X9_lacksAbove
variable {p : Program} {l : Launch} {e : Env} {s : State} {m : MethodId} {args : Array Value} {below : List Frame} {meth : Method} {c : Code} {G : GG} {o : Except Nat Int32} {hs' : Hs}
def j_X9_lacksAbove_53 (a0 : Option Nat) (a1 : Int32) (a2 : Int32) (a4 : Int32) (s0 : Int32) (s1 : Int32) (rec_5 : Int32 → Int32 → OO Int32) : OO Int32 :=
  lets (s1 + s0) fun (v6 : Int32) =>
    lets (a4 + (1 : Int32)) fun (v7 : Int32) =>
    rec_5 v6 v7
set_option maxRecDepth 100000 in
set_option maxHeartbeats 4000000 in
theorem w_j_X9_lacksAbove_53 (C : Cx G l p s m args c RX9 cX9_lacksAbove 5) (C2 : Cy meth c (some .int)) {hs : Hs} (a0 : Option Nat) (a1 : Int32) (a2 : Int32) (a4 : Int32) (s0 : Int32) (s1 : Int32) (rec_5 : Int32 → Int32 → OO Int32) (hrec_5 : ∀ (y3 : Int32) (y4 : Int32) hs, rec_5 y3 y4 hs = some (o, hs') → WG G p l e { frames := 0, cells := 0, slots := 0, locals := 0 } s m args below meth c 5 0 0 (vx_MQ below (QcT G o hs' tvI) (XCT G o hs') args s 0 0 (gA G)) hs [(0, va_rf a0), (1, .int a1), (2, .int a2), (3, .int y3), (4, .int y4)] [] 5) (h : j_X9_lacksAbove_53 a0 a1 a2 a4 s0 s1 rec_5 hs = some (o, hs')) : WG G p l e { frames := 0, cells := 0, slots := 0, locals := 0 } s m args below meth c 5 0 0 (vx_MQ below (QcT G o hs' tvI) (XCT G o hs') args s 0 0 (gA G)) hs [(0, va_rf a0), (1, .int a1), (2, .int a2), (4, .int a4)] [.int s0, .int s1] 53 := by
  unfold j_X9_lacksAbove_53 at h
  refine q_iadd C dX9_lacksAbove_53 ?_
  refine q_istore_n C (fun v6 => [(3, .int v6), (0, va_rf a0), (1, .int a1), (2, .int a2), (4, .int a4)]) dX9_lacksAbove_54 (by decide) (fun _ => rfl) h (fun v6 h => ?_)
  refine q_iinc C 4 (1 : Int32) (fun v7 => [(4, .int v7), (3, .int v6), (0, va_rf a0), (1, .int a1), (2, .int a2)]) dX9_lacksAbove_55 rfl (by decide) (by decide) (fun _ => rfl) h (fun v7 h => ?_)
  refine q_goto C 5 dX9_lacksAbove_58 (by decide) ?_
  refine WG.sub [2, 3, 4, 1, 0] rfl ?_
  exact hrec_5 _ _ _ h
def j_X9_lacksAbove_52 (a0 : Option Nat) (a1 : Int32) (a2 : Int32) (a4 : Int32) (s0 : Int32) (rec_5 : Int32 → Int32 → OO Int32) : OO Int32 :=
  j_X9_lacksAbove_53 a0 a1 a2 a4 (0 : Int32) s0 rec_5
set_option maxRecDepth 100000 in
set_option maxHeartbeats 4000000 in
theorem w_j_X9_lacksAbove_52 (C : Cx G l p s m args c RX9 cX9_lacksAbove 5) (C2 : Cy meth c (some .int)) {hs : Hs} (a0 : Option Nat) (a1 : Int32) (a2 : Int32) (a4 : Int32) (s0 : Int32) (rec_5 : Int32 → Int32 → OO Int32) (hrec_5 : ∀ (y3 : Int32) (y4 : Int32) hs, rec_5 y3 y4 hs = some (o, hs') → WG G p l e { frames := 0, cells := 0, slots := 0, locals := 0 } s m args below meth c 5 0 0 (vx_MQ below (QcT G o hs' tvI) (XCT G o hs') args s 0 0 (gA G)) hs [(0, va_rf a0), (1, .int a1), (2, .int a2), (3, .int y3), (4, .int y4)] [] 5) (h : j_X9_lacksAbove_52 a0 a1 a2 a4 s0 rec_5 hs = some (o, hs')) : WG G p l e { frames := 0, cells := 0, slots := 0, locals := 0 } s m args below meth c 5 0 0 (vx_MQ below (QcT G o hs' tvI) (XCT G o hs') args s 0 0 (gA G)) hs [(0, va_rf a0), (1, .int a1), (2, .int a2), (4, .int a4)] [.int s0] 52 := by
  unfold j_X9_lacksAbove_52 at h
  refine q_iconst C (0 : Int32) dX9_lacksAbove_52 (by decide) ?_
  exact w_j_X9_lacksAbove_53 C C2 _ _ _ _ _ _ _ hrec_5 h
def L_X9_lacksAbove_5 (a0 : Option Nat) (a1 : Int32) (a2 : Int32) (k_5_61 : Int32 → OO Int32) : Nat → Int32 → Int32 → OO Int32
  | 0, _, _ => failO
  | n + 1, x3, x4 =>
    gI a0 12 24 fun v3 =>
    (if v3 ≤ x4 then
    k_5_61 x3
    else
    gR a0 12 11 fun v4 =>
    ldI 0 v4 x4 fun v5 =>
    (if ¬ v5 = a1 then
    j_X9_lacksAbove_52 a0 a1 a2 x4 x3 (L_X9_lacksAbove_5 a0 a1 a2 k_5_61 n)
    else
    gR a0 12 5 fun v8 =>
    gR a0 12 9 fun v9 =>
    ldI 0 v9 x4 fun v10 =>
    ldI 0 v8 v10 fun v11 =>
    (if v11 ≤ a2 then
    j_X9_lacksAbove_52 a0 a1 a2 x4 x3 (L_X9_lacksAbove_5 a0 a1 a2 k_5_61 n)
    else
    gR a0 12 12 fun v12 =>
    ldI 0 v12 x4 fun v13 =>
    j_X9_lacksAbove_53 a0 a1 a2 x4 v13 x3 (L_X9_lacksAbove_5 a0 a1 a2 k_5_61 n))))
set_option maxRecDepth 100000 in
set_option maxHeartbeats 4000000 in
theorem w_L_X9_lacksAbove_5 (C : Cx G l p s m args c RX9 cX9_lacksAbove 5) (C2 : Cy meth c (some .int)) (a0 : Option Nat) (a1 : Int32) (a2 : Int32) (k_5_61 : Int32 → OO Int32) (hk_5_61 : ∀ (y3 : Int32) hs, k_5_61 y3 hs = some (o, hs') → WG G p l e { frames := 0, cells := 0, slots := 0, locals := 0 } s m args below meth c 5 0 0 (vx_MQ below (QcT G o hs' tvI) (XCT G o hs') args s 0 0 (gA G)) hs [(0, va_rf a0), (1, .int a1), (2, .int a2), (3, .int y3)] [] 61) : ∀ (n : Nat) (x3 : Int32) (x4 : Int32) (hs : Hs), L_X9_lacksAbove_5 a0 a1 a2 k_5_61 n x3 x4 hs = some (o, hs') → WG G p l e { frames := 0, cells := 0, slots := 0, locals := 0 } s m args below meth c 5 0 0 (vx_MQ below (QcT G o hs' tvI) (XCT G o hs') args s 0 0 (gA G)) hs [(0, va_rf a0), (1, .int a1), (2, .int a2), (3, .int x3), (4, .int x4)] [] 5 := by
  intro n
  induction n with
  | zero =>
    intro x3 x4 hs h
    rw [L_X9_lacksAbove_5] at h
    exact absurd h failO_e
  | succ n hrec_5 =>
    intro x3 x4 hs h
    rw [L_X9_lacksAbove_5] at h
    refine q_iload C 4 dX9_lacksAbove_5 rfl ?_
    refine q_aload_n C 0 dX9_lacksAbove_7 rfl ?_
    refine q_gI C fl_X9_84 dX9_lacksAbove_8 h (fun v3 h => ?_)
    refine q_icmp_ge C 61 dX9_lacksAbove_11 (by decide) h (fun h => ?_) (fun h => ?_)
    · refine WG.sub [0, 1, 2, 3] rfl ?_
      exact hk_5_61 _ _ h
    · refine q_iload_n C 3 dX9_lacksAbove_14 rfl ?_
      refine q_aload_n C 0 dX9_lacksAbove_15 rfl ?_
      refine q_gR C fl_X9_44 dX9_lacksAbove_16 h (fun v4 h => ?_)
      refine q_iload C 4 dX9_lacksAbove_19 rfl ?_
      refine q_iald C dX9_lacksAbove_21 h (fun v5 h => ?_)
      refine q_iload_n C 1 dX9_lacksAbove_22 rfl ?_
      refine q_icmp_ne C 52 dX9_lacksAbove_23 (by decide) h (fun h => ?_) (fun h => ?_)
      · refine WG.sub [0, 1, 2, 4] rfl ?_
        exact w_j_X9_lacksAbove_52 C C2 _ _ _ _ _ _ hrec_5 h
      · refine q_aload_n C 0 dX9_lacksAbove_26 rfl ?_
        refine q_gR C fl_X9_25 dX9_lacksAbove_27 h (fun v8 h => ?_)
        refine q_aload_n C 0 dX9_lacksAbove_30 rfl ?_
        refine q_gR C fl_X9_38 dX9_lacksAbove_31 h (fun v9 h => ?_)
        refine q_iload C 4 dX9_lacksAbove_34 rfl ?_
        refine q_iald C dX9_lacksAbove_36 h (fun v10 h => ?_)
        refine q_iald C dX9_lacksAbove_37 h (fun v11 h => ?_)
        refine q_iload_n C 2 dX9_lacksAbove_38 rfl ?_
        refine q_icmp_le C 52 dX9_lacksAbove_39 (by decide) h (fun h => ?_) (fun h => ?_)
        · refine WG.sub [0, 1, 2, 4] rfl ?_
          exact w_j_X9_lacksAbove_52 C C2 _ _ _ _ _ _ hrec_5 h
        · refine q_aload_n C 0 dX9_lacksAbove_42 rfl ?_
          refine q_gR C fl_X9_47 dX9_lacksAbove_43 h (fun v12 h => ?_)
          refine q_iload C 4 dX9_lacksAbove_46 rfl ?_
          refine q_iald C dX9_lacksAbove_48 h (fun v13 h => ?_)
          refine q_goto C 53 dX9_lacksAbove_49 (by decide) ?_
          refine WG.sub [0, 1, 2, 4] rfl ?_
          exact w_j_X9_lacksAbove_53 C C2 _ _ _ _ _ _ _ hrec_5 h
def j_X9_lacksAbove_112 (a0 : Option Nat) (a1 : Int32) (a2 : Int32) (a4 : Int32) (s0 : Int32) (s1 : Int32) (rec_64 : Int32 → Int32 → OO Int32) : OO Int32 :=
  lets (s1 - s0) fun (v19 : Int32) =>
    lets (a4 + (1 : Int32)) fun (v20 : Int32) =>
    rec_64 v19 v20
set_option maxRecDepth 100000 in
set_option maxHeartbeats 4000000 in
theorem w_j_X9_lacksAbove_112 (C : Cx G l p s m args c RX9 cX9_lacksAbove 5) (C2 : Cy meth c (some .int)) {hs : Hs} (a0 : Option Nat) (a1 : Int32) (a2 : Int32) (a4 : Int32) (s0 : Int32) (s1 : Int32) (rec_64 : Int32 → Int32 → OO Int32) (hrec_64 : ∀ (y3 : Int32) (y4 : Int32) hs, rec_64 y3 y4 hs = some (o, hs') → WG G p l e { frames := 0, cells := 0, slots := 0, locals := 0 } s m args below meth c 5 0 0 (vx_MQ below (QcT G o hs' tvI) (XCT G o hs') args s 0 0 (gA G)) hs [(0, va_rf a0), (1, .int a1), (2, .int a2), (3, .int y3), (4, .int y4)] [] 64) (h : j_X9_lacksAbove_112 a0 a1 a2 a4 s0 s1 rec_64 hs = some (o, hs')) : WG G p l e { frames := 0, cells := 0, slots := 0, locals := 0 } s m args below meth c 5 0 0 (vx_MQ below (QcT G o hs' tvI) (XCT G o hs') args s 0 0 (gA G)) hs [(0, va_rf a0), (1, .int a1), (2, .int a2), (4, .int a4)] [.int s0, .int s1] 112 := by
  unfold j_X9_lacksAbove_112 at h
  refine q_isub C dX9_lacksAbove_112 ?_
  refine q_istore_n C (fun v19 => [(3, .int v19), (0, va_rf a0), (1, .int a1), (2, .int a2), (4, .int a4)]) dX9_lacksAbove_113 (by decide) (fun _ => rfl) h (fun v19 h => ?_)
  refine q_iinc C 4 (1 : Int32) (fun v20 => [(4, .int v20), (3, .int v19), (0, va_rf a0), (1, .int a1), (2, .int a2)]) dX9_lacksAbove_114 rfl (by decide) (by decide) (fun _ => rfl) h (fun v20 h => ?_)
  refine q_goto C 64 dX9_lacksAbove_117 (by decide) ?_
  refine WG.sub [2, 3, 4, 1, 0] rfl ?_
  exact hrec_64 _ _ _ h
def j_X9_lacksAbove_111 (a0 : Option Nat) (a1 : Int32) (a2 : Int32) (a4 : Int32) (s0 : Int32) (rec_64 : Int32 → Int32 → OO Int32) : OO Int32 :=
  j_X9_lacksAbove_112 a0 a1 a2 a4 (0 : Int32) s0 rec_64
set_option maxRecDepth 100000 in
set_option maxHeartbeats 4000000 in
theorem w_j_X9_lacksAbove_111 (C : Cx G l p s m args c RX9 cX9_lacksAbove 5) (C2 : Cy meth c (some .int)) {hs : Hs} (a0 : Option Nat) (a1 : Int32) (a2 : Int32) (a4 : Int32) (s0 : Int32) (rec_64 : Int32 → Int32 → OO Int32) (hrec_64 : ∀ (y3 : Int32) (y4 : Int32) hs, rec_64 y3 y4 hs = some (o, hs') → WG G p l e { frames := 0, cells := 0, slots := 0, locals := 0 } s m args below meth c 5 0 0 (vx_MQ below (QcT G o hs' tvI) (XCT G o hs') args s 0 0 (gA G)) hs [(0, va_rf a0), (1, .int a1), (2, .int a2), (3, .int y3), (4, .int y4)] [] 64) (h : j_X9_lacksAbove_111 a0 a1 a2 a4 s0 rec_64 hs = some (o, hs')) : WG G p l e { frames := 0, cells := 0, slots := 0, locals := 0 } s m args below meth c 5 0 0 (vx_MQ below (QcT G o hs' tvI) (XCT G o hs') args s 0 0 (gA G)) hs [(0, va_rf a0), (1, .int a1), (2, .int a2), (4, .int a4)] [.int s0] 111 := by
  unfold j_X9_lacksAbove_111 at h
  refine q_iconst C (0 : Int32) dX9_lacksAbove_111 (by decide) ?_
  exact w_j_X9_lacksAbove_112 C C2 _ _ _ _ _ _ _ hrec_64 h
def L_X9_lacksAbove_64 (a0 : Option Nat) (a1 : Int32) (a2 : Int32) (k_64_120 : Int32 → OO Int32) : Nat → Int32 → Int32 → OO Int32
  | 0, _, _ => failO
  | n + 1, x3, x4 =>
    gI a0 12 21 fun v16 =>
    (if v16 ≤ x4 then
    k_64_120 x3
    else
    gR a0 12 1 fun v17 =>
    ldI 0 v17 x4 fun v18 =>
    (if ¬ v18 = a1 then
    j_X9_lacksAbove_111 a0 a1 a2 x4 x3 (L_X9_lacksAbove_64 a0 a1 a2 k_64_120 n)
    else
    gR a0 12 7 fun v21 =>
    ldI 1 v21 x4 fun v22 =>
    (if ¬ v22 = 0 then
    j_X9_lacksAbove_111 a0 a1 a2 x4 x3 (L_X9_lacksAbove_64 a0 a1 a2 k_64_120 n)
    else
    gR a0 12 2 fun v23 =>
    ldI 0 v23 x4 fun v24 =>
    (if v24 ≤ a2 then
    j_X9_lacksAbove_111 a0 a1 a2 x4 x3 (L_X9_lacksAbove_64 a0 a1 a2 k_64_120 n)
    else
    j_X9_lacksAbove_112 a0 a1 a2 x4 (30 : Int32) x3 (L_X9_lacksAbove_64 a0 a1 a2 k_64_120 n)))))
set_option maxRecDepth 100000 in
set_option maxHeartbeats 4000000 in
theorem w_L_X9_lacksAbove_64 (C : Cx G l p s m args c RX9 cX9_lacksAbove 5) (C2 : Cy meth c (some .int)) (a0 : Option Nat) (a1 : Int32) (a2 : Int32) (k_64_120 : Int32 → OO Int32) (hk_64_120 : ∀ (y3 : Int32) hs, k_64_120 y3 hs = some (o, hs') → WG G p l e { frames := 0, cells := 0, slots := 0, locals := 0 } s m args below meth c 5 0 0 (vx_MQ below (QcT G o hs' tvI) (XCT G o hs') args s 0 0 (gA G)) hs [(3, .int y3)] [] 120) : ∀ (n : Nat) (x3 : Int32) (x4 : Int32) (hs : Hs), L_X9_lacksAbove_64 a0 a1 a2 k_64_120 n x3 x4 hs = some (o, hs') → WG G p l e { frames := 0, cells := 0, slots := 0, locals := 0 } s m args below meth c 5 0 0 (vx_MQ below (QcT G o hs' tvI) (XCT G o hs') args s 0 0 (gA G)) hs [(0, va_rf a0), (1, .int a1), (2, .int a2), (3, .int x3), (4, .int x4)] [] 64 := by
  intro n
  induction n with
  | zero =>
    intro x3 x4 hs h
    rw [L_X9_lacksAbove_64] at h
    exact absurd h failO_e
  | succ n hrec_64 =>
    intro x3 x4 hs h
    rw [L_X9_lacksAbove_64] at h
    refine q_iload C 4 dX9_lacksAbove_64 rfl ?_
    refine q_aload_n C 0 dX9_lacksAbove_66 rfl ?_
    refine q_gI C fl_X9_75 dX9_lacksAbove_67 h (fun v16 h => ?_)
    refine q_icmp_ge C 120 dX9_lacksAbove_70 (by decide) h (fun h => ?_) (fun h => ?_)
    · refine WG.sub [3] rfl ?_
      exact hk_64_120 _ _ h
    · refine q_iload_n C 3 dX9_lacksAbove_73 rfl ?_
      refine q_aload_n C 0 dX9_lacksAbove_74 rfl ?_
      refine q_gR C fl_X9_13 dX9_lacksAbove_75 h (fun v17 h => ?_)
      refine q_iload C 4 dX9_lacksAbove_78 rfl ?_
      refine q_iald C dX9_lacksAbove_80 h (fun v18 h => ?_)
      refine q_iload_n C 1 dX9_lacksAbove_81 rfl ?_
      refine q_icmp_ne C 111 dX9_lacksAbove_82 (by decide) h (fun h => ?_) (fun h => ?_)
      · refine WG.sub [0, 1, 2, 4] rfl ?_
        exact w_j_X9_lacksAbove_111 C C2 _ _ _ _ _ _ hrec_64 h
      · refine q_aload_n C 0 dX9_lacksAbove_85 rfl ?_
        refine q_gR C fl_X9_31 dX9_lacksAbove_86 h (fun v21 h => ?_)
        refine q_iload C 4 dX9_lacksAbove_89 rfl ?_
        refine q_zald C dX9_lacksAbove_91 h (fun v22 h => ?_)
        refine q_if_ne C 111 dX9_lacksAbove_92 (by decide) h (fun h => ?_) (fun h => ?_)
        · refine WG.sub [0, 1, 2, 4] rfl ?_
          exact w_j_X9_lacksAbove_111 C C2 _ _ _ _ _ _ hrec_64 h
        · refine q_aload_n C 0 dX9_lacksAbove_95 rfl ?_
          refine q_gR C fl_X9_16 dX9_lacksAbove_96 h (fun v23 h => ?_)
          refine q_iload C 4 dX9_lacksAbove_99 rfl ?_
          refine q_iald C dX9_lacksAbove_101 h (fun v24 h => ?_)
          refine q_iload_n C 2 dX9_lacksAbove_102 rfl ?_
          refine q_icmp_le C 111 dX9_lacksAbove_103 (by decide) h (fun h => ?_) (fun h => ?_)
          · refine WG.sub [0, 1, 2, 4] rfl ?_
            exact w_j_X9_lacksAbove_111 C C2 _ _ _ _ _ _ hrec_64 h
          · refine q_bipush C (30 : Int32) dX9_lacksAbove_106 (by decide) ?_
            refine q_goto C 112 dX9_lacksAbove_108 (by decide) ?_
            refine WG.sub [0, 1, 2, 4] rfl ?_
            exact w_j_X9_lacksAbove_112 C C2 _ _ _ _ _ _ _ hrec_64 h
end M_X9_lacksAbove
def f_X9_lacksAbove (a0 : Nat) (p1 : Int32) (p2 : Int32) : OO Int32 :=
    lets (0 : Int32) fun (v1 : Int32) =>
    lets (0 : Int32) fun (v2 : Int32) =>
    L_X9_lacksAbove_5 (some a0) p1 p2 (fun (v14 : Int32) => lets (0 : Int32) fun (v15 : Int32) =>
    L_X9_lacksAbove_64 (some a0) p1 p2 (fun (v25 : Int32) => rtn v25) 100000 v14 v15) 100000 v1 v2
set_option maxRecDepth 100000 in
set_option maxHeartbeats 4000000 in
theorem m_X9_lacksAbove {G : GG} {l : Launch} {a0 : Nat} {p1 : Int32} {p2 : Int32} {hs hs' : Hs} {o : Except Nat Int32} (h : f_X9_lacksAbove a0 p1 p2 hs = some (o, hs')) : CT G l yX9_lacksAbove cX9_lacksAbove 5 (some .int) 0 0 0 0 [.ref a0, .int p1, .int p2] hs o hs' tvI := by
  refine vx_ofW (cc := cX9_lacksAbove) (maxL := 5) (ret := (some .int)) (by decide +kernel) rfl ?_
  intro p e s m args below meth c s₁ B hml hxt hv
  obtain ⟨hav, hR, hKn⟩ := hv
  subst hav
  have hts := atoms_spec (ws := .code yX9_lacksAbove cX9_lacksAbove 5 (some .int) :: Tg) B.pre
  have C : Cx G l p s m _ c RX9 cX9_lacksAbove 5 := ⟨B.exec, B.bytes, hml, findClass_of_methodNamed B.named, fun w hw => hts w (List.mem_cons_of_mem _ hw), hKn, fun q hq => Nat.le_trans hR.2.2.1 hq⟩
  have C2 : Cy meth c (some .int) := ⟨B.returns, B.notSynchronized, hxt⟩
  have key : WG G p l e { frames := 0, cells := 0, slots := 0, locals := 0 } s m ([.ref a0, .int p1, .int p2] : List Value).toArray below meth c 5 0 0 (vx_MQ below (QcT G o hs' tvI) (XCT G o hs') ([.ref a0, .int p1, .int p2] : List Value).toArray s 0 0 (gA G)) hs [(0, va_rf (some a0)), (1, .int p1), (2, .int p2)] [] 0 := by
    unfold f_X9_lacksAbove at h
    refine q_iconst C (0 : Int32) dX9_lacksAbove_0 (by decide) ?_
    refine q_istore_n C (fun v1 => [(3, .int v1), (0, va_rf (some a0)), (1, .int p1), (2, .int p2)]) dX9_lacksAbove_1 (by decide) (fun _ => rfl) h (fun v1 h => ?_)
    refine q_iconst C (0 : Int32) dX9_lacksAbove_2 (by decide) ?_
    refine q_istore C (fun v2 => [(4, .int v2), (3, .int v1), (0, va_rf (some a0)), (1, .int p1), (2, .int p2)]) dX9_lacksAbove_3 (by decide) (fun _ => rfl) h (fun v2 h => ?_)
    refine WG.sub [2, 3, 4, 1, 0] rfl ?_
    refine w_L_X9_lacksAbove_5 C C2 _ _ _ _ ?_ _ _ _ _ h
    · intro v14 hs h
      refine q_iconst C (0 : Int32) dX9_lacksAbove_61 (by decide) ?_
      refine q_istore C (fun v15 => [(4, .int v15), (0, va_rf (some a0)), (1, .int p1), (2, .int p2), (3, .int v14)]) dX9_lacksAbove_62 (by decide) (fun _ => rfl) h (fun v15 h => ?_)
      refine WG.sub [1, 2, 3, 4, 0] rfl ?_
      refine w_L_X9_lacksAbove_64 C C2 _ _ _ _ ?_ _ _ _ _ h
      · intro v25 hs h
        refine q_iload_n C 0 dX9_lacksAbove_120 rfl ?_
        exact q_iret C C2 rfl (Nat.le_of_ble_eq_true rfl) (Nat.le_of_ble_eq_true rfl) dX9_lacksAbove_121 h
  rw [lg_entry_eq]
  exact key _ _ _ hR va_S.rf ⟨lv_entry _ (n := 5) (Nat.le_of_ble_eq_true rfl), (c1_r (c1_i (c1_i c1_n)))⟩

theorem cd_X9_lacking : Cond.code yX9_lacking cX9_lacking 4 (some .int) ∈ Tg := Tg_of (i := 1857) (by decide +kernel) (by decide +kernel)
theorem ml_X9_238 : Cond.methodLink RX9 238 yX9_lacksAbove ∈ Tg := Tg_of (i := 1858) (by decide +kernel) (by decide +kernel)
theorem lk_X9_238 : Lk RX9 238 yX9_lacksAbove cX9_lacksAbove 5 (some .int) 2 := ⟨ml_X9_238, cd_X9_lacksAbove, iw_X9, by decide +kernel⟩
theorem im_X9_lacksAbove : Cond.instanceMethod yX9_lacksAbove ∈ Tg := Tg_of (i := 1860) (by decide +kernel) (by decide +kernel)
theorem se_X9_X9_lacksAbove : Cond.selects RX9 yX9_lacksAbove yX9_lacksAbove ∈ Tg := Tg_of (i := 74) (by decide +kernel) (by decide +kernel)
section M_X9_lacking
variable {p : Program} {l : Launch} {e : Env} {s : State} {m : MethodId} {args : Array Value} {below : List Frame} {meth : Method} {c : Code} {G : GG} {o : Except Nat Int32} {hs' : Hs}
def j_X9_lacking_45 (a0 : Option Nat) (a1 : Int32) (a3 : Int32) (s0 : Int32) (rec_19 : Int32 → Int32 → OO Int32) : OO Int32 :=
  lets s0 fun (v6 : Int32) =>
    lets (a3 + (1 : Int32)) fun (v7 : Int32) =>
    rec_19 v6 v7
set_option maxRecDepth 100000 in
set_option maxHeartbeats 4000000 in
theorem w_j_X9_lacking_45 (C : Cx G l p s m args c RX9 cX9_lacking 4) (C2 : Cy meth c (some .int)) {hs : Hs} (a0 : Option Nat) (a1 : Int32) (a3 : Int32) (s0 : Int32) (rec_19 : Int32 → Int32 → OO Int32) (hrec_19 : ∀ (y2 : Int32) (y3 : Int32) hs, rec_19 y2 y3 hs = some (o, hs') → WG G p l e { frames := 1, cells := 0, slots := 0, locals := 24 } s m args below meth c 4 0 0 (vx_MQ below (QcT G o hs' tvI) (XCT G o hs') args s 0 0 (gA G)) hs [(0, va_rf a0), (1, .int a1), (2, .int y2), (3, .int y3)] [] 19) (h : j_X9_lacking_45 a0 a1 a3 s0 rec_19 hs = some (o, hs')) : WG G p l e { frames := 1, cells := 0, slots := 0, locals := 24 } s m args below meth c 4 0 0 (vx_MQ below (QcT G o hs' tvI) (XCT G o hs') args s 0 0 (gA G)) hs [(0, va_rf a0), (1, .int a1), (3, .int a3)] [.int s0] 45 := by
  unfold j_X9_lacking_45 at h
  refine q_istore_n C (fun v6 => [(2, .int v6), (0, va_rf a0), (1, .int a1), (3, .int a3)]) dX9_lacking_45 (by decide) (fun _ => rfl) h (fun v6 h => ?_)
  refine q_iinc C 3 (1 : Int32) (fun v7 => [(3, .int v7), (2, .int v6), (0, va_rf a0), (1, .int a1)]) dX9_lacking_46 rfl (by decide) (by decide) (fun _ => rfl) h (fun v7 h => ?_)
  refine q_goto C 19 dX9_lacking_49 (by decide) ?_
  refine WG.sub [2, 3, 1, 0] rfl ?_
  exact hrec_19 _ _ _ h
def L_X9_lacking_19 (a0 : Option Nat) (a1 : Int32) (k_19_52 : Int32 → OO Int32) : Nat → Int32 → Int32 → OO Int32
  | 0, _, _ => failO
  | n + 1, x2, x3 =>
    (if (100 : Int32) ≤ x3 then
    k_19_52 x2
    else
    rcv a0 12 fun r10 => call (f_X9_lacksAbove r10 a1 x3) (fun (v5 : Int32) =>
    (if v5 ≤ x2 then
    j_X9_lacking_45 a0 a1 x3 x2 (L_X9_lacking_19 a0 a1 k_19_52 n)
    else
    rcv a0 12 fun r9 => call (f_X9_lacksAbove r9 a1 x3) (fun (v8 : Int32) =>
    j_X9_lacking_45 a0 a1 x3 v8 (L_X9_lacking_19 a0 a1 k_19_52 n)) nox)) nox)
set_option maxRecDepth 100000 in
set_option maxHeartbeats 4000000 in
theorem w_L_X9_lacking_19 (C : Cx G l p s m args c RX9 cX9_lacking 4) (C2 : Cy meth c (some .int)) (a0 : Option Nat) (a1 : Int32) (k_19_52 : Int32 → OO Int32) (hk_19_52 : ∀ (y2 : Int32) hs, k_19_52 y2 hs = some (o, hs') → WG G p l e { frames := 1, cells := 0, slots := 0, locals := 24 } s m args below meth c 4 0 0 (vx_MQ below (QcT G o hs' tvI) (XCT G o hs') args s 0 0 (gA G)) hs [(2, .int y2)] [] 52) : ∀ (n : Nat) (x2 : Int32) (x3 : Int32) (hs : Hs), L_X9_lacking_19 a0 a1 k_19_52 n x2 x3 hs = some (o, hs') → WG G p l e { frames := 1, cells := 0, slots := 0, locals := 24 } s m args below meth c 4 0 0 (vx_MQ below (QcT G o hs' tvI) (XCT G o hs') args s 0 0 (gA G)) hs [(0, va_rf a0), (1, .int a1), (2, .int x2), (3, .int x3)] [] 19 := by
  intro n
  induction n with
  | zero =>
    intro x2 x3 hs h
    rw [L_X9_lacking_19] at h
    exact absurd h failO_e
  | succ n hrec_19 =>
    intro x2 x3 hs h
    rw [L_X9_lacking_19] at h
    refine q_iload_n C 3 dX9_lacking_19 rfl ?_
    refine q_bipush C (100 : Int32) dX9_lacking_20 (by decide) ?_
    refine q_icmp_ge C 52 dX9_lacking_22 (by decide) h (fun h => ?_) (fun h => ?_)
    · refine WG.sub [2] rfl ?_
      exact hk_19_52 _ _ h
    · refine q_aload_n C 0 dX9_lacking_25 rfl ?_
      refine q_iload_n C 1 dX9_lacking_26 rfl ?_
      refine q_iload_n C 3 dX9_lacking_27 rfl ?_
      refine q_callV C (CN := RX9) (T := TX9) (N := 28) [.int a1, .int x3] [] (fun a0 o2 hs1 hm => m_X9_lacksAbove hm) lk_X9_238 im_X9_lacksAbove se_X9_X9_lacksAbove rfl ⟨(Nat.le_of_ble_eq_true rfl), (Nat.le_of_ble_eq_true rfl)⟩ ⟨(Nat.le_of_ble_eq_true rfl), (Nat.le_of_ble_eq_true rfl)⟩ rfl rfl (by decide) dX9_lacking_28 h (fun v5 hs h => WG_st (st' := [.int v5]) rfl ?_)
      refine q_iload_n C 2 dX9_lacking_31 rfl ?_
      refine q_icmp_le C 44 dX9_lacking_32 (by decide) h (fun h => ?_) (fun h => ?_)
      · refine q_iload_n C 2 dX9_lacking_44 rfl ?_
        refine WG.sub [0, 1, 3] rfl ?_
        exact w_j_X9_lacking_45 C C2 _ _ _ _ _ hrec_19 h
      · refine q_aload_n C 0 dX9_lacking_35 rfl ?_
        refine q_iload_n C 1 dX9_lacking_36 rfl ?_
        refine q_iload_n C 3 dX9_lacking_37 rfl ?_
        refine q_callV C (CN := RX9) (T := TX9) (N := 28) [.int a1, .int x3] [] (fun a0 o2 hs1 hm => m_X9_lacksAbove hm) lk_X9_238 im_X9_lacksAbove se_X9_X9_lacksAbove rfl ⟨(Nat.le_of_ble_eq_true rfl), (Nat.le_of_ble_eq_true rfl)⟩ ⟨(Nat.le_of_ble_eq_true rfl), (Nat.le_of_ble_eq_true rfl)⟩ rfl rfl (by decide) dX9_lacking_38 h (fun v8 hs h => WG_st (st' := [.int v8]) rfl ?_)
        refine q_goto C 45 dX9_lacking_41 (by decide) ?_
        refine WG.sub [0, 1, 3] rfl ?_
        exact w_j_X9_lacking_45 C C2 _ _ _ _ _ hrec_19 h
end M_X9_lacking
def f_X9_lacking (a0 : Nat) (p1 : Int32) : OO Int32 :=
    call (f_X9_in p1 (0 : Int32) (3 : Int32)) (fun (v1 : Int32) =>
    rcv (some a0) 12 fun r12 => call (f_X9_checked r12 v1) (fun (v2 : Int32) =>
    (if v2 ≤ 0 then
    lets (0 : Int32) fun (v3 : Int32) =>
    lets (0 : Int32) fun (v4 : Int32) =>
    L_X9_lacking_19 (some a0) p1 (fun (v11 : Int32) => rtn v11) 100000 v3 v4
    else
    rtn (0 : Int32))) nox) nox
set_option maxRecDepth 100000 in
set_option maxHeartbeats 4000000 in
theorem m_X9_lacking {G : GG} {l : Launch} {a0 : Nat} {p1 : Int32} {hs hs' : Hs} {o : Except Nat Int32} (h : f_X9_lacking a0 p1 hs = some (o, hs')) : CT G l yX9_lacking cX9_lacking 4 (some .int) 1 24 0 0 [.ref a0, .int p1] hs o hs' tvI := by
  refine vx_ofW (cc := cX9_lacking) (maxL := 4) (ret := (some .int)) (by decide +kernel) rfl ?_
  intro p e s m args below meth c s₁ B hml hxt hv
  obtain ⟨hav, hR, hKn⟩ := hv
  subst hav
  have hts := atoms_spec (ws := .code yX9_lacking cX9_lacking 4 (some .int) :: Tg) B.pre
  have C : Cx G l p s m _ c RX9 cX9_lacking 4 := ⟨B.exec, B.bytes, hml, findClass_of_methodNamed B.named, fun w hw => hts w (List.mem_cons_of_mem _ hw), hKn, fun q hq => Nat.le_trans hR.2.2.1 hq⟩
  have C2 : Cy meth c (some .int) := ⟨B.returns, B.notSynchronized, hxt⟩
  have key : WG G p l e { frames := 1, cells := 0, slots := 0, locals := 24 } s m ([.ref a0, .int p1] : List Value).toArray below meth c 4 0 0 (vx_MQ below (QcT G o hs' tvI) (XCT G o hs') ([.ref a0, .int p1] : List Value).toArray s 0 0 (gA G)) hs [(0, va_rf (some a0)), (1, .int p1)] [] 0 := by
    unfold f_X9_lacking at h
    refine q_aload_n C 0 dX9_lacking_0 rfl ?_
    refine q_iload_n C 1 dX9_lacking_1 rfl ?_
    refine q_iconst C (0 : Int32) dX9_lacking_2 (by decide) ?_
    refine q_iconst C (3 : Int32) dX9_lacking_3 (by decide) ?_
    refine q_callS C [.int p1, .int (0 : Int32), .int (3 : Int32)] [va_rf (some a0)] (fun o2 hs1 hm => m_X9_in hm) lk_X9_96 sm_X9_in ⟨(Nat.le_of_ble_eq_true rfl), (Nat.le_of_ble_eq_true rfl)⟩ ⟨(Nat.le_of_ble_eq_true rfl), (Nat.le_of_ble_eq_true rfl)⟩ rfl rfl (by simp only [List.map, cat_rf, cat_i, cat_a]; decide) dX9_lacking_4 h (fun v1 hs h => WG_st (st' := [.int v1, va_rf (some a0)]) rfl ?_)
    refine q_callV C (CN := RX9) (T := TX9) (N := 28) [.int v1] [] (fun a0 o2 hs1 hm => m_X9_checked hm) lk_X9_110 im_X9_checked se_X9_X9_checked rfl ⟨(Nat.le_of_ble_eq_true rfl), (Nat.le_of_ble_eq_true rfl)⟩ ⟨(Nat.le_of_ble_eq_true rfl), (Nat.le_of_ble_eq_true rfl)⟩ rfl rfl (by decide) dX9_lacking_7 h (fun v2 hs h => WG_st (st' := [.int v2]) rfl ?_)
    refine q_if_le C 15 dX9_lacking_10 (by decide) h (fun h => ?_) (fun h => ?_)
    · refine q_iconst C (0 : Int32) dX9_lacking_15 (by decide) ?_
      refine q_istore_n C (fun v3 => [(2, .int v3), (0, va_rf (some a0)), (1, .int p1)]) dX9_lacking_16 (by decide) (fun _ => rfl) h (fun v3 h => ?_)
      refine q_iconst C (0 : Int32) dX9_lacking_17 (by decide) ?_
      refine q_istore_n C (fun v4 => [(3, .int v4), (2, .int v3), (0, va_rf (some a0)), (1, .int p1)]) dX9_lacking_18 (by decide) (fun _ => rfl) h (fun v4 h => ?_)
      refine WG.sub [2, 3, 1, 0] rfl ?_
      refine w_L_X9_lacking_19 C C2 _ _ _ ?_ _ _ _ _ h
      · intro v11 hs h
        refine q_iload_n C 0 dX9_lacking_52 rfl ?_
        exact q_iret C C2 rfl (Nat.le_of_ble_eq_true rfl) (Nat.le_of_ble_eq_true rfl) dX9_lacking_53 h
    · refine q_iconst C (0 : Int32) dX9_lacking_13 (by decide) ?_
      exact q_iret C C2 rfl (Nat.le_of_ble_eq_true rfl) (Nat.le_of_ble_eq_true rfl) dX9_lacking_14 h
  rw [lg_entry_eq]
  exact key _ _ _ hR va_S.rf ⟨lv_entry _ (n := 4) (Nat.le_of_ble_eq_true rfl), (c1_r (c1_i c1_n))⟩

theorem cd_X9_lackingBySeats : Cond.code yX9_lackingBySeats cX9_lackingBySeats 2 (some .int) ∈ Tg := Tg_of (i := 1865) (by decide +kernel) (by decide +kernel)
theorem ml_X9_241 : Cond.methodLink RX9 241 yX9_lacking ∈ Tg := Tg_of (i := 1866) (by decide +kernel) (by decide +kernel)
theorem lk_X9_241 : Lk RX9 241 yX9_lacking cX9_lacking 4 (some .int) 1 := ⟨ml_X9_241, cd_X9_lacking, iw_X9, by decide +kernel⟩
theorem im_X9_lacking : Cond.instanceMethod yX9_lacking ∈ Tg := Tg_of (i := 1855) (by decide +kernel) (by decide +kernel)
theorem se_X9_X9_lacking : Cond.selects RX9 yX9_lacking yX9_lacking ∈ Tg := Tg_of (i := 1856) (by decide +kernel) (by decide +kernel)
section M_X9_lackingBySeats
variable {p : Program} {l : Launch} {e : Env} {s : State} {m : MethodId} {args : Array Value} {below : List Frame} {meth : Method} {c : Code} {G : GG} {o : Except Nat Int32} {hs' : Hs}
end M_X9_lackingBySeats
def f_X9_lackingBySeats (a0 : Nat) (p1 : Int32) : OO Int32 :=
    rcv (some a0) 12 fun r2 => call (f_X9_lacking r2 p1) (fun (v1 : Int32) =>
    rtn v1) nox
set_option maxRecDepth 100000 in
set_option maxHeartbeats 4000000 in
theorem m_X9_lackingBySeats {G : GG} {l : Launch} {a0 : Nat} {p1 : Int32} {hs hs' : Hs} {o : Except Nat Int32} (h : f_X9_lackingBySeats a0 p1 hs = some (o, hs')) : CT G l yX9_lackingBySeats cX9_lackingBySeats 2 (some .int) 2 47 0 0 [.ref a0, .int p1] hs o hs' tvI := by
  refine vx_ofW (cc := cX9_lackingBySeats) (maxL := 2) (ret := (some .int)) (by decide +kernel) rfl ?_
  intro p e s m args below meth c s₁ B hml hxt hv
  obtain ⟨hav, hR, hKn⟩ := hv
  subst hav
  have hts := atoms_spec (ws := .code yX9_lackingBySeats cX9_lackingBySeats 2 (some .int) :: Tg) B.pre
  have C : Cx G l p s m _ c RX9 cX9_lackingBySeats 2 := ⟨B.exec, B.bytes, hml, findClass_of_methodNamed B.named, fun w hw => hts w (List.mem_cons_of_mem _ hw), hKn, fun q hq => Nat.le_trans hR.2.2.1 hq⟩
  have C2 : Cy meth c (some .int) := ⟨B.returns, B.notSynchronized, hxt⟩
  have key : WG G p l e { frames := 2, cells := 0, slots := 0, locals := 47 } s m ([.ref a0, .int p1] : List Value).toArray below meth c 2 0 0 (vx_MQ below (QcT G o hs' tvI) (XCT G o hs') ([.ref a0, .int p1] : List Value).toArray s 0 0 (gA G)) hs [(0, va_rf (some a0)), (1, .int p1)] [] 0 := by
    unfold f_X9_lackingBySeats at h
    refine q_aload_n C 0 dX9_lackingBySeats_0 rfl ?_
    refine q_iload_n C 1 dX9_lackingBySeats_1 rfl ?_
    refine q_callV C (CN := RX9) (T := TX9) (N := 28) [.int p1] [] (fun a0 o2 hs1 hm => m_X9_lacking hm) lk_X9_241 im_X9_lacking se_X9_X9_lacking rfl ⟨(Nat.le_of_ble_eq_true rfl), (Nat.le_of_ble_eq_true rfl)⟩ ⟨(Nat.le_of_ble_eq_true rfl), (Nat.le_of_ble_eq_true rfl)⟩ rfl rfl (by decide) dX9_lackingBySeats_2 h (fun v1 hs h => WG_st (st' := [.int v1]) rfl ?_)
    exact q_iret C C2 rfl (Nat.le_of_ble_eq_true rfl) (Nat.le_of_ble_eq_true rfl) dX9_lackingBySeats_5 h
  rw [lg_entry_eq]
  exact key _ _ _ hR va_S.rf ⟨lv_entry _ (n := 2) (Nat.le_of_ble_eq_true rfl), (c1_r (c1_i c1_n))⟩

theorem cd_X9_repairs : Cond.code yX9_repairs cX9_repairs 4 (some .int) ∈ Tg := Tg_of (i := 1878) (by decide +kernel) (by decide +kernel)
section M_X9_repairs
variable {p : Program} {l : Launch} {e : Env} {s : State} {m : MethodId} {args : Array Value} {below : List Frame} {meth : Method} {c : Code} {G : GG} {o : Except Nat Int32} {hs' : Hs}
def j_X9_repairs_35 (a0 : Option Nat) (a1 : Option Nat) (a2 : Int32) (a3 : Int32)  (rec_4 : Int32 → OO Int32) : OO Int32 :=
  lets (a3 + (1 : Int32)) fun (v7 : Int32) =>
    rec_4 v7
set_option maxRecDepth 100000 in
set_option maxHeartbeats 4000000 in
theorem w_j_X9_repairs_35 (C : Cx G l p s m args c RX9 cX9_repairs 4) (C2 : Cy meth c (some .int)) {hs : Hs} (a0 : Option Nat) (a1 : Option Nat) (a2 : Int32) (a3 : Int32)  (rec_4 : Int32 → OO Int32) (hrec_4 : ∀ (y3 : Int32) hs, rec_4 y3 hs = some (o, hs') → WG G p l e { frames := 9, cells := 0, slots := 0, locals := 207 } s m args below meth c 4 0 0 (vx_MQ below (QcT G o hs' tvI) (XCT G o hs') args s 0 0 (gA G)) hs [(0, va_rf a0), (1, va_rf a1), (2, .int a2), (3, .int y3)] [] 4) (h : j_X9_repairs_35 a0 a1 a2 a3 rec_4 hs = some (o, hs')) : WG G p l e { frames := 9, cells := 0, slots := 0, locals := 207 } s m args below meth c 4 0 0 (vx_MQ below (QcT G o hs' tvI) (XCT G o hs') args s 0 0 (gA G)) hs [(0, va_rf a0), (1, va_rf a1), (2, .int a2), (3, .int a3)] [] 35 := by
  unfold j_X9_repairs_35 at h
  refine q_iinc C 3 (1 : Int32) (fun v7 => [(3, .int v7), (0, va_rf a0), (1, va_rf a1), (2, .int a2)]) dX9_repairs_35 rfl (by decide) (by decide) (fun _ => rfl) h (fun v7 h => ?_)
  refine q_goto C 4 dX9_repairs_38 (by decide) ?_
  refine WG.sub [1, 2, 3, 0] rfl ?_
  exact hrec_4 _ _ h
def L_X9_repairs_4 (a0 : Option Nat) (a1 : Option Nat) (a2 : Int32) (k_4_41 : OO Int32) : Nat → Int32 → OO Int32
  | 0, _ => failO
  | n + 1, x3 =>
    gI a0 12 24 fun v3 =>
    (if v3 ≤ x3 then
    k_4_41
    else
    ldI 1 a1 x3 fun v4 =>
    (if ¬ v4 = 0 then
    gR a0 12 14 fun v5 =>
    stI v5 x3 (-1 : Int32) (
    gR a0 12 8 fun v6 =>
    stZ v6 x3 (0 : Int32) (
    j_X9_repairs_35 a0 a1 a2 x3 (L_X9_repairs_4 a0 a1 a2 k_4_41 n)))
    else
    j_X9_repairs_35 a0 a1 a2 x3 (L_X9_repairs_4 a0 a1 a2 k_4_41 n)))
set_option maxRecDepth 100000 in
set_option maxHeartbeats 4000000 in
theorem w_L_X9_repairs_4 (C : Cx G l p s m args c RX9 cX9_repairs 4) (C2 : Cy meth c (some .int)) (a0 : Option Nat) (a1 : Option Nat) (a2 : Int32) (k_4_41 : OO Int32) (hk_4_41 : ∀ hs, k_4_41  hs = some (o, hs') → WG G p l e { frames := 9, cells := 0, slots := 0, locals := 207 } s m args below meth c 4 0 0 (vx_MQ below (QcT G o hs' tvI) (XCT G o hs') args s 0 0 (gA G)) hs [(0, va_rf a0), (1, va_rf a1), (2, .int a2)] [] 41) : ∀ (n : Nat) (x3 : Int32) (hs : Hs), L_X9_repairs_4 a0 a1 a2 k_4_41 n x3 hs = some (o, hs') → WG G p l e { frames := 9, cells := 0, slots := 0, locals := 207 } s m args below meth c 4 0 0 (vx_MQ below (QcT G o hs' tvI) (XCT G o hs') args s 0 0 (gA G)) hs [(0, va_rf a0), (1, va_rf a1), (2, .int a2), (3, .int x3)] [] 4 := by
  intro n
  induction n with
  | zero =>
    intro x3 hs h
    rw [L_X9_repairs_4] at h
    exact absurd h failO_e
  | succ n hrec_4 =>
    intro x3 hs h
    rw [L_X9_repairs_4] at h
    refine q_iload_n C 3 dX9_repairs_4 rfl ?_
    refine q_aload_n C 0 dX9_repairs_5 rfl ?_
    refine q_gI C fl_X9_84 dX9_repairs_6 h (fun v3 h => ?_)
    refine q_icmp_ge C 41 dX9_repairs_9 (by decide) h (fun h => ?_) (fun h => ?_)
    · refine WG.sub [0, 1, 2] rfl ?_
      exact hk_4_41 _ h
    · refine q_aload_n C 1 dX9_repairs_12 rfl ?_
      refine q_iload_n C 3 dX9_repairs_13 rfl ?_
      refine q_zald C dX9_repairs_14 h (fun v4 h => ?_)
      refine q_if_ne C 21 dX9_repairs_15 (by decide) h (fun h => ?_) (fun h => ?_)
      · refine q_aload_n C 0 dX9_repairs_21 rfl ?_
        refine q_gR C fl_X9_53 dX9_repairs_22 h (fun v5 h => ?_)
        refine q_iload_n C 3 dX9_repairs_25 rfl ?_
        refine q_iconst C (-1 : Int32) dX9_repairs_26 (by decide) ?_
        refine q_iast C dX9_repairs_27 h (fun hs h => ?_)
        refine q_aload_n C 0 dX9_repairs_28 rfl ?_
        refine q_gR C fl_X9_35 dX9_repairs_29 h (fun v6 h => ?_)
        refine q_iload_n C 3 dX9_repairs_32 rfl ?_
        refine q_iconst C (0 : Int32) dX9_repairs_33 (by decide) ?_
        refine q_zast C dX9_repairs_34 h (fun hs h => ?_)
        exact w_j_X9_repairs_35 C C2 _ _ _ _ _ hrec_4 h
      · refine q_goto C 35 dX9_repairs_18 (by decide) ?_
        exact w_j_X9_repairs_35 C C2 _ _ _ _ _ hrec_4 h
def j_X9_repairs_80 (a0 : Option Nat) (a1 : Option Nat) (s0 : Int32) (s1 : Int32) (rec_47 : Int32 → Int32 → OO Int32) : OO Int32 :=
  lets (s1 + s0) fun (v13 : Int32) =>
    rcv a0 12 fun r16 => call (f_X9_hardestOf r16 a1) (fun (v14 : Int32) =>
    lets v14 fun (v15 : Int32) =>
    rec_47 v13 v15) nox
set_option maxRecDepth 100000 in
set_option maxHeartbeats 4000000 in
theorem w_j_X9_repairs_80 (C : Cx G l p s m args c RX9 cX9_repairs 4) (C2 : Cy meth c (some .int)) {hs : Hs} (a0 : Option Nat) (a1 : Option Nat) (s0 : Int32) (s1 : Int32) (rec_47 : Int32 → Int32 → OO Int32) (hrec_47 : ∀ (y2 : Int32) (y3 : Int32) hs, rec_47 y2 y3 hs = some (o, hs') → WG G p l e { frames := 9, cells := 0, slots := 0, locals := 207 } s m args below meth c 4 0 0 (vx_MQ below (QcT G o hs' tvI) (XCT G o hs') args s 0 0 (gA G)) hs [(0, va_rf a0), (1, va_rf a1), (2, .int y2), (3, .int y3)] [] 47) (h : j_X9_repairs_80 a0 a1 s0 s1 rec_47 hs = some (o, hs')) : WG G p l e { frames := 9, cells := 0, slots := 0, locals := 207 } s m args below meth c 4 0 0 (vx_MQ below (QcT G o hs' tvI) (XCT G o hs') args s 0 0 (gA G)) hs [(0, va_rf a0), (1, va_rf a1)] [.int s0, .int s1] 80 := by
  unfold j_X9_repairs_80 at h
  refine q_iadd C dX9_repairs_80 ?_
  refine q_istore_n C (fun v13 => [(2, .int v13), (0, va_rf a0), (1, va_rf a1)]) dX9_repairs_81 (by decide) (fun _ => rfl) h (fun v13 h => ?_)
  refine q_aload_n C 1 dX9_repairs_82 rfl ?_
  refine q_aload_n C 2 dX9_repairs_83 rfl ?_
  refine q_callV C (CN := RX9) (T := TX9) (N := 28) [va_rf a1] [] (fun a0 o2 hs1 hm => m_X9_hardestOf hm) lk_X9_221 im_X9_hardestOf se_X9_X9_hardestOf rfl ⟨(Nat.le_of_ble_eq_true rfl), (Nat.le_of_ble_eq_true rfl)⟩ ⟨(Nat.le_of_ble_eq_true rfl), (Nat.le_of_ble_eq_true rfl)⟩ rfl rfl (by decide) dX9_repairs_84 h (fun v14 hs h => WG_st (st' := [.int v14]) rfl ?_)
  refine q_istore_n C (fun v15 => [(3, .int v15), (2, .int v13), (0, va_rf a0), (1, va_rf a1)]) dX9_repairs_87 (by decide) (fun _ => rfl) h (fun v15 h => ?_)
  refine q_goto C 47 dX9_repairs_88 (by decide) ?_
  refine WG.sub [2, 3, 1, 0] rfl ?_
  exact hrec_47 _ _ _ h
def L_X9_repairs_47 (a0 : Option Nat) (a1 : Option Nat) (k_47_91 : Int32 → OO Int32) : Nat → Int32 → Int32 → OO Int32
  | 0, _, _ => failO
  | n + 1, x2, x3 =>
    (if x3 < 0 then
    k_47_91 x2
    else
    stZ a1 x3 (0 : Int32) (
    gR a0 12 14 fun v10 =>
    rcv a0 12 fun r18 => call (f_X9_cheapestOf r18 x3) (fun (v11 : Int32) =>
    stI v10 x3 v11 (
    rcv a0 12 fun r17 => call (f_X9_isPlaced r17 x3) (fun (v12 : Int32) =>
    (if v12 = 0 then
    j_X9_repairs_80 a0 a1 (1 : Int32) x2 (L_X9_repairs_47 a0 a1 k_47_91 n)
    else
    j_X9_repairs_80 a0 a1 (0 : Int32) x2 (L_X9_repairs_47 a0 a1 k_47_91 n))) nox)) nox))
set_option maxRecDepth 100000 in
set_option maxHeartbeats 4000000 in
theorem w_L_X9_repairs_47 (C : Cx G l p s m args c RX9 cX9_repairs 4) (C2 : Cy meth c (some .int)) (a0 : Option Nat) (a1 : Option Nat) (k_47_91 : Int32 → OO Int32) (hk_47_91 : ∀ (y2 : Int32) hs, k_47_91 y2 hs = some (o, hs') → WG G p l e { frames := 9, cells := 0, slots := 0, locals := 207 } s m args below meth c 4 0 0 (vx_MQ below (QcT G o hs' tvI) (XCT G o hs') args s 0 0 (gA G)) hs [(2, .int y2)] [] 91) : ∀ (n : Nat) (x2 : Int32) (x3 : Int32) (hs : Hs), L_X9_repairs_47 a0 a1 k_47_91 n x2 x3 hs = some (o, hs') → WG G p l e { frames := 9, cells := 0, slots := 0, locals := 207 } s m args below meth c 4 0 0 (vx_MQ below (QcT G o hs' tvI) (XCT G o hs') args s 0 0 (gA G)) hs [(0, va_rf a0), (1, va_rf a1), (2, .int x2), (3, .int x3)] [] 47 := by
  intro n
  induction n with
  | zero =>
    intro x2 x3 hs h
    rw [L_X9_repairs_47] at h
    exact absurd h failO_e
  | succ n hrec_47 =>
    intro x2 x3 hs h
    rw [L_X9_repairs_47] at h
    refine q_iload_n C 3 dX9_repairs_47 rfl ?_
    refine q_if_lt C 91 dX9_repairs_48 (by decide) h (fun h => ?_) (fun h => ?_)
    · refine WG.sub [2] rfl ?_
      exact hk_47_91 _ _ h
    · refine q_aload_n C 1 dX9_repairs_51 rfl ?_
      refine q_iload_n C 3 dX9_repairs_52 rfl ?_
      refine q_iconst C (0 : Int32) dX9_repairs_53 (by decide) ?_
      refine q_zast C dX9_repairs_54 h (fun hs h => ?_)
      refine q_aload_n C 0 dX9_repairs_55 rfl ?_
      refine q_gR C fl_X9_53 dX9_repairs_56 h (fun v10 h => ?_)
      refine q_iload_n C 3 dX9_repairs_59 rfl ?_
      refine q_aload_n C 0 dX9_repairs_60 rfl ?_
      refine q_iload_n C 3 dX9_repairs_61 rfl ?_
      refine q_callV C (CN := RX9) (T := TX9) (N := 28) [.int x3] [.int x3, va_rf v10] (fun a0 o2 hs1 hm => m_X9_cheapestOf hm) lk_X9_214 im_X9_cheapestOf se_X9_X9_cheapestOf rfl ⟨(Nat.le_of_ble_eq_true rfl), (Nat.le_of_ble_eq_true rfl)⟩ ⟨(Nat.le_of_ble_eq_true rfl), (Nat.le_of_ble_eq_true rfl)⟩ rfl rfl (by simp only [List.map, cat_rf, cat_i, cat_a]; decide) dX9_repairs_62 h (fun v11 hs h => WG_st (st' := [.int v11, .int x3, va_rf v10]) rfl ?_)
      refine q_iast C dX9_repairs_65 h (fun hs h => ?_)
      refine q_iload_n C 2 dX9_repairs_66 rfl ?_
      refine q_aload_n C 0 dX9_repairs_67 rfl ?_
      refine q_iload_n C 3 dX9_repairs_68 rfl ?_
      refine q_callV C (CN := RX9) (T := TX9) (N := 28) [.int x3] [.int x2] (fun a0 o2 hs1 hm => m_X9_isPlaced hm) lk_X9_118 im_X9_isPlaced se_X9_X9_isPlaced rfl ⟨(Nat.le_of_ble_eq_true rfl), (Nat.le_of_ble_eq_true rfl)⟩ ⟨(Nat.le_of_ble_eq_true rfl), (Nat.le_of_ble_eq_true rfl)⟩ rfl rfl (by simp only [List.map, cat_rf, cat_i, cat_a]; decide) dX9_repairs_69 h (fun v12 hs h => WG_st (st' := [.int v12, .int x2]) rfl ?_)
      refine q_if_eq C 79 dX9_repairs_72 (by decide) h (fun h => ?_) (fun h => ?_)
      · refine q_iconst C (1 : Int32) dX9_repairs_79 (by decide) ?_
        refine WG.sub [0, 1] rfl ?_
        exact w_j_X9_repairs_80 C C2 _ _ _ _ _ hrec_47 h
      · refine q_iconst C (0 : Int32) dX9_repairs_75 (by decide) ?_
        refine q_goto C 80 dX9_repairs_76 (by decide) ?_
        refine WG.sub [0, 1] rfl ?_
        exact w_j_X9_repairs_80 C C2 _ _ _ _ _ hrec_47 h
end M_X9_repairs
def f_X9_repairs (a0 : Nat) (p1 : Option Nat) : OO Int32 :=
    lets (0 : Int32) fun (v1 : Int32) =>
    lets (0 : Int32) fun (v2 : Int32) =>
    L_X9_repairs_4 (some a0) p1 v1 (rcv (some a0) 12 fun r20 => call (f_X9_hardestOf r20 p1) (fun (v8 : Int32) =>
    lets v8 fun (v9 : Int32) =>
    L_X9_repairs_47 (some a0) p1 (fun (v19 : Int32) => rtn v19) 100000 v1 v9) nox) 100000 v2
set_option maxRecDepth 100000 in
set_option maxHeartbeats 4000000 in
theorem m_X9_repairs {G : GG} {l : Launch} {a0 : Nat} {p1 : Option Nat} {hs hs' : Hs} {o : Except Nat Int32} (h : f_X9_repairs a0 p1 hs = some (o, hs')) : CT G l yX9_repairs cX9_repairs 4 (some .int) 9 207 0 0 [.ref a0, va_rf p1] hs o hs' tvI := by
  refine vx_ofW (cc := cX9_repairs) (maxL := 4) (ret := (some .int)) (by decide +kernel) rfl ?_
  intro p e s m args below meth c s₁ B hml hxt hv
  obtain ⟨hav, hR, hKn⟩ := hv
  subst hav
  have hts := atoms_spec (ws := .code yX9_repairs cX9_repairs 4 (some .int) :: Tg) B.pre
  have C : Cx G l p s m _ c RX9 cX9_repairs 4 := ⟨B.exec, B.bytes, hml, findClass_of_methodNamed B.named, fun w hw => hts w (List.mem_cons_of_mem _ hw), hKn, fun q hq => Nat.le_trans hR.2.2.1 hq⟩
  have C2 : Cy meth c (some .int) := ⟨B.returns, B.notSynchronized, hxt⟩
  have key : WG G p l e { frames := 9, cells := 0, slots := 0, locals := 207 } s m ([.ref a0, va_rf p1] : List Value).toArray below meth c 4 0 0 (vx_MQ below (QcT G o hs' tvI) (XCT G o hs') ([.ref a0, va_rf p1] : List Value).toArray s 0 0 (gA G)) hs [(0, va_rf (some a0)), (1, va_rf p1)] [] 0 := by
    unfold f_X9_repairs at h
    refine q_iconst C (0 : Int32) dX9_repairs_0 (by decide) ?_
    refine q_istore_n C (fun v1 => [(2, .int v1), (0, va_rf (some a0)), (1, va_rf p1)]) dX9_repairs_1 (by decide) (fun _ => rfl) h (fun v1 h => ?_)
    refine q_iconst C (0 : Int32) dX9_repairs_2 (by decide) ?_
    refine q_istore_n C (fun v2 => [(3, .int v2), (2, .int v1), (0, va_rf (some a0)), (1, va_rf p1)]) dX9_repairs_3 (by decide) (fun _ => rfl) h (fun v2 h => ?_)
    refine WG.sub [2, 3, 1, 0] rfl ?_
    refine w_L_X9_repairs_4 C C2 _ _ _ _ ?_ _ _ _ h
    · intro  hs h
      refine q_aload_n C 0 dX9_repairs_41 rfl ?_
      refine q_aload_n C 1 dX9_repairs_42 rfl ?_
      refine q_callV C (CN := RX9) (T := TX9) (N := 28) [va_rf p1] [] (fun a0 o2 hs1 hm => m_X9_hardestOf hm) lk_X9_221 im_X9_hardestOf se_X9_X9_hardestOf rfl ⟨(Nat.le_of_ble_eq_true rfl), (Nat.le_of_ble_eq_true rfl)⟩ ⟨(Nat.le_of_ble_eq_true rfl), (Nat.le_of_ble_eq_true rfl)⟩ rfl rfl (by decide) dX9_repairs_43 h (fun v8 hs h => WG_st (st' := [.int v8]) rfl ?_)
      refine q_istore_n C (fun v9 => [(3, .int v9), (0, va_rf (some a0)), (1, va_rf p1), (2, .int v1)]) dX9_repairs_46 (by decide) (fun _ => rfl) h (fun v9 h => ?_)
      refine WG.sub [1, 2, 3, 0] rfl ?_
      refine w_L_X9_repairs_47 C C2 _ _ _ ?_ _ _ _ _ h
      · intro v19 hs h
        refine q_iload_n C 0 dX9_repairs_91 rfl ?_
        exact q_iret C C2 rfl (Nat.le_of_ble_eq_true rfl) (Nat.le_of_ble_eq_true rfl) dX9_repairs_92 h
  rw [lg_entry_eq]
  cases p1 <;> exact key _ _ _ hR va_S.rf ⟨lv_entry _ (n := 4) (Nat.le_of_ble_eq_true rfl), (c1_r (c1_r c1_n))⟩

