section ROWS11
variable {p : Program} {l : Launch} {e : Env} {R : Room} {s : State} {m : MethodId} {args : Array Value} {below : List Frame} {meth : Method} {c : Code} {cells slots : Nat} {Q : State → Prop}
variable {G : GG} {own : String} {cc : ByteArray} {nL pc : Nat} {hs : Hs} {lv : List (Nat × Value)} {st : List Value}
theorem c1_fl {lv : List (Nat × Value)} {i : Nat} {x : UInt32} (h : ∀ q ∈ lv, q.2.category = 1) : ∀ q ∈ (i, Value.float x) :: lv, q.2.category = 1 := fun q hq => (List.mem_cons.mp hq).elim (fun e => by rw [e]; rfl) (h q)
theorem q_fstoreP (C : Cx G l p s m args c own cc nL) {i : Nat} {x : UInt32} (lv' : List (Nat × Value)) (d : decode cc pc = .ok (.fstore i, 2)) (hn : i < nL) (hl : (i, Value.float x) :: lv.filter (fun q => !(q.1 == i)) = lv') (kk : WG G p l e R s m args below meth c nL cells slots Q hs lv' st (pc + 2)) : WG G p l e R s m args below meth c nL cells slots Q hs lv (.float x :: st) pc :=
  fun H locs ls a b c1 => lv_fstore C.1 C.2.1 d c1.1 hn (by rw [lv_fl c1.2]; exact hl) (fun ls' c2 => kk H locs ls' a b ⟨c2, by rw [← hl]; exact c1_fl (c1_f c1.2)⟩)
theorem q_fload (C : Cx G l p s m args c own cc nL) {i : Nat} {x : UInt32} (j : Nat) (d : decode cc pc = .ok (.fload i, 2)) (hj : lv[j]? = some (i, .float x)) (kk : WG G p l e R s m args below meth c nL cells slots Q hs lv (.float x :: st) (pc + 2)) : WG G p l e R s m args below meth c nL cells slots Q hs lv st pc :=
  fun H locs ls a b c1 => lv_fload C.1 C.2.1 d (lv_at c1.1 j hj) (kk H locs ls a b c1)
theorem q_f2dE (C : Cx G l p s m args c own cc nL) {x : UInt32} (hv : vf_n64 (FP.f2d x)) (d : decode cc pc = .ok (.f2d, 1)) (kk : WG G p l e R s m args below meth c nL cells slots Q hs lv (.double (FP.f2d x) :: st) (pc + 1)) : WG G p l e R s m args below meth c nL cells slots Q hs lv (.float x :: st) pc :=
  fun H locs ls a b c1 => lv_f2d C.1 C.2.1 d hv (kk H locs ls a b c1)
theorem q_dcmpE (C : Cx G l p s m args c own cc nL) {x y : UInt64} (he : Op.cmpValue (FP.dcmp x y) .l = 0) (d : decode cc pc = .ok (.dcmp .l, 1)) (kk : WG G p l e R s m args below meth c nL cells slots Q hs lv (.int 0 :: st) (pc + 1)) : WG G p l e R s m args below meth c nL cells slots Q hs lv (.double y :: .double x :: st) pc := by
  intro H locs ls a b c1
  refine lv_dcmp C.1 C.2.1 d ?_
  rw [he]
  exact kk H locs ls a b c1
theorem w_callE {H0 : Heap} {locs0 : List Loc} {ls : Array Slot} (C : Cx G l p s m args c own cc nL) {index maxL F L mc ms n : Nat} {y : MethodName} {b : ByteArray} {rt1 : Option FieldType} {CN : String} {T : u_T} {ci N a0 : Nat} {fs : List Value} {S1 : Type} {fr : OO S1} {tv : S1 → Option Value} {v : S1} {hs2 : Hs} (As rest : List Value) (hm : fr hs = some (.ok v, hs2)) (hM : CT G l y b maxL rt1 F L mc ms (.ref a0 :: As) hs (.ok v : Except Nat S1) hs2 tv) (k : Lk own index y b maxL rt1 n) (hi : Cond.instanceMethod y ∈ Tg) (hsel : Cond.selects CN y y ∈ Tg) (hc : vwCl[ci]? = some (CN, T, N)) (ha : hs.1 a0 = some (.inr (ci, fs))) (hRm : F + 1 ≤ R.frames ∧ 8 + (maxL + 11) + L ≤ R.locals) (hf : cells + mc ≤ R.cells ∧ slots + ms ≤ R.slots) (hn : As.length = n) (hst : st = (As.reverse ++ va_rf (some a0) :: rest)) (hroom : (rest.map fun v => v.category).sum ≤ 8) (d : decode cc pc = .ok (.invokevirtual index, 3))
    (hR : Rep G hs H0) (hS : va_S (gA G) s.heap H0 locs0) (hsz : ls.size = nL) (kk : ∀ (H : Heap) (locs : List Loc), Rep G hs2 H → va_S (gA G) s.heap H locs → W p l e R s m args below meth c H locs (cells + mc) (slots + ms) Q (F0 m (pc + 3) ls ((tv v).toList ++ rest))) : W p l e R s m args below meth c H0 locs0 cells slots Q (F0 m pc ls st) := by
  have hr := vx_runV (e := e) (H := H0) (locs := locs0) (cells := cells) (slots := slots) (below := below) (meth := meth) (rest := rest) (g := F0 m pc ls st) C.fix hM ⟨k.B C hRm, C.2.2.2.2.1 _ hi, C.2.2.2.2.1 _ hsel⟩ ⟨PcT.blind _ _ _ _, va_recv C.2.2.2.2.2.1.1 (hR.P ha) hc (q0 := 0) rfl, fun U hU hW => PcT.at C hR hS _ U hU hW⟩ rfl hn hsz hst (lv_room (m := m) (pc := pc) (ls := ls) (rest := st) hroom) d hf
  intro T hT X
  rcases hr T hT X with ⟨v1, st₀, t, T', L, h0, X', hL, e1, e2, ⟨⟨r1, hr1, hv, hRt⟩, hF⟩, st⟩ | ⟨q, st₀, t, T', L, E, ce, h0, X', hL, e1, e2, ⟨⟨k, sz, hk, hE, hRt⟩, hF⟩, hce, hcv, hcl, st⟩
  · cases hr1
    cases hv
    obtain ⟨k1, k2, k3⟩ := vx_keep h0 e1 hS (fun q _ h => h) (fun q h => h) hL hF
    obtain ⟨t2, a1, b1⟩ := kk T'.heap (locs0 ++ L) (by rw [e1]; exact hRt) k3 T' rfl X'
    exact ⟨t2, st t2 a1, b1⟩
  · cases hk
theorem lv_mk7 {ls : Array Slot} {bb : UInt64} {lv : List (Nat × Value)} (h : ∀ q ∈ lv, q.2.category = 1) (c2 : lv_has ls 9 ((7, Value.double bb) :: lv.filter (fun q => !(q.1 == 7) && !(q.1 == 7 + 1) && !(q.1 + 1 == 7 && q.2.category == 2)))) : lv_has ls 9 ((7, Value.double bb) :: lv.filter (fun q => !(q.1 == 7) && !(q.1 == 8))) := by
  have e : lv.filter (fun q => !(q.1 == 7) && !(q.1 == 7 + 1) && !(q.1 + 1 == 7 && q.2.category == 2)) = lv.filter (fun q => !(q.1 == 7) && !(q.1 == 8)) := by
    apply List.filter_congr
    intro q hq
    rw [h q hq]
    simp
  rw [← e]
  exact c2
theorem lh_drop {ls : Array Slot} {bb : UInt64} {k : Int32} {x0 x1 x2 x3 x4 : Option Nat} {v5 : Int32} (h : ∀ q ∈ [(6, Value.int k), (0, va_rf x0), (1, va_rf x1), (2, va_rf x2), (3, va_rf x3), (4, va_rf x4), (5, .int v5)], q.2.category = 1) (c2 : lv_has ls 9 ((7, Value.double bb) :: [(6, Value.int k), (0, va_rf x0), (1, va_rf x1), (2, va_rf x2), (3, va_rf x3), (4, va_rf x4), (5, .int v5)].filter (fun q => !(q.1 == 7) && !(q.1 == 8)))) : LH ls 9 [(0, va_rf x0), (1, va_rf x1), (2, va_rf x2), (3, va_rf x3), (4, va_rf x4), (5, .int v5)] :=
  ⟨lv_sub c2 [2, 3, 4, 5, 6, 7] rfl, fun q hq => h q (List.mem_cons_of_mem _ hq)⟩
end ROWS11

set_option maxRecDepth 100000 in
set_option maxHeartbeats 4000000 in
theorem law_c41 {p : Program} {l : Launch} {e : Env} {s : State} {m : MethodId} {args : Array Value} {below : List Frame} {meth : Method} {c : Code} {cells slots : Nat} {Q : State → Prop} {G : GG} {hs : Hs} {b L x0 m0 out outD : Nat} {xs : Nat → Int32} {v5 : Int32} {next : Hs → Prop} (C : Cx G l p s m args c RL cL_law 9) (hX : va_X b L xs s s.heap) (hbl : b < s.heap.size) (hbA : ¬ gA G b) (hj : vp_in (v5 + 1) L ∧ vp_in (v5 + 2) L ∧ vp_in (v5 + 3) L ∧ vp_in (v5 + 4) L ∧ vp_in (v5 + 5) L) (hcb : cells + 310 ≤ room_1.cells ∧ slots + 5000 ≤ room_1.slots) (hop : opF (f_L_placedShare (some x0) (some outD)) (f_X9_placedShare m0) m0 outD next hs) (hn : ∀ hs2, next hs2 → WG G p l e room_1 s m args below meth c 9 (cells + 310) (slots + 5000) Q hs2 [(0, va_rf (some b)), (1, va_rf (some x0)), (2, va_rf (some m0)), (3, va_rf (some out)), (4, va_rf (some outD)), (5, .int v5)] [] 2696) : WG G p l e room_1 s m args below meth c 9 cells slots Q hs [(0, va_rf (some b)), (1, va_rf (some x0)), (2, va_rf (some m0)), (3, va_rf (some out)), (4, va_rf (some outD)), (5, .int v5)] [] 2552 := by
  obtain ⟨k, hs1, hw, ⟨fm, hm0⟩, hop⟩ := hop
  refine q_aload_n C 1 dL_law_2552 rfl ?_
  refine q_aload C 4 dL_law_2553 rfl ?_
  refine q_callL C (n := 2) [va_rf (some x0), va_rf (some outD)] [] (m_L_placedShare hw) cw_L_placedShare ml_L_286 sm_L_placedShare iw_L (by decide +kernel) ⟨(Nat.le_of_ble_eq_true rfl), (Nat.le_of_ble_eq_true rfl)⟩ ⟨by omega, by omega⟩ rfl rfl (by decide) dL_law_2555 (fun sz hbd => ?_)
  obtain ⟨bb, hs2, hmm, ⟨fm2, hm2⟩, hth, hcmp, hnx⟩ := hop sz hbd
  refine q_istoreP C [(6, .int k), (0, va_rf (some b)), (1, va_rf (some x0)), (2, va_rf (some m0)), (3, va_rf (some out)), (4, va_rf (some outD)), (5, .int v5)] dL_law_2558 (by decide) rfl ?_
  refine q_aload_n C 3 dL_law_2560 rfl ?_
  refine q_callE C (CN := RX9) (T := TX9) (N := 28) (ci := 12) (tv := tvF) [] [] hmm (m_X9_placedShare hmm) lk_L_289 im_X9_placedShare se_X9_X9_placedShare rfl hm0 ⟨(Nat.le_of_ble_eq_true rfl), (Nat.le_of_ble_eq_true rfl)⟩ ⟨by omega, by omega⟩ rfl rfl (by simp only [List.map, cat_rf, cat_i, cat_a, Value.category]; decide) dL_law_2561 ?_
  refine WG_st (st' := [.float bb]) rfl ?_
  refine q_fstoreP C [(7, .float bb), (6, .int k), (0, va_rf (some b)), (1, va_rf (some x0)), (2, va_rf (some m0)), (3, va_rf (some out)), (4, va_rf (some outD)), (5, .int v5)] dL_law_2564 (by decide) rfl ?_
  refine q_aload_n C 4 dL_law_2566 rfl ?_
  refine q_callE C (CN := RX9) (T := TX9) (N := 28) (ci := 12) (tv := tvI) [] [] hth (m_X9_thrown hth) lk_L_154 im_X9_thrown se_X9_X9_thrown rfl hm2 ⟨(Nat.le_of_ble_eq_true rfl), (Nat.le_of_ble_eq_true rfl)⟩ ⟨by omega, by omega⟩ rfl rfl (by simp only [List.map, cat_rf, cat_i, cat_a, Value.category]; decide) dL_law_2567 ?_
  refine WG_st (st' := [.int k]) rfl ?_
  refine q_iload C 1 dL_law_2570 rfl ?_
  refine q_icmpT C 2577 rfl dL_law_2572 (by decide) ?_
  refine q_iload C 1 dL_law_2577 rfl ?_
  by_cases hk0 : k = 0
  · refine q_ifF C hk0 dL_law_2579 2615 (by decide) ?_
    obtain ⟨f, hf, hv, hfe⟩ := hcmp hk0
    refine q_aload C 6 dL_law_2582 rfl ?_
    refine q_iconst C (0 : Int32) dL_law_2584 (by decide) ?_
    refine q_dald C hf (by unfold vp_in; decide) dL_law_2585 ?_
    refine q_fload C 0 dL_law_2586 rfl ?_
    refine q_f2dE C hv dL_law_2588 ?_
    refine q_dcmpE C hfe dL_law_2589 ?_
    refine q_ifeqT C 2615 rfl dL_law_2590 (by decide) ?_
    refine q_goto C 2696 dL_law_2615 (by decide) ?_
    refine WG.sub [2, 3, 4, 5, 6, 7] rfl ?_
    refine WG.widen (k := cells + 310) (n := slots + 5000) (by omega) (by omega) ?_
    exact hn _ hnx
  · refine q_ifneT C 2615 hk0 dL_law_2579 (by decide) ?_
    refine q_goto C 2696 dL_law_2615 (by decide) ?_
    refine WG.sub [2, 3, 4, 5, 6, 7] rfl ?_
    refine WG.widen (k := cells + 310) (n := slots + 5000) (by omega) (by omega) ?_
    exact hn _ hnx
set_option maxRecDepth 100000 in
set_option maxHeartbeats 4000000 in
theorem law_c42 {p : Program} {l : Launch} {e : Env} {s : State} {m : MethodId} {args : Array Value} {below : List Frame} {meth : Method} {c : Code} {cells slots : Nat} {Q : State → Prop} {G : GG} {hs : Hs} {b L x0 m0 out outD : Nat} {xs : Nat → Int32} {v5 : Int32} {next : Hs → Prop} (C : Cx G l p s m args c RL cL_law 9) (hX : va_X b L xs s s.heap) (hbl : b < s.heap.size) (hbA : ¬ gA G b) (hj : vp_in (v5 + 1) L ∧ vp_in (v5 + 2) L ∧ vp_in (v5 + 3) L ∧ vp_in (v5 + 4) L ∧ vp_in (v5 + 5) L) (hcb : cells + 310 ≤ room_1.cells ∧ slots + 5000 ≤ room_1.slots) (hop : opW (f_L_meanPossible (some x0) (some outD)) (f_X9_meanPossible m0) m0 outD next hs) (hn : ∀ hs2, next hs2 → WG G p l e room_1 s m args below meth c 9 (cells + 310) (slots + 5000) Q hs2 [(0, va_rf (some b)), (1, va_rf (some x0)), (2, va_rf (some m0)), (3, va_rf (some out)), (4, va_rf (some outD)), (5, .int v5)] [] 2696) : WG G p l e room_1 s m args below meth c 9 cells slots Q hs [(0, va_rf (some b)), (1, va_rf (some x0)), (2, va_rf (some m0)), (3, va_rf (some out)), (4, va_rf (some outD)), (5, .int v5)] [] 2618 := by
  obtain ⟨k, hs1, hw, ⟨fm, hm0⟩, hop⟩ := hop
  refine q_aload_n C 1 dL_law_2618 rfl ?_
  refine q_aload C 4 dL_law_2619 rfl ?_
  refine q_callL C (n := 2) [va_rf (some x0), va_rf (some outD)] [] (m_L_meanPossible hw) cw_L_meanPossible ml_L_290 sm_L_meanPossible iw_L (by decide +kernel) ⟨(Nat.le_of_ble_eq_true rfl), (Nat.le_of_ble_eq_true rfl)⟩ ⟨by omega, by omega⟩ rfl rfl (by decide) dL_law_2621 (fun sz hbd => ?_)
  obtain ⟨bb, hs2, hmm, ⟨fm2, hm2⟩, hth, hcmp, hnx⟩ := hop sz hbd
  refine q_istoreP C [(6, .int k), (0, va_rf (some b)), (1, va_rf (some x0)), (2, va_rf (some m0)), (3, va_rf (some out)), (4, va_rf (some outD)), (5, .int v5)] dL_law_2624 (by decide) rfl ?_
  refine q_aload_n C 3 dL_law_2626 rfl ?_
  refine q_callE C (CN := RX9) (T := TX9) (N := 28) (ci := 12) (tv := tvD) [] [] hmm (m_X9_meanPossible hmm) lk_L_292 im_X9_meanPossible se_X9_X9_meanPossible rfl hm0 ⟨(Nat.le_of_ble_eq_true rfl), (Nat.le_of_ble_eq_true rfl)⟩ ⟨by omega, by omega⟩ rfl rfl (by simp only [List.map, cat_rf, cat_i, cat_a, Value.category]; decide) dL_law_2627 ?_
  refine WG_st (st' := [.double bb]) rfl ?_
  intro H locs ls hR hS c1
  refine lv_dstore C.1 C.2.1 dL_law_2630 c1.1 (by decide) rfl (fun ls c2 => ?_)
  have c2 := lv_mk7 c1.2 c2
  refine lv_aload_n C.1 C.2.1 dL_law_2632 rfl (lv_at c2 4 rfl) ?_
  refine w_callE C (CN := RX9) (T := TX9) (N := 28) (ci := 12) (tv := tvI) [] [] hth (m_X9_thrown hth) lk_L_154 im_X9_thrown se_X9_X9_thrown rfl hm2 ⟨(Nat.le_of_ble_eq_true rfl), (Nat.le_of_ble_eq_true rfl)⟩ ⟨by omega, by omega⟩ rfl rfl (by simp only [List.map, cat_rf, cat_i, cat_a, Value.category]; decide) dL_law_2633 hR hS c2.1 (fun H locs hR hS => ?_)
  refine lv_iload C.1 C.2.1 dL_law_2636 (lv_at c2 1 rfl) ?_
  refine lv_icmp_eq (x := k) (y := k) (tgt := 2643) C.1 C.2.1 dL_law_2638 (by decide) (fun _ => ?_) (fun z => absurd rfl z)
  refine lv_iload C.1 C.2.1 dL_law_2643 (lv_at c2 1 rfl) ?_
  have fin : W p l e room_1 s m args below meth c H locs (cells + 1 + 0) (slots + 6 + 0) Q (F0 m 2696 ls []) := W.widen (k := cells + 310) (n := slots + 5000) (by omega) (by omega) (hn _ hnx H locs ls hR hS (lh_drop c1.2 c2))
  by_cases hk0 : k = 0
  · obtain ⟨f, hf, hfe⟩ := hcmp hk0
    refine lv_if_ne (x := k) (tgt := 2680) C.1 C.2.1 dL_law_2645 (by decide) (fun z => absurd hk0 z) (fun _ => ?_)
    refine lv_aload C.1 C.2.1 dL_law_2648 (lv_at c2 6 rfl) ?_
    refine lv_iconst (v := 0) C.1 C.2.1 dL_law_2650 (by decide) ?_
    refine va_dald (cA := G.2.1 3) C.1 C.2.1 C.kn.1 (hR.P hf) 0 3 rfl rfl (by unfold vp_in; decide) dL_law_2651 ?_
    refine lv_dload C.1 C.2.1 dL_law_2652 (lv_at c2 0 rfl) ?_
    refine lv_dcmp C.1 C.2.1 dL_law_2654 ?_
    refine lv_if_eq (tgt := 2680) C.1 C.2.1 dL_law_2655 (by decide) (fun _ => ?_) (fun z => absurd hfe z)
    exact lv_goto (tgt := 2696) C.1 C.2.1 dL_law_2680 (by decide) fin
  · refine lv_if_ne (x := k) (tgt := 2680) C.1 C.2.1 dL_law_2645 (by decide) (fun _ => ?_) (fun z => absurd z hk0)
    exact lv_goto (tgt := 2696) C.1 C.2.1 dL_law_2680 (by decide) fin
