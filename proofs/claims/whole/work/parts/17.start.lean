def nwL {R : Type} (n : Int32) (B : Nat) (K : Nat → OO R) : OO R := fun hs => if ¬ n < 0 ∧ n.toNatClampNeg ≤ B then K hs.2.1 (hset hs.1 hs.2.1 (aL n.toNatClampNeg (fun _ => 0)), hs.2.1 + 1, hs.2.2) else none
def nwD {R : Type} (n : Int32) (B : Nat) (K : Nat → OO R) : OO R := fun hs => if ¬ n < 0 ∧ n.toNatClampNeg ≤ B then K hs.2.1 (hset hs.1 hs.2.1 (aD n.toNatClampNeg (fun _ => 0)), hs.2.1 + 1, hs.2.2) else none
def f_start : OO (Nat × Nat × Nat × Nat) :=
    nw 11 [.null, .null, .null, .null, .null, .null, .null, .null, .int 0, .int 0] fun x0 =>
    call (f_X8_init x0) (fun (_ : Unit) =>
    nw 12 [.null, .null, .null, .null, .null, .null, .null, .null, .null, .null, .null, .null, .null, .null, .null, .null, .null, .null, .null, .null, .int 0, .int 0, .int 0, .int 0, .int 0, .int 0, .int 0, .int 0] fun m0 =>
    call (f_X9_init m0) (fun (_ : Unit) =>
    nwL (1 : Int32) 1 fun out =>
    nwD (1 : Int32) 1 fun outD =>
    rtn (x0, m0, out, outD)) nox) nox
section ROWS13
variable {p : Program} {l : Launch} {e : Env} {R : Room} {s : State} {m : MethodId} {args : Array Value} {below : List Frame} {meth : Method} {c : Code} {cells slots : Nat} {Q : State → Prop}
variable {G : GG} {own : String} {cc : ByteArray} {nL pc : Nat} {hs : Hs} {lv : List (Nat × Value)} {st : List Value} {RT : Type} {o : Except Nat RT × Hs}
theorem q_newL (C : Cx G l p s m args c own cc nL) {n : Int32} {K : Nat → OO RT} (B : Nat) (hB : B ≤ 1000) (harr : Cond.arrayClass .long ∈ Tg) (hcells : cells + 1 ≤ R.cells) (hslots : slots + B ≤ R.slots) (d : decode cc pc = .ok (.newarray .long, 2)) (h : nwL n B K hs = some o) (kk : ∀ (q : Nat) (hs1 : Hs), K q hs1 = some o → WG G p l e R s m args below meth c nL (cells + 1) (slots + B) Q hs1 lv (va_rf (some q) :: st) (pc + 2)) : WG G p l e R s m args below meth c nL cells slots Q hs lv (.int n :: st) pc := by
  unfold nwL at h
  split at h
  · rename_i hn
    intro H locs ls hR hS c1
    have hK := C.2.2.2.2.2.1
    have hby : n.toNatClampNeg * componentBytes .long ≤ 536870912 := by
      have h8 : componentBytes .long ≤ 8 := by decide
      have h9 := Nat.mul_le_mul hn.2 h8
      omega
    have hsl : slots + n.toNatClampNeg ≤ R.slots := by omega
    refine va_newaK C.1 C.2.1 (atype := .long) (C.2.2.2.2.1 _ harr) rfl d rfl hn.1 rfl hby hcells hsl rfl fun H1 cA e1 z1 o1 hAr hNm => ?_
    have hcA : cA = G.2.1 2 := by
      have h9 : s.vm.findClass ("[" ++ (FieldType.toString .long)) = some (G.2.1 2) := (hK.1.2 2 _ rfl).2
      exact Option.some.inj (hNm.symm.trans h9)
    subst hcA
    have hp := hR.push (e := aL n.toNatClampNeg (fun _ => 0)) z1 o1 e1
    have hq : H.size = hs.2.1 := hR.1
    rw [hq]
    exact W.widen (k := cells + 1) (n := slots + B) (Nat.le_refl _) (by omega) (kk hs.2.1 _ h H1 locs ls hp ⟨Nat.le_trans hS.1 (by omega), fun x h1 h2 => (o1 x (Nat.lt_of_lt_of_le h1 hS.1)).trans (hS.2.1 x h1 h2), hS.2.2⟩ c1)
  · cases h
theorem q_newD (C : Cx G l p s m args c own cc nL) {n : Int32} {K : Nat → OO RT} (B : Nat) (hB : B ≤ 1000) (harr : Cond.arrayClass .double ∈ Tg) (hcells : cells + 1 ≤ R.cells) (hslots : slots + B ≤ R.slots) (d : decode cc pc = .ok (.newarray .double, 2)) (h : nwD n B K hs = some o) (kk : ∀ (q : Nat) (hs1 : Hs), K q hs1 = some o → WG G p l e R s m args below meth c nL (cells + 1) (slots + B) Q hs1 lv (va_rf (some q) :: st) (pc + 2)) : WG G p l e R s m args below meth c nL cells slots Q hs lv (.int n :: st) pc := by
  unfold nwD at h
  split at h
  · rename_i hn
    intro H locs ls hR hS c1
    have hK := C.2.2.2.2.2.1
    have hby : n.toNatClampNeg * componentBytes .double ≤ 536870912 := by
      have h8 : componentBytes .double ≤ 8 := by decide
      have h9 := Nat.mul_le_mul hn.2 h8
      omega
    have hsl : slots + n.toNatClampNeg ≤ R.slots := by omega
    refine va_newaK C.1 C.2.1 (atype := .double) (C.2.2.2.2.1 _ harr) rfl d rfl hn.1 rfl hby hcells hsl rfl fun H1 cA e1 z1 o1 hAr hNm => ?_
    have hcA : cA = G.2.1 3 := by
      have h9 : s.vm.findClass ("[" ++ (FieldType.toString .double)) = some (G.2.1 3) := (hK.1.2 3 _ rfl).2
      exact Option.some.inj (hNm.symm.trans h9)
    subst hcA
    have hp := hR.push (e := aD n.toNatClampNeg (fun _ => 0)) z1 o1 e1
    have hq : H.size = hs.2.1 := hR.1
    rw [hq]
    exact W.widen (k := cells + 1) (n := slots + B) (Nat.le_refl _) (by omega) (kk hs.2.1 _ h H1 locs ls hp ⟨Nat.le_trans hS.1 (by omega), fun x h1 h2 => (o1 x (Nat.lt_of_lt_of_le h1 hS.1)).trans (hS.2.1 x h1 h2), hS.2.2⟩ c1)
  · cases h
end ROWS13
section ROWS14
variable {p : Program} {l : Launch} {e : Env} {R : Room} {s : State} {m : MethodId} {args : Array Value} {below : List Frame} {meth : Method} {c : Code} {cells slots : Nat} {Q : State → Prop}
variable {G : GG} {own : String} {cc : ByteArray} {nL pc : Nat} {hs : Hs} {lv : List (Nat × Value)} {st : List Value}
theorem q_astore_nP (C : Cx G l p s m args c own cc nL) {i : Fin 4} {r : Option Nat} (lv' : List (Nat × Value)) (d : decode cc pc = .ok (.astore_n i, 1)) (hn : (i : Nat) < nL) (hl : ((i : Nat), va_rf r) :: lv.filter (fun q => !(q.1 == (i : Nat))) = lv') (kk : WG G p l e R s m args below meth c nL cells slots Q hs lv' st (pc + 1)) : WG G p l e R s m args below meth c nL cells slots Q hs lv (va_rf r :: st) pc :=
  q_astore_n (RT := Unit) (o := (.ok (), hs)) (K := fun r' => if r' = r then rtn () else fun _ => none) C (fun r' => (((i : Nat), va_rf r') :: lv.filter (fun q => !(q.1 == (i : Nat))))) d hn (fun _ => rfl) (by show (if r = r then rtn () else fun _ => none) hs = _; rw [if_pos rfl]; rfl) (fun r' h => by by_cases hr : r' = r; (· subst hr; rw [hl]; exact kk); (· rw [if_neg hr] at h; cases h))
theorem q_astoreP (C : Cx G l p s m args c own cc nL) {i : Nat} {r : Option Nat} (lv' : List (Nat × Value)) (d : decode cc pc = .ok (.astore i, 2)) (hn : i < nL) (hl : (i, va_rf r) :: lv.filter (fun q => !(q.1 == i)) = lv') (kk : WG G p l e R s m args below meth c nL cells slots Q hs lv' st (pc + 2)) : WG G p l e R s m args below meth c nL cells slots Q hs lv (va_rf r :: st) pc :=
  q_astore (RT := Unit) (o := (.ok (), hs)) (K := fun r' => if r' = r then rtn () else fun _ => none) C (fun r' => ((i, va_rf r') :: lv.filter (fun q => !(q.1 == i)))) d hn (fun _ => rfl) (by show (if r = r then rtn () else fun _ => none) hs = _; rw [if_pos rfl]; rfl) (fun r' h => by by_cases hr : r' = r; (· subst hr; rw [hl]; exact kk); (· rw [if_neg hr] at h; cases h))
end ROWS14
theorem wc_L_8 : Cond.classLink RL 8 RX8 ∈ Tg := Tg_of (i := 113) (by decide +kernel) (by decide +kernel)
theorem wi_X8 : Cond.instantiable RX8 10 ∈ Tg := Tg_of (i := 114) (by decide +kernel) (by decide +kernel)
theorem nf_L_8 : NewC RL 8 11 [.null, .null, .null, .null, .null, .null, .null, .null, .int 0, .int 0] 10 := ⟨RX8, TX8, tyX8, rfl, wc_L_8, wi_X8, iw_X8, gu_X8, tyX8_ok, by decide⟩
theorem wc_L_145 : Cond.classLink RL 145 RX9 ∈ Tg := Tg_of (i := 1483) (by decide +kernel) (by decide +kernel)
theorem wi_X9 : Cond.instantiable RX9 28 ∈ Tg := Tg_of (i := 1484) (by decide +kernel) (by decide +kernel)
theorem nf_L_145 : NewC RL 145 12 [.null, .null, .null, .null, .null, .null, .null, .null, .null, .null, .null, .null, .null, .null, .null, .null, .null, .null, .null, .null, .int 0, .int 0, .int 0, .int 0, .int 0, .int 0, .int 0, .int 0] 28 := ⟨RX9, TX9, tyX9, rfl, wc_L_145, wi_X9, iw_X9, gu_X9, tyX9_ok, by decide⟩
theorem ac_2 : Cond.arrayClass .long ∈ Tg := Tg_of (i := 1943) (by decide +kernel) (by decide +kernel)
theorem ac_3 : Cond.arrayClass .double ∈ Tg := Tg_of (i := 1944) (by decide +kernel) (by decide +kernel)
theorem ml_L_144 : Cond.methodLink RL 144 yX8_init ∈ Tg := Tg_of (i := 115) (by decide +kernel) (by decide +kernel)
theorem lk_L_144 : Lk RL 144 yX8_init cX8_init 1 none 0 := ⟨ml_L_144, cd_X8_init, iw_X8, by decide +kernel⟩
theorem im_X8_init : Cond.instanceMethod yX8_init ∈ Tg := Tg_of (i := 116) (by decide +kernel) (by decide +kernel)
theorem ml_L_147 : Cond.methodLink RL 147 yX9_init ∈ Tg := Tg_of (i := 1485) (by decide +kernel) (by decide +kernel)
theorem lk_L_147 : Lk RL 147 yX9_init cX9_init 2 none 0 := ⟨ml_L_147, cd_X9_init, iw_X9, by decide +kernel⟩
theorem im_X9_init : Cond.instanceMethod yX9_init ∈ Tg := Tg_of (i := 1486) (by decide +kernel) (by decide +kernel)
set_option maxRecDepth 100000 in
set_option maxHeartbeats 4000000 in
theorem law_start {p : Program} {l : Launch} {e : Env} {s : State} {m : MethodId} {args : Array Value} {below : List Frame} {meth : Method} {c : Code} {Q : State → Prop} {G : GG} {hs hs' : Hs} {b x0 m0 out outD : Nat} (C : Cx G l p s m args c RL cL_law 9) (h : f_start hs = some (.ok (x0, m0, out, outD), hs')) (kk : WG G p l e room_1 s m args below meth c 9 100 2000 Q hs' [(0, va_rf (some b)), (1, va_rf (some x0)), (2, va_rf (some m0)), (3, va_rf (some out)), (4, va_rf (some outD)), (5, .int 0)] [] 28) : WG G p l e room_1 s m args below meth c 9 0 0 Q hs [(0, va_rf (some b))] [] 0 := by
  unfold f_start at h
  refine q_new C nf_L_8 (by decide) (by decide) dL_law_0 h (fun x0 hs h => ?_)
  refine q_dup C (cat_rf _) dL_law_3 ?_
  refine q_callI C [] [va_rf (some x0)] (fun o2 hs1 hm => m_X8_init hm) lk_L_144 im_X8_init rfl ⟨(Nat.le_of_ble_eq_true rfl), (Nat.le_of_ble_eq_true rfl)⟩ ⟨by decide, by decide⟩ rfl rfl (by simp only [List.map, cat_rf, cat_i, cat_a]; decide) dL_law_4 h (fun _ hs h => WG_st (st' := [va_rf (some x0)]) rfl ?_)
  refine q_astore_nP C [(1, va_rf (some x0)), (0, va_rf (some b))] dL_law_7 (by decide) rfl ?_
  refine q_new C nf_L_145 (by decide) (by decide) dL_law_8 h (fun m0 hs h => ?_)
  refine q_dup C (cat_rf _) dL_law_11 ?_
  refine q_callI C [] [va_rf (some m0)] (fun o2 hs1 hm => m_X9_init hm) lk_L_147 im_X9_init rfl ⟨(Nat.le_of_ble_eq_true rfl), (Nat.le_of_ble_eq_true rfl)⟩ ⟨by decide, by decide⟩ rfl rfl (by simp only [List.map, cat_rf, cat_i, cat_a]; decide) dL_law_12 h (fun _ hs h => WG_st (st' := [va_rf (some m0)]) rfl ?_)
  refine q_astore_nP C [(2, va_rf (some m0)), (1, va_rf (some x0)), (0, va_rf (some b))] dL_law_15 (by decide) rfl ?_
  refine q_iconst C (1 : Int32) dL_law_16 (by decide) ?_
  refine q_newL C 1 (by decide) ac_2 (by decide) (by decide) dL_law_17 h (fun out hs h => ?_)
  refine q_astore_nP C [(3, va_rf (some out)), (2, va_rf (some m0)), (1, va_rf (some x0)), (0, va_rf (some b))] dL_law_19 (by decide) rfl ?_
  refine q_iconst C (1 : Int32) dL_law_20 (by decide) ?_
  refine q_newD C 1 (by decide) ac_3 (by decide) (by decide) dL_law_21 h (fun outD hs h => ?_)
  refine q_astoreP C [(4, va_rf (some outD)), (3, va_rf (some out)), (2, va_rf (some m0)), (1, va_rf (some x0)), (0, va_rf (some b))] dL_law_23 (by decide) rfl ?_
  refine q_iconst C (0 : Int32) dL_law_25 (by decide) ?_
  refine q_istoreP C [(5, .int 0), (4, va_rf (some outD)), (3, va_rf (some out)), (2, va_rf (some m0)), (1, va_rf (some x0)), (0, va_rf (some b))] dL_law_26 (by decide) rfl ?_
  cases h
  refine WG.sub [5, 4, 3, 2, 1, 0] rfl ?_
  exact WG.widen (by decide) (by decide) kk
