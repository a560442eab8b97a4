def kn_let {G : GG} {l : Launch} {U : State} {H : Heap} (h : Kn G l U H) := h.2.2.2.2.2.2.2.2.1
theorem kn_S {G : GG} {l : Launch} {U : State} {H : Heap} (h : Kn G l U H) : vk_S 1 [10] [kx_bytes] (fun _ => G.2.2.2.2.1) (fun _ => G.2.2.2.2.2.1) (gA G) U H := h.2.2.2.2.2.2.2.2.2.1
theorem kn_comp {G : GG} {l : Launch} {U : State} {H : Heap} (h : Kn G l U H) : va_Z "java/lang/String" "COMPACT_STRINGS" "Z" (.int 1) (gA G) U H := h.2.2.2.2.2.2.2.2.2.2.1
theorem kn_dflt {G : GG} {l : Launch} {U : State} {H : Heap} (h : Kn G l U H) : va_Z "java/util/ArrayList" "DEFAULTCAPACITY_EMPTY_ELEMENTDATA" "[Ljava/lang/Object;" (.ref G.2.2.2.1) (gA G) U H := h.2.2.2.2.2.2.2.2.2.2.2.1
theorem kn_dc {G : GG} {l : Launch} {U : State} {H : Heap} (h : Kn G l U H) : va_Dc U := h.2.2.2.2.2.2.2.2.2.2.2.2.1
theorem kn_mi {G : GG} {l : Launch} {U : State} {H : Heap} (h : Kn G l U H) : va_Mi "[Ljava/lang/Object;" G.2.2.2.2.2.2 U := h.2.2.2.2.2.2.2.2.2.2.2.2.2.2.1
theorem kn_fmt {G : GG} {l : Launch} {U : State} {H : Heap} (h : Kn G l U H) : va_Zq "jdk/internal/util/Preconditions" "SIOOBE_FORMATTER" "Ljava/util/function/BiFunction;" (gA G) U H := h.2.2.2.2.2.2.2.2.2.2.2.2.2.2.2.1
theorem kn_aoa {G : GG} {l : Launch} {U : State} {H : Heap} (h : Kn G l U H) : va_AOA .int U := h.2.2.2.2.2.2.2.2.2.2.2.2.2.2.2.2.1
theorem kn_nc {G : GG} {l : Launch} {U : State} {H : Heap} (h : Kn G l U H) : ∀ q ∈ kx_nc, va_Nc q.1 q.2 U := h.2.2.2.2.2.2.2.2.2.2.2.2.2.2.2.2.2
section ROWS4
variable {p : Program} {l : Launch} {e : Env} {R : Room} {s : State} {m : MethodId} {args : Array Value} {below : List Frame} {meth : Method} {c : Code} {cells slots : Nat} {Q : State → Prop}
variable {G : GG} {own : String} {cc : ByteArray} {nL pc : Nat} {hs : Hs} {lv : List (Nat × Value)} {st : List Value} {rt : Option FieldType} {RT : Type} {o : Except Nat RT × Hs}
theorem Cx.kn (C : Cx G l p s m args c own cc nL) : Kn G l s s.heap := C.2.2.2.2.2.1
theorem q_ldcS (C : Cx G l p s m args c own cc nL) {index : Nat} {tx : String} (hm : (own, index) ∈ kx_let) (htx : tx = "hpokscrtgv") (d : decode cc pc = .ok (.ldc index, 2)) (kk : WG G p l e R s m args below meth c nL cells slots Q hs lv (.ref G.2.2.2.2.1 :: st) (pc + 2)) : WG G p l e R s m args below meth c nL cells slots Q hs lv st pc := by
  intro H locs ls hR hS c1 T hT X
  obtain ⟨t, a1, b1⟩ := kk H locs ls hR hS c1 T hT X
  have hk := kn_let C.kn _ hm
  exact ⟨t, X.ldcString C.1 (own := own) (text := "hpokscrtgv") (index := index) (a := G.2.2.2.2.1) C.2.2.2.1 hk.1 hk.2 (g := F0 m pc ls st) rfl (by rw [C.2.1]; exact d) t a1, b1⟩
theorem q_gets (C : Cx G l p s m args c own cc nL) {index : Nat} {Cn n dsc : String} {v : Value} (hZ : va_Z Cn n dsc v (gA G) s s.heap) (hl : Cond.fieldLink own index Cn n dsc ∈ Tg) (d : decode cc pc = .ok (.getstatic index, 3)) (kk : WG G p l e R s m args below meth c nL cells slots Q hs lv (v :: st) (pc + 3)) : WG G p l e R s m args below meth c nL cells slots Q hs lv st pc :=
  fun H locs ls hR hS c1 => va_gets C.1 C.2.1 hZ hS C.2.2.2.1 (C.2.2.2.2.1 _ hl) (fun _ z => z) d (kk H locs ls hR hS c1)
theorem q_sgetf (C : Cx G l p s m args c own cc nL) {index q : Nat} {Cn n dsc : String} {v : Value} (hZ : va_OF Cn n dsc v q (gA G) s s.heap) (hl : Cond.fieldLink own index Cn n dsc ∈ Tg) (d : decode cc pc = .ok (.getfield index, 3)) (kk : WG G p l e R s m args below meth c nL cells slots Q hs lv (v :: st) (pc + 3)) : WG G p l e R s m args below meth c nL cells slots Q hs lv (.ref q :: st) pc :=
  fun H locs ls hR hS c1 => vk_getf C.1 C.2.1 hZ hS C.2.2.2.1 (C.2.2.2.2.1 _ hl) (fun _ z => z) d (kk H locs ls hR hS c1)
theorem q_ifT (C : Cx G l p s m args c own cc nL) {x : Int32} {off : Int} (hx : ¬ x = 0) (d : decode cc pc = .ok (.ifCond .eq off, 3)) (tgt : Nat) (ht : (pc : Int) + off = (tgt : Int)) (kk : WG G p l e R s m args below meth c nL cells slots Q hs lv st (pc + 3)) : WG G p l e R s m args below meth c nL cells slots Q hs lv (.int x :: st) pc :=
  fun H locs ls hR hS c1 => lv_if_eq C.1 C.2.1 d ht (fun z => absurd z hx) (fun _ => kk H locs ls hR hS c1)
theorem q_ifF (C : Cx G l p s m args c own cc nL) {x : Int32} {off : Int} (hx : x = 0) (d : decode cc pc = .ok (.ifCond .ne off, 3)) (tgt : Nat) (ht : (pc : Int) + off = (tgt : Int)) (kk : WG G p l e R s m args below meth c nL cells slots Q hs lv st (pc + 3)) : WG G p l e R s m args below meth c nL cells slots Q hs lv (.int x :: st) pc :=
  fun H locs ls hR hS c1 => lv_if_ne C.1 C.2.1 d ht (fun z => absurd hx z) (fun _ => kk H locs ls hR hS c1)
theorem q_nret (C : Cx G l p s m args c own cc nL) {o : Except Nat Int32} {hs' : Hs} {mc ms : Nat} {x : Int32} {ty : FieldType} (C2 : Cy meth c rt) (hr : rt = some ty) (hn : narrow ty (.int x) = .int x) (hc : cells ≤ mc) (hsl : slots ≤ ms) (d : decode cc pc = .ok (.ireturn, 1)) (h : rtn x hs = some (o, hs')) : WG G p l e R s m args below meth c nL cells slots (vx_MQ below (QcT G o hs' tvI) (XCT G o hs') args s mc ms (gA G)) hs lv [.int x] pc := by
  cases h
  intro H locs ls hR hS c1
  refine W.widen hc hsl (vx_ret ?_)
  exact W.zret C.1 C.2.1 (C2.1.trans hr) hn (fun t ht hW => ⟨⟨x, rfl, rfl, by rw [ht]; exact hR⟩, hS.F ht⟩) hS.2.2 d C2.2.1
theorem q_callStr (C : Cx G l p s m args c own cc nL) {index maxL F L n : Nat} {y : MethodName} {b : ByteArray} {rt1 : Option FieldType} {r : Int32} (As rest : List Value) (hM : CT G l y b maxL rt1 F L 0 0 (.ref G.2.2.2.2.1 :: As) hs (.ok r : Except Nat Int32) hs tvI) (k : Lk own index y b maxL rt1 n) (hi : Cond.instanceMethod y ∈ Tg) (hsel : Cond.selects "java/lang/String" y y ∈ Tg) (hRm : F + 1 ≤ R.frames ∧ 8 + (maxL + 11) + L ≤ R.locals) (hf : cells ≤ R.cells ∧ slots ≤ R.slots) (hn : As.length = n) (hst : st = As.reverse ++ .ref G.2.2.2.2.1 :: rest) (hroom : (rest.map fun v => v.category).sum ≤ 8) (d : decode cc pc = .ok (.invokevirtual index, 3)) (kk : WG G p l e R s m args below meth c nL cells slots Q hs lv (.int r :: rest) (pc + 3)) : WG G p l e R s m args below meth c nL cells slots Q hs lv st pc := by
  intro H locs ls hR hS c1
  have hr := vx_runV (e := e) (H := H) (locs := locs) (cells := cells) (slots := slots) (below := below) (meth := meth) (rest := rest) (g := F0 m pc ls st) C.fix hM ⟨k.B C hRm, C.2.2.2.2.1 _ hi, C.2.2.2.2.1 _ hsel⟩ ⟨PcT.blind _ _ _ _, vk_recv (i := 0) (kn_S C.kn) Nat.zero_lt_one hS, fun U hU hW => PcT.at C hR hS _ U hU hW⟩ rfl hn c1.1.1 hst (lv_room (m := m) (pc := pc) (ls := ls) (rest := st) hroom) d hf
  intro T hT X
  rcases hr T hT X with ⟨v, st₀, t, T', L, h0, X', hL, e1, e2, ⟨⟨r1, hr1, hv, hRt⟩, hF⟩, st⟩ | ⟨q, st₀, t, T', L, E, ce, h0, X', hL, e1, e2, ⟨⟨k, sz, hk, hE, hRt⟩, hF⟩, hce, hcv, hcl, st⟩
  · cases hr1
    cases hv
    obtain ⟨k1, k2, k3⟩ := vx_keep h0 e1 hS (fun q _ h => h) (fun q h => h) hL hF
    obtain ⟨t2, a1, b1⟩ := kk T'.heap (locs ++ L) ls (by rw [e1]; exact hRt) k3 c1 T' rfl X'
    exact ⟨t2, st t2 a1, b1⟩
  · cases hk
theorem q_blen (C : Cx G l p s m args c own cc nL) (d : decode cc pc = .ok (.arraylength, 1)) (kk : WG G p l e R s m args below meth c nL cells slots Q hs lv (.int 10 :: st) (pc + 1)) : WG G p l e R s m args below meth c nL cells slots Q hs lv (.ref G.2.2.2.2.2.1 :: st) pc :=
  fun H locs ls hR hS c1 => va_tlen C.1 C.2.1 ((kn_S C.kn).1 0 Nat.zero_lt_one).2.2.2 hS rfl d (kk H locs ls hR hS c1)
theorem q_bald (C : Cx G l p s m args c own cc nL) {i : Int32} (hin : vp_in i 10) (d : decode cc pc = .ok (.baload, 1)) (kk : WG G p l e R s m args below meth c nL cells slots Q hs lv (.int (kx_bytes.getD i.toNatClampNeg 0) :: st) (pc + 1)) : WG G p l e R s m args below meth c nL cells slots Q hs lv (.int i :: .ref G.2.2.2.2.2.1 :: st) pc :=
  fun H locs ls hR hS c1 => va_tb C.1 C.2.1 ((kn_S C.kn).1 0 Nat.zero_lt_one).2.2.2 hS hin rfl d (kk H locs ls hR hS c1)
theorem q_aloadC_n (C : Cx G l p s m args c own cc nL) {k : Fin 4} {q : Nat} (j : Nat) (d : decode cc pc = .ok (.aload_n k, 1)) (hj : lv[j]? = some ((k : Nat), .ref q)) (kk : WG G p l e R s m args below meth c nL cells slots Q hs lv (.ref q :: st) (pc + 1)) : WG G p l e R s m args below meth c nL cells slots Q hs lv st pc :=
  fun H locs ls a b c1 => lv_aload_n C.1 C.2.1 d rfl (lv_at c1.1 j hj) (kk H locs ls a b c1)
theorem c1_a {lv : List (Nat × Value)} {i : Nat} {x : Nat} (h : ∀ q ∈ lv, q.2.category = 1) : ∀ q ∈ (i, Value.ref x) :: lv, q.2.category = 1 := fun q hq => (List.mem_cons.mp hq).elim (fun e => by rw [e]; rfl) (h q)
end ROWS4
theorem ws_J0_38 : Cond.fieldLink RJ0 38 "java/lang/String" "COMPACT_STRINGS" "Z" ∈ Tg := Tg_of (i := 353) (by decide +kernel) (by decide +kernel)
theorem ws_J0_15 : Cond.fieldLink RJ0 15 "java/lang/String" "coder" "B" ∈ Tg := Tg_of (i := 1978) (by decide +kernel) (by decide +kernel)
theorem ws_J0_9 : Cond.fieldLink RJ0 9 "java/lang/String" "value" "[B" ∈ Tg := Tg_of (i := 1977) (by decide +kernel) (by decide +kernel)
theorem cd_J0_coder_7d493 : Cond.code yJ0_coder_7d493 cJ0_coder_7d493 1 (some .byte) ∈ Tg := Tg_of (i := 352) (by decide +kernel) (by decide +kernel)
theorem cd_J0_isLatin1_aae02 : Cond.code yJ0_isLatin1_aae02 cJ0_isLatin1_aae02 1 (some .boolean) ∈ Tg := Tg_of (i := 1022) (by decide +kernel) (by decide +kernel)
theorem iw_J0 : Cond.initialized RJ0 ∈ Tg := Tg_of (i := 103) (by decide +kernel) (by decide +kernel)
theorem ml_J0_335 : Cond.methodLink RJ0 335 yJ0_coder_7d493 ∈ Tg := Tg_of (i := 349) (by decide +kernel) (by decide +kernel)
theorem lk_J0_335 : Lk RJ0 335 yJ0_coder_7d493 cJ0_coder_7d493 1 (some .byte) 0 := ⟨ml_J0_335, cd_J0_coder_7d493, iw_J0, by decide +kernel⟩
theorem im_J0_coder_7d493 : Cond.instanceMethod yJ0_coder_7d493 ∈ Tg := Tg_of (i := 350) (by decide +kernel) (by decide +kernel)
theorem se_J0_J0_coder_7d493 : Cond.selects RJ0 yJ0_coder_7d493 yJ0_coder_7d493 ∈ Tg := Tg_of (i := 351) (by decide +kernel) (by decide +kernel)
theorem cd_J0_length_8abf5 : Cond.code yJ0_length_8abf5 cJ0_length_8abf5 1 (some .int) ∈ Tg := Tg_of (i := 348) (by decide +kernel) (by decide +kernel)
theorem cd_J3_checkIndex_8e157 : Cond.code yJ3_checkIndex_8e157 cJ3_checkIndex_8e157 3 (some .int) ∈ Tg := Tg_of (i := 278) (by decide +kernel) (by decide +kernel)
theorem iw_J3 : Cond.initialized RJ3 ∈ Tg := Tg_of (i := 105) (by decide +kernel) (by decide +kernel)
theorem ml_J0_1059 : Cond.methodLink RJ0 1059 yJ3_checkIndex_8e157 ∈ Tg := Tg_of (i := 1031) (by decide +kernel) (by decide +kernel)
theorem lk_J0_1059 : Lk RJ0 1059 yJ3_checkIndex_8e157 cJ3_checkIndex_8e157 3 (some .int) 3 := ⟨ml_J0_1059, cd_J3_checkIndex_8e157, iw_J3, by decide +kernel⟩
theorem sm_J3_checkIndex_8e157 : Cond.static yJ3_checkIndex_8e157 ∈ Tg := Tg_of (i := 277) (by decide +kernel) (by decide +kernel)
theorem ws_J0_1053 : Cond.fieldLink RJ0 1053 "jdk/internal/util/Preconditions" "SIOOBE_FORMATTER" "Ljava/util/function/BiFunction;" ∈ Tg := Tg_of (i := 1029) (by decide +kernel) (by decide +kernel)
theorem cd_J0_checkIndex_df160 : Cond.code yJ0_checkIndex_df160 cJ0_checkIndex_df160 2 none ∈ Tg := Tg_of (i := 1028) (by decide +kernel) (by decide +kernel)
theorem ml_J1_9 : Cond.methodLink RJ1 9 yJ0_checkIndex_df160 ∈ Tg := Tg_of (i := 1026) (by decide +kernel) (by decide +kernel)
theorem lk_J1_9 : Lk RJ1 9 yJ0_checkIndex_df160 cJ0_checkIndex_df160 2 none 2 := ⟨ml_J1_9, cd_J0_checkIndex_df160, iw_J0, by decide +kernel⟩
theorem sm_J0_checkIndex_df160 : Cond.static yJ0_checkIndex_df160 ∈ Tg := Tg_of (i := 1027) (by decide +kernel) (by decide +kernel)
theorem cd_J1_charAt_3b067 : Cond.code yJ1_charAt_3b067 cJ1_charAt_3b067 2 (some .char) ∈ Tg := Tg_of (i := 1025) (by decide +kernel) (by decide +kernel)
theorem ml_J0_492 : Cond.methodLink RJ0 492 yJ0_isLatin1_aae02 ∈ Tg := Tg_of (i := 1019) (by decide +kernel) (by decide +kernel)
theorem lk_J0_492 : Lk RJ0 492 yJ0_isLatin1_aae02 cJ0_isLatin1_aae02 1 (some .boolean) 0 := ⟨ml_J0_492, cd_J0_isLatin1_aae02, iw_J0, by decide +kernel⟩
theorem iw_J1 : Cond.initialized RJ1 ∈ Tg := Tg_of (i := 107) (by decide +kernel) (by decide +kernel)
theorem ml_J0_495 : Cond.methodLink RJ0 495 yJ1_charAt_3b067 ∈ Tg := Tg_of (i := 1023) (by decide +kernel) (by decide +kernel)
theorem lk_J0_495 : Lk RJ0 495 yJ1_charAt_3b067 cJ1_charAt_3b067 2 (some .char) 2 := ⟨ml_J0_495, cd_J1_charAt_3b067, iw_J1, by decide +kernel⟩
theorem cd_J0_charAt_5068e : Cond.code yJ0_charAt_5068e cJ0_charAt_5068e 2 (some .char) ∈ Tg := Tg_of (i := 1018) (by decide +kernel) (by decide +kernel)
theorem im_J0_isLatin1_aae02 : Cond.instanceMethod yJ0_isLatin1_aae02 ∈ Tg := Tg_of (i := 1020) (by decide +kernel) (by decide +kernel)
theorem se_J0_J0_isLatin1_aae02 : Cond.selects RJ0 yJ0_isLatin1_aae02 yJ0_isLatin1_aae02 ∈ Tg := Tg_of (i := 1021) (by decide +kernel) (by decide +kernel)
theorem sm_J1_charAt_3b067 : Cond.static yJ1_charAt_3b067 ∈ Tg := Tg_of (i := 1024) (by decide +kernel) (by decide +kernel)
theorem im_J0_length_8abf5 : Cond.instanceMethod yJ0_length_8abf5 ∈ Tg := Tg_of (i := 346) (by decide +kernel) (by decide +kernel)
theorem se_J0_J0_length_8abf5 : Cond.selects RJ0 yJ0_length_8abf5 yJ0_length_8abf5 ∈ Tg := Tg_of (i := 347) (by decide +kernel) (by decide +kernel)
theorem im_J0_charAt_5068e : Cond.instanceMethod yJ0_charAt_5068e ∈ Tg := Tg_of (i := 1016) (by decide +kernel) (by decide +kernel)
theorem se_J0_J0_charAt_5068e : Cond.selects RJ0 yJ0_charAt_5068e yJ0_charAt_5068e ∈ Tg := Tg_of (i := 1017) (by decide +kernel) (by decide +kernel)
section M_J3_checkIndex_8e157
variable {p : Program} {l : Launch} {e : Env} {s : State} {m : MethodId} {args : Array Value} {below : List Frame} {meth : Method} {c : Code} {G : GG} {o : Except Nat Int32} {hs' : Hs}
def j_J3_checkIndex_8e157_9 (a0 : Int32) (a1 : Int32) (a2 : Option Nat)   : OO Int32 :=
  failO
set_option maxRecDepth 100000 in
set_option maxHeartbeats 4000000 in
theorem w_j_J3_checkIndex_8e157_9 (C : Cx G l p s m args c RJ3 cJ3_checkIndex_8e157 3) (C2 : Cy meth c (some .int)) {hs : Hs} (a0 : Int32) (a1 : Int32) (a2 : Option Nat)    (h : j_J3_checkIndex_8e157_9 a0 a1 a2 hs = some (o, hs')) : WG G p l e { frames := 0, cells := 0, slots := 0, locals := 0 } s m args below meth c 3 0 0 (vx_MQ below (QcT G o hs' tvI) (XCT G o hs') args s 0 0 (gA G)) hs [(0, .int a0), (1, .int a1), (2, va_rf a2)] [] 9 := by
  unfold j_J3_checkIndex_8e157_9 at h
  refine q_aload_n C 2 dJ3_checkIndex_8e157_9 rfl ?_
  refine q_iload_n C 0 dJ3_checkIndex_8e157_10 rfl ?_
  refine q_iload_n C 1 dJ3_checkIndex_8e157_11 rfl ?_
  exact absurd h failO_e
end M_J3_checkIndex_8e157
def f_J3_checkIndex_8e157 (p0 : Int32) (p1 : Int32) (p2 : Option Nat) : OO Int32 :=
    (if p0 < 0 then
    j_J3_checkIndex_8e157_9 p0 p1 p2
    else
    (if p0 < p1 then
    rtn p0
    else
    j_J3_checkIndex_8e157_9 p0 p1 p2))
set_option maxRecDepth 100000 in
set_option maxHeartbeats 4000000 in
theorem m_J3_checkIndex_8e157 {G : GG} {l : Launch} {p0 : Int32} {p1 : Int32} {p2 : Option Nat} {hs hs' : Hs} {o : Except Nat Int32} (h : f_J3_checkIndex_8e157 p0 p1 p2 hs = some (o, hs')) : CT G l yJ3_checkIndex_8e157 cJ3_checkIndex_8e157 3 (some .int) 0 0 0 0 [.int p0, .int p1, va_rf p2] hs o hs' tvI := by
  refine vx_ofW (cc := cJ3_checkIndex_8e157) (maxL := 3) (ret := (some .int)) (by decide +kernel) rfl ?_
  intro p e s m args below meth c s₁ B hml hxt hv
  obtain ⟨hav, hR, hKn⟩ := hv
  subst hav
  have hts := atoms_spec (ws := .code yJ3_checkIndex_8e157 cJ3_checkIndex_8e157 3 (some .int) :: Tg) B.pre
  have C : Cx G l p s m _ c RJ3 cJ3_checkIndex_8e157 3 := ⟨B.exec, B.bytes, hml, findClass_of_methodNamed B.named, fun w hw => hts w (List.mem_cons_of_mem _ hw), hKn, fun q hq => Nat.le_trans hR.2.2.1 hq⟩
  have C2 : Cy meth c (some .int) := ⟨B.returns, B.notSynchronized, hxt⟩
  have key : WG G p l e { frames := 0, cells := 0, slots := 0, locals := 0 } s m ([.int p0, .int p1, va_rf p2] : List Value).toArray below meth c 3 0 0 (vx_MQ below (QcT G o hs' tvI) (XCT G o hs') ([.int p0, .int p1, va_rf p2] : List Value).toArray s 0 0 (gA G)) hs [(0, .int p0), (1, .int p1), (2, va_rf p2)] [] 0 := by
    unfold f_J3_checkIndex_8e157 at h
    refine q_iload_n C 0 dJ3_checkIndex_8e157_0 rfl ?_
    refine q_if_lt C 9 dJ3_checkIndex_8e157_1 (by decide) h (fun h => ?_) (fun h => ?_)
    · exact w_j_J3_checkIndex_8e157_9 C C2 _ _ _   h
    · refine q_iload_n C 0 dJ3_checkIndex_8e157_4 rfl ?_
      refine q_iload_n C 1 dJ3_checkIndex_8e157_5 rfl ?_
      refine q_icmp_lt C 16 dJ3_checkIndex_8e157_6 (by decide) h (fun h => ?_) (fun h => ?_)
      · refine q_iload_n C 0 dJ3_checkIndex_8e157_16 rfl ?_
        exact q_iret C C2 rfl (Nat.le_of_ble_eq_true rfl) (Nat.le_of_ble_eq_true rfl) dJ3_checkIndex_8e157_17 h
      · exact w_j_J3_checkIndex_8e157_9 C C2 _ _ _   h
  rw [lg_entry_eq]
  cases p2 <;> exact key _ _ _ hR va_S.rf ⟨lv_entry _ (n := 3) (Nat.le_of_ble_eq_true rfl), (c1_i (c1_i (c1_r c1_n)))⟩
set_option maxHeartbeats 4000000 in
set_option maxRecDepth 100000 in
theorem m_J0_coder_7d493 {G : GG} {l : Launch}  {hs : Hs}  : CT G l yJ0_coder_7d493 cJ0_coder_7d493 1 (some .byte) 0 0 0 0 [.ref G.2.2.2.2.1] hs (.ok 0 : Except Nat Int32) hs tvI := by
  refine vx_ofW (cc := cJ0_coder_7d493) (maxL := 1) (ret := (some .byte)) (by decide +kernel) rfl ?_
  intro p e s m args below meth c s₁ B hml hxt hv
  obtain ⟨hav, hR, hKn⟩ := hv
  subst hav
  have hts := atoms_spec (ws := .code yJ0_coder_7d493 cJ0_coder_7d493 1 (some .byte) :: Tg) B.pre
  have C : Cx G l p s m _ c RJ0 cJ0_coder_7d493 1 := ⟨B.exec, B.bytes, hml, findClass_of_methodNamed B.named, fun w hw => hts w (List.mem_cons_of_mem _ hw), hKn, fun q hq => Nat.le_trans hR.2.2.1 hq⟩
  have C2 : Cy meth c (some .byte) := ⟨B.returns, B.notSynchronized, hxt⟩
  have key : WG G p l e { frames := 0, cells := 0, slots := 0, locals := 0 } s m ([.ref G.2.2.2.2.1] : List Value).toArray below meth c 1 0 0 (vx_MQ below (QcT G (.ok 0 : Except Nat Int32) hs tvI) (XCT G (.ok 0 : Except Nat Int32) hs) ([.ref G.2.2.2.2.1] : List Value).toArray s 0 0 (gA G)) hs [(0, .ref G.2.2.2.2.1)] [] 0 := by
    refine q_gets C (kn_comp C.kn) ws_J0_38 dJ0_coder_7d493_0 ?_
    refine q_ifT C (by decide) dJ0_coder_7d493_3 13 (by decide) ?_
    refine q_aloadC_n C 0 dJ0_coder_7d493_6 rfl ?_
    refine q_sgetf C ((kn_S C.kn).1 0 Nat.zero_lt_one).2.1 ws_J0_15 dJ0_coder_7d493_7 ?_
    refine q_goto C 14 dJ0_coder_7d493_10 (by decide) ?_
    exact q_nret C C2 rfl (by decide) (Nat.le_of_ble_eq_true rfl) (Nat.le_of_ble_eq_true rfl) dJ0_coder_7d493_14 rfl
  rw [lg_entry_eq]
  exact key _ _ _ hR va_S.rf ⟨lv_entry _ (n := 1) (Nat.le_of_ble_eq_true rfl), (c1_a c1_n)⟩

set_option maxHeartbeats 4000000 in
set_option maxRecDepth 100000 in
theorem m_J0_isLatin1_aae02 {G : GG} {l : Launch}  {hs : Hs}  : CT G l yJ0_isLatin1_aae02 cJ0_isLatin1_aae02 1 (some .boolean) 0 0 0 0 [.ref G.2.2.2.2.1] hs (.ok 1 : Except Nat Int32) hs tvI := by
  refine vx_ofW (cc := cJ0_isLatin1_aae02) (maxL := 1) (ret := (some .boolean)) (by decide +kernel) rfl ?_
  intro p e s m args below meth c s₁ B hml hxt hv
  obtain ⟨hav, hR, hKn⟩ := hv
  subst hav
  have hts := atoms_spec (ws := .code yJ0_isLatin1_aae02 cJ0_isLatin1_aae02 1 (some .boolean) :: Tg) B.pre
  have C : Cx G l p s m _ c RJ0 cJ0_isLatin1_aae02 1 := ⟨B.exec, B.bytes, hml, findClass_of_methodNamed B.named, fun w hw => hts w (List.mem_cons_of_mem _ hw), hKn, fun q hq => Nat.le_trans hR.2.2.1 hq⟩
  have C2 : Cy meth c (some .boolean) := ⟨B.returns, B.notSynchronized, hxt⟩
  have key : WG G p l e { frames := 0, cells := 0, slots := 0, locals := 0 } s m ([.ref G.2.2.2.2.1] : List Value).toArray below meth c 1 0 0 (vx_MQ below (QcT G (.ok 1 : Except Nat Int32) hs tvI) (XCT G (.ok 1 : Except Nat Int32) hs) ([.ref G.2.2.2.2.1] : List Value).toArray s 0 0 (gA G)) hs [(0, .ref G.2.2.2.2.1)] [] 0 := by
    refine q_gets C (kn_comp C.kn) ws_J0_38 dJ0_isLatin1_aae02_0 ?_
    refine q_ifT C (by decide) dJ0_isLatin1_aae02_3 17 (by decide) ?_
    refine q_aloadC_n C 0 dJ0_isLatin1_aae02_6 rfl ?_
    refine q_sgetf C ((kn_S C.kn).1 0 Nat.zero_lt_one).2.1 ws_J0_15 dJ0_isLatin1_aae02_7 ?_
    refine q_ifF C rfl dJ0_isLatin1_aae02_10 17 (by decide) ?_
    refine q_iconst C (1 : Int32) dJ0_isLatin1_aae02_13 (by decide) ?_
    refine q_goto C 18 dJ0_isLatin1_aae02_14 (by decide) ?_
    exact q_nret C C2 rfl (by decide) (Nat.le_of_ble_eq_true rfl) (Nat.le_of_ble_eq_true rfl) dJ0_isLatin1_aae02_18 rfl
  rw [lg_entry_eq]
  exact key _ _ _ hR va_S.rf ⟨lv_entry _ (n := 1) (Nat.le_of_ble_eq_true rfl), (c1_a c1_n)⟩

set_option maxHeartbeats 4000000 in
set_option maxRecDepth 100000 in
theorem m_J0_length_8abf5 {G : GG} {l : Launch}  {hs : Hs}  : CT G l yJ0_length_8abf5 cJ0_length_8abf5 1 (some .int) 1 100 0 0 [.ref G.2.2.2.2.1] hs (.ok 10 : Except Nat Int32) hs tvI := by
  refine vx_ofW (cc := cJ0_length_8abf5) (maxL := 1) (ret := (some .int)) (by decide +kernel) rfl ?_
  intro p e s m args below meth c s₁ B hml hxt hv
  obtain ⟨hav, hR, hKn⟩ := hv
  subst hav
  have hts := atoms_spec (ws := .code yJ0_length_8abf5 cJ0_length_8abf5 1 (some .int) :: Tg) B.pre
  have C : Cx G l p s m _ c RJ0 cJ0_length_8abf5 1 := ⟨B.exec, B.bytes, hml, findClass_of_methodNamed B.named, fun w hw => hts w (List.mem_cons_of_mem _ hw), hKn, fun q hq => Nat.le_trans hR.2.2.1 hq⟩
  have C2 : Cy meth c (some .int) := ⟨B.returns, B.notSynchronized, hxt⟩
  have key : WG G p l e { frames := 1, cells := 0, slots := 0, locals := 100 } s m ([.ref G.2.2.2.2.1] : List Value).toArray below meth c 1 0 0 (vx_MQ below (QcT G (.ok 10 : Except Nat Int32) hs tvI) (XCT G (.ok 10 : Except Nat Int32) hs) ([.ref G.2.2.2.2.1] : List Value).toArray s 0 0 (gA G)) hs [(0, .ref G.2.2.2.2.1)] [] 0 := by
    refine q_aloadC_n C 0 dJ0_length_8abf5_0 rfl ?_
    refine q_sgetf C ((kn_S C.kn).1 0 Nat.zero_lt_one).2.2.1 ws_J0_9 dJ0_length_8abf5_1 ?_
    refine q_blen C dJ0_length_8abf5_4 ?_
    refine q_aloadC_n C 0 dJ0_length_8abf5_5 rfl ?_
    refine q_callStr C [] [.int 10] m_J0_coder_7d493 lk_J0_335 im_J0_coder_7d493 se_J0_J0_coder_7d493 ⟨(Nat.le_of_ble_eq_true rfl), (Nat.le_of_ble_eq_true rfl)⟩ ⟨(Nat.le_of_ble_eq_true rfl), (Nat.le_of_ble_eq_true rfl)⟩ rfl rfl (by decide) dJ0_length_8abf5_6 ?_
    refine q_ishr C dJ0_length_8abf5_9 ?_
    exact q_iret C C2 rfl (Nat.le_of_ble_eq_true rfl) (Nat.le_of_ble_eq_true rfl) dJ0_length_8abf5_10 rfl
  rw [lg_entry_eq]
  exact key _ _ _ hR va_S.rf ⟨lv_entry _ (n := 1) (Nat.le_of_ble_eq_true rfl), (c1_a c1_n)⟩

theorem f_ck {i n : Int32} {r : Option Nat} (hi : vp_in i 10) (hn : n = 10) (hs : Hs) : f_J3_checkIndex_8e157 i n r hs = some (.ok i, hs) := by
  subst hn
  have h0 : ¬ i < 0 := fun q => hi (Or.inl q)
  have h1 : ¬ (10 : Int32) ≤ i := fun q => hi (Or.inr (by
    have h2 := Int32.le_iff_toInt_le.mp q
    have h3 := (vp_in_iff.mp hi).2
    have h4 : (10 : Int32).toInt = 10 := by decide
    omega))
  have h5 : i < 10 := Int32.not_le.mp h1
  unfold f_J3_checkIndex_8e157
  rw [if_neg h0, if_pos h5]
  rfl

set_option maxHeartbeats 4000000 in
set_option maxRecDepth 100000 in
theorem m_J0_checkIndex_df160 {G : GG} {l : Launch} {i : Int32} {n : Int32} {hs : Hs} (hi : vp_in i 10) (hn10 : n = 10) : CT G l yJ0_checkIndex_df160 cJ0_checkIndex_df160 2 none 1 100 0 0 [.int i, .int n] hs (.ok () : Except Nat Unit) hs tvV := by
  refine vx_ofW (cc := cJ0_checkIndex_df160) (maxL := 2) (ret := none) (by decide +kernel) rfl ?_
  intro p e s m args below meth c s₁ B hml hxt hv
  obtain ⟨hav, hR, hKn⟩ := hv
  subst hav
  have hts := atoms_spec (ws := .code yJ0_checkIndex_df160 cJ0_checkIndex_df160 2 none :: Tg) B.pre
  have C : Cx G l p s m _ c RJ0 cJ0_checkIndex_df160 2 := ⟨B.exec, B.bytes, hml, findClass_of_methodNamed B.named, fun w hw => hts w (List.mem_cons_of_mem _ hw), hKn, fun q hq => Nat.le_trans hR.2.2.1 hq⟩
  have C2 : Cy meth c none := ⟨B.returns, B.notSynchronized, hxt⟩
  have key : WG G p l e { frames := 1, cells := 0, slots := 0, locals := 100 } s m ([.int i, .int n] : List Value).toArray below meth c 2 0 0 (vx_MQ below (QcT G (.ok () : Except Nat Unit) hs tvV) (XCT G (.ok () : Except Nat Unit) hs) ([.int i, .int n] : List Value).toArray s 0 0 (gA G)) hs [(0, .int i), (1, .int n)] [] 0 := by
    refine q_iload_n C 0 dJ0_checkIndex_df160_0 rfl ?_
    refine q_iload_n C 1 dJ0_checkIndex_df160_1 rfl ?_
    have hz : ∃ r : Option Nat, va_Z "jdk/internal/util/Preconditions" "SIOOBE_FORMATTER" "Ljava/util/function/BiFunction;" (va_rf r) (gA G) s s.heap := by
      rcases kn_fmt C.kn with h | ⟨t, h⟩
      · exact ⟨none, h⟩
      · exact ⟨some t, h⟩
    obtain ⟨r, hz⟩ := hz
    refine q_gets C hz ws_J0_1053 dJ0_checkIndex_df160_2 ?_
    refine q_callS C [.int i, .int n, va_rf r] [] (fr := f_J3_checkIndex_8e157 i n r) (K := fun _ => rtn ()) (fun o2 hs1 hm => m_J3_checkIndex_8e157 hm) lk_J0_1059 sm_J3_checkIndex_8e157 ⟨(Nat.le_of_ble_eq_true rfl), (Nat.le_of_ble_eq_true rfl)⟩ ⟨(Nat.le_of_ble_eq_true rfl), (Nat.le_of_ble_eq_true rfl)⟩ rfl rfl (by decide) dJ0_checkIndex_df160_5 (by unfold call; rw [f_ck hi hn10]; rfl) (fun v hs h => ?_)
    cases h
    refine q_pop C rfl dJ0_checkIndex_df160_8 ?_
    exact q_vret C C2 rfl (Nat.le_of_ble_eq_true rfl) (Nat.le_of_ble_eq_true rfl) dJ0_checkIndex_df160_9 rfl
  rw [lg_entry_eq]
  exact key _ _ _ hR va_S.rf ⟨lv_entry _ (n := 2) (Nat.le_of_ble_eq_true rfl), (c1_i (c1_i c1_n))⟩

theorem f_by {i : Int32} (hi : vp_in i 10) : i2c (kx_bytes.getD i.toNatClampNeg 0 &&& 255) = kx_bytes.getD i.toNatClampNeg 0 ∧ narrow .char (.int (kx_bytes.getD i.toNatClampNeg 0)) = .int (kx_bytes.getD i.toNatClampNeg 0) := by
  have h : i.toNatClampNeg < 10 := Nat.not_le.mp fun q => hi (Or.inr q)
  revert h
  generalize i.toNatClampNeg = k
  intro h
  have : ∀ k, k < 10 → i2c (kx_bytes.getD k 0 &&& 255) = kx_bytes.getD k 0 ∧ narrow .char (.int (kx_bytes.getD k 0)) = .int (kx_bytes.getD k 0) := by decide +kernel
  exact this k h

set_option maxHeartbeats 4000000 in
set_option maxRecDepth 100000 in
theorem m_J1_charAt_3b067 {G : GG} {l : Launch} {i : Int32} {hs : Hs} (hi : vp_in i 10) : CT G l yJ1_charAt_3b067 cJ1_charAt_3b067 2 (some .char) 2 200 0 0 [.ref G.2.2.2.2.2.1, .int i] hs (.ok (kx_bytes.getD i.toNatClampNeg 0) : Except Nat Int32) hs tvI := by
  refine vx_ofW (cc := cJ1_charAt_3b067) (maxL := 2) (ret := (some .char)) (by decide +kernel) rfl ?_
  intro p e s m args below meth c s₁ B hml hxt hv
  obtain ⟨hav, hR, hKn⟩ := hv
  subst hav
  have hts := atoms_spec (ws := .code yJ1_charAt_3b067 cJ1_charAt_3b067 2 (some .char) :: Tg) B.pre
  have C : Cx G l p s m _ c RJ1 cJ1_charAt_3b067 2 := ⟨B.exec, B.bytes, hml, findClass_of_methodNamed B.named, fun w hw => hts w (List.mem_cons_of_mem _ hw), hKn, fun q hq => Nat.le_trans hR.2.2.1 hq⟩
  have C2 : Cy meth c (some .char) := ⟨B.returns, B.notSynchronized, hxt⟩
  have key : WG G p l e { frames := 2, cells := 0, slots := 0, locals := 200 } s m ([.ref G.2.2.2.2.2.1, .int i] : List Value).toArray below meth c 2 0 0 (vx_MQ below (QcT G (.ok (kx_bytes.getD i.toNatClampNeg 0) : Except Nat Int32) hs tvI) (XCT G (.ok (kx_bytes.getD i.toNatClampNeg 0) : Except Nat Int32) hs) ([.ref G.2.2.2.2.2.1, .int i] : List Value).toArray s 0 0 (gA G)) hs [(0, .ref G.2.2.2.2.2.1), (1, .int i)] [] 0 := by
    refine q_iload_n C 1 dJ1_charAt_3b067_0 rfl ?_
    refine q_aloadC_n C 0 dJ1_charAt_3b067_1 rfl ?_
    refine q_blen C dJ1_charAt_3b067_2 ?_
    refine q_callS C [.int i, .int 10] [] (fr := fun h => some (.ok (), h)) (K := fun _ h => some ((.ok (kx_bytes.getD i.toNatClampNeg 0) : Except Nat Int32), h)) (fun o2 hs1 hm => by cases hm; exact m_J0_checkIndex_df160 hi rfl) lk_J1_9 sm_J0_checkIndex_df160 ⟨(Nat.le_of_ble_eq_true rfl), (Nat.le_of_ble_eq_true rfl)⟩ ⟨(Nat.le_of_ble_eq_true rfl), (Nat.le_of_ble_eq_true rfl)⟩ rfl rfl (by decide) dJ1_charAt_3b067_3 rfl (fun v hs h => ?_)
    cases h
    refine q_aloadC_n C 0 dJ1_charAt_3b067_6 rfl ?_
    refine q_iload_n C 1 dJ1_charAt_3b067_7 rfl ?_
    refine q_bald C hi dJ1_charAt_3b067_8 ?_
    refine q_sipush C (255 : Int32) dJ1_charAt_3b067_9 (by decide) ?_
    refine q_iand C dJ1_charAt_3b067_12 ?_
    refine q_i2c C dJ1_charAt_3b067_13 ?_
    rw [(f_by hi).1]
    exact q_nret C C2 rfl (f_by hi).2 (Nat.le_of_ble_eq_true rfl) (Nat.le_of_ble_eq_true rfl) dJ1_charAt_3b067_14 rfl
  rw [lg_entry_eq]
  exact key _ _ _ hR va_S.rf ⟨lv_entry _ (n := 2) (Nat.le_of_ble_eq_true rfl), (c1_a (c1_i c1_n))⟩

set_option maxHeartbeats 4000000 in
set_option maxRecDepth 100000 in
theorem m_J0_charAt_5068e {G : GG} {l : Launch} {i : Int32} {hs : Hs} (hi : vp_in i 10) : CT G l yJ0_charAt_5068e cJ0_charAt_5068e 2 (some .char) 3 300 0 0 [.ref G.2.2.2.2.1, .int i] hs (.ok (kx_bytes.getD i.toNatClampNeg 0) : Except Nat Int32) hs tvI := by
  refine vx_ofW (cc := cJ0_charAt_5068e) (maxL := 2) (ret := (some .char)) (by decide +kernel) rfl ?_
  intro p e s m args below meth c s₁ B hml hxt hv
  obtain ⟨hav, hR, hKn⟩ := hv
  subst hav
  have hts := atoms_spec (ws := .code yJ0_charAt_5068e cJ0_charAt_5068e 2 (some .char) :: Tg) B.pre
  have C : Cx G l p s m _ c RJ0 cJ0_charAt_5068e 2 := ⟨B.exec, B.bytes, hml, findClass_of_methodNamed B.named, fun w hw => hts w (List.mem_cons_of_mem _ hw), hKn, fun q hq => Nat.le_trans hR.2.2.1 hq⟩
  have C2 : Cy meth c (some .char) := ⟨B.returns, B.notSynchronized, hxt⟩
  have key : WG G p l e { frames := 3, cells := 0, slots := 0, locals := 300 } s m ([.ref G.2.2.2.2.1, .int i] : List Value).toArray below meth c 2 0 0 (vx_MQ below (QcT G (.ok (kx_bytes.getD i.toNatClampNeg 0) : Except Nat Int32) hs tvI) (XCT G (.ok (kx_bytes.getD i.toNatClampNeg 0) : Except Nat Int32) hs) ([.ref G.2.2.2.2.1, .int i] : List Value).toArray s 0 0 (gA G)) hs [(0, .ref G.2.2.2.2.1), (1, .int i)] [] 0 := by
    refine q_aloadC_n C 0 dJ0_charAt_5068e_0 rfl ?_
    refine q_callStr C [] [] m_J0_isLatin1_aae02 lk_J0_492 im_J0_isLatin1_aae02 se_J0_J0_isLatin1_aae02 ⟨(Nat.le_of_ble_eq_true rfl), (Nat.le_of_ble_eq_true rfl)⟩ ⟨(Nat.le_of_ble_eq_true rfl), (Nat.le_of_ble_eq_true rfl)⟩ rfl rfl (by decide) dJ0_charAt_5068e_1 ?_
    refine q_ifT C (by decide) dJ0_charAt_5068e_4 16 (by decide) ?_
    refine q_aloadC_n C 0 dJ0_charAt_5068e_7 rfl ?_
    refine q_sgetf C ((kn_S C.kn).1 0 Nat.zero_lt_one).2.2.1 ws_J0_9 dJ0_charAt_5068e_8 ?_
    refine q_iload_n C 1 dJ0_charAt_5068e_11 rfl ?_
    refine q_callS C [.ref G.2.2.2.2.2.1, .int i] [] (fr := fun h => some (.ok (kx_bytes.getD i.toNatClampNeg 0), h)) (K := fun v h => some ((.ok v : Except Nat Int32), h)) (fun o2 hs1 hm => by cases hm; exact m_J1_charAt_3b067 hi) lk_J0_495 sm_J1_charAt_3b067 ⟨(Nat.le_of_ble_eq_true rfl), (Nat.le_of_ble_eq_true rfl)⟩ ⟨(Nat.le_of_ble_eq_true rfl), (Nat.le_of_ble_eq_true rfl)⟩ rfl rfl (by decide) dJ0_charAt_5068e_12 rfl (fun v hs h => ?_)
    cases h
    exact q_nret C C2 rfl (f_by hi).2 (Nat.le_of_ble_eq_true rfl) (Nat.le_of_ble_eq_true rfl) dJ0_charAt_5068e_15 rfl
  rw [lg_entry_eq]
  exact key _ _ _ hR va_S.rf ⟨lv_entry _ (n := 2) (Nat.le_of_ble_eq_true rfl), (c1_a (c1_i c1_n))⟩

section ROWS5
variable {p : Program} {l : Launch} {e : Env} {R : Room} {s : State} {m : MethodId} {args : Array Value} {below : List Frame} {meth : Method} {c : Code} {cells slots : Nat} {Q : State → Prop}
variable {G : GG} {own : String} {cc : ByteArray} {nL pc : Nat} {hs : Hs} {lv : List (Nat × Value)} {st : List Value} {rt : Option FieldType} {RT : Type} {o : Except Nat RT × Hs}
theorem q_strlen (C : Cx G l p s m args c own cc nL) {index : Nat} (hl : Cond.methodLink own index yJ0_length_8abf5 ∈ Tg) (hRm : 8 ≤ R.frames ∧ 340 ≤ R.locals) (hf : cells ≤ R.cells ∧ slots ≤ R.slots) (hroom : (st.map fun v => v.category).sum ≤ 8) (d : decode cc pc = .ok (.invokevirtual index, 3)) (kk : WG G p l e R s m args below meth c nL cells slots Q hs lv (.int 10 :: st) (pc + 3)) : WG G p l e R s m args below meth c nL cells slots Q hs lv (.ref G.2.2.2.2.1 :: st) pc :=
  q_callStr C [] st m_J0_length_8abf5 (n := 0) ⟨hl, cd_J0_length_8abf5, iw_J0, by decide +kernel⟩ im_J0_length_8abf5 se_J0_J0_length_8abf5 ⟨by omega, by omega⟩ hf rfl rfl hroom d kk
theorem q_charAt (C : Cx G l p s m args c own cc nL) {index : Nat} {i : Int32} {K : Int32 → OO RT} (hl : Cond.methodLink own index yJ0_charAt_5068e ∈ Tg) (hRm : 8 ≤ R.frames ∧ 340 ≤ R.locals) (hf : cells ≤ R.cells ∧ slots ≤ R.slots) (hroom : (st.map fun v => v.category).sum ≤ 8) (d : decode cc pc = .ok (.invokevirtual index, 3)) (h : letAt i K hs = some o) (kk : ∀ x : Int32, K x hs = some o → WG G p l e R s m args below meth c nL cells slots Q hs lv (.int x :: st) (pc + 3)) : WG G p l e R s m args below meth c nL cells slots Q hs lv (.int i :: .ref G.2.2.2.2.1 :: st) pc := by
  unfold letAt at h
  split at h
  · rename_i hi
    exact q_callStr C [.int i] st (m_J0_charAt_5068e hi) (n := 1) ⟨hl, cd_J0_charAt_5068e, iw_J0, by decide +kernel⟩ im_J0_charAt_5068e se_J0_J0_charAt_5068e ⟨by omega, by omega⟩ hf rfl rfl hroom d (kk _ h)
  · cases h
end ROWS5
