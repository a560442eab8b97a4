theorem vy_wp {Q : Unit → Pre} {E : CtlPost} {e : Env} {d : Bool} {acts : List Action} {s : State} {f : JFrame} {index i a : Nat} {k : Class} {cf : ClassFile}
    (hs : s.topJava?.isSome) (hk : s.vm.classes[f.method.cls]? = some k) (hcf : k.cf = some cf) (hc : cf.constantPool[index]? = some (.string i))
    (hr : k.resolved[index]? = some (some (.string a))) :
    wp (ldc_w.sem index) Q E e d acts (s.setTop f) ↔ Q () true acts (s.setTop { f with stack := .ref a :: f.stack }) := ldc.wp_string hs hk hcf hc hr
theorem vy_ldcW {p : Program} {l : Launch} {e : Env} {R : Room} {s : State} {m : MethodId} {args : Array Value} {below : List Frame} {meth : Method} {c : Code} {T : State} {locs : List Loc} {cells slots : Nat}
    (X : Stand p l e R s m args below meth c T locs cells slots) (hexec : p.tables.exec = Jvm.exec) {own text : String} {index : Nat} {a : Addr} (hown : s.vm.findClass own = some m.cls)
    (hconst : (Cond.stringRef own index text).before args s = true) (hev : (Term.string own index).eval args s none [] s = some (.ref a)) {g : JFrame} (hg : g.method = m) (hdg : decode c.code g.pc = .ok (.ldc_w index, 3)) :
    ∀ target, Steps p.tables e below (T.setTop { g with pc := g.pc + 3, stack := .ref a :: g.stack }) target → Steps p.tables e below (T.setTop g) target := by
  obtain ⟨k, cf, i, a', hk, hcf, hcp, -, hr, hev'⟩ := Cond.stringRef_spec hown hconst
  cases hev.symm.trans hev'
  obtain ⟨k', hk', he⟩ := X.warmed.alike.2.2 _ _ hk
  have hr' : k'.resolved[index]? = some (some (.string a)) := by
    rcases X.warmed.entry hk hk' index with h | ⟨h, -⟩
    · rw [h]; exact hr
    · rw [hr] at h; cases h
  intro target hrest
  subst hg
  jvm_step X.here [hexec, hdg, vy_wp (e := e) (s := T) (f := g) X.here.top hk' (by rw [he]; exact hcf) hcp hr']
  exact hrest
section VYK
variable {p : Program} {l : Launch} {e : Env} {R : Room} {s : State} {m : MethodId} {args : Array Value} {below : List Frame} {meth : Method} {c : Code} {H : Heap} {locs : List Loc} {cells slots : Nat} {Q : State → Prop}
variable {ls : Array Slot} {rest : List Value}
theorem vy_make {cc : ByteArray} {pc : Nat} (hexec : p.tables.exec = Jvm.exec) (hb : c.code = cc) (hl : l.stackTraces = false) {own cls text : String} {names : List String} {ik is ic sa : Nat} {A : Nat → Prop} {ln : Nat}
    (hown : s.vm.findClass own = some m.cls) (hcls : Bundle.fit cls = true) (hnames : ∀ n ∈ names, Bundle.fit n = true)
    (hk : (Cond.classLink own ik cls).before args s = true) (hini : (Cond.initialized cls).before args s = true) (hstr : vk_R own is text sa s) (hat : ∀ w ∈ vx_atS own ic cls names, w.before args s = true)
    (hgood : ∀ w ∈ Cond.classLink own ik cls :: Cond.initialized cls :: vx_atS own ic cls names, vx_ot w = true)
    (hU : vx_Zq Bundle.tN "UNASSIGNED_STACK" Bundle.steD A s s.heap) (hN : vx_Zq Bundle.tN "SUPPRESSED_SENTINEL" Bundle.listD A s s.heap) (hS : va_S A s.heap H locs) (hsize : ls.size = c.maxLocals)
    (d0 : decode cc pc = .ok (.new ik, 3)) (d3 : decode cc (pc + 3) = .ok (.dup, 1)) (d4 : (ln = 2 ∧ decode cc (pc + 4) = .ok (.ldc is, 2)) ∨ (ln = 3 ∧ decode cc (pc + 4) = .ok (.ldc_w is, 3))) (d6 : decode cc (pc + 4 + ln) = .ok (.invokespecial ic, 3))
    (hRframes : names.length + 3 < R.frames) (hRlocals : (rest.map fun v => v.category).sum + (13 * (names.length + 1) + 43) ≤ R.locals) (hRcells : cells + 1 ≤ R.cells) (hRslots : slots + 6 ≤ R.slots)
    (kk : ∀ (q : Nat) (H1 : Heap) (ce : Cell), H1[q]? = some ce → ce.vm = .none → s.vm.findClass cls = some ce.cls → H.size ≤ H1.size → (∀ z, z < H.size → H1[z]? = H[z]?) → W p l e R s m args below meth c H1 locs (cells + 1) (slots + 6) Q (F0 m (pc + 4 + ln + 3) ls (.ref q :: rest))) :
    W p l e R s m args below meth c H locs cells slots Q (F0 m pc ls rest) := by
  intro T hT X
  subst hT
  have htr : e.platform.stackTraces = false := (show e.platform.stackTraces = l.stackTraces by rw [X.admits.platform]).trans hl
  have Y := vx_rebase X (R' := { frames := R.frames, locals := R.locals, cells := 1, slots := 6 }) (Nat.le_refl _) (Nat.le_refl _) hRcells hRslots
  obtain ⟨s', hA'⟩ : ∃ z, z = (T.setVm s.vm).setFrames (.invoking m args :: below) := ⟨_, rfl⟩
  rw [← hA'] at Y
  have hvm : s'.vm = s.vm := by rw [hA']; rfl
  have hhp : s'.heap = T.heap := by rw [hA']; rfl
  have hW0 : s.WarmedH s'.vm := by rw [hvm]; exact State.WarmedH.refl s
  have hat' : ∀ w ∈ vx_atS own ic cls names, w.before args s' = true := fun w hw => vx_ot_at hW0 hvm.symm (hgood w (List.mem_cons_of_mem _ (List.mem_cons_of_mem _ hw))) (hat w hw)
  have hk' : (Cond.classLink own ik cls).before args s' = true := vx_ot_at hW0 hvm.symm (hgood _ List.mem_cons_self) hk
  have hini' : (Cond.initialized cls).before args s' = true := vx_ot_at hW0 hvm.symm (hgood _ (List.mem_cons_of_mem _ List.mem_cons_self)) hini
  have hU' : vx_Zq Bundle.tN "UNASSIGNED_STACK" Bundle.steD A s' s'.heap := by rw [hhp]; exact vx_Zq.moved hW0.alike (hU.kept hS.2.1)
  have hN' : vx_Zq Bundle.tN "SUPPRESSED_SENTINEL" Bundle.listD A s' s'.heap := by rw [hhp]; exact vx_Zq.moved hW0.alike (hN.kept hS.2.1)
  have h : ∀ w ∈ Bundle.ownAtoms own ic cls names, w.before args s' = true := vx_own hat' (vx_isRefq hU'.1) (vx_isRefq hN'.1) hU'.2.word hN'.2.word
  have hown' : s'.vm.findClass own = some m.cls := by rw [hvm]; exact hown
  have hins : (Cond.instantiable cls 6).before args s' = true := h _ (by simp [Bundle.ownAtoms])
  obtain ⟨vm₁, cX, kX, hfX, hkX, -, -, X₁, st1⟩ := Y.newCold hexec (own := own) (C := cls) (index := ik) (n := 6) hown' hk' hins hini'
    (g := F0 m pc ls rest) rfl (by rw [hb]; exact d0) (Nat.le_refl _) (Nat.le_refl _)
  generalize hT1 : (T.setVm vm₁).pushCell { cls := cX, slots := kX.instanceTypes.map defaultValue, vm := .none } = T1 at X₁ st1
  have hcat : (Value.ref T.heap.size).category = 1 := rfl
  have hcellA : T1.heap[T.heap.size]? = some (freshCell cX kX) := by rw [← hT1]; exact State.heap_pushCell_size _ _
  have d3' : decode c.code (pc + 3) = .ok (.dup, 1) := by rw [hb]; exact d3
  have hstr' : vk_R own is text sa s' := vk_R.warm hW0 hstr
  obtain ⟨V, ce, L, Z, hL, hlt, hcl9, hvm9, st⟩ := vx_ctorMadeS X₁ hexec htr (own := own) (cls := cls) (names := names) (ic := ic) hown' hcls hnames h (fun x hx => nomatch hx) hfX hkX hcellA (by rw [hhp]; exact Nat.le_refl _) (msg := .ref sa) rfl
    (g := { method := m, pc := pc + 4 + ln, locals := ls, stack := .ref sa :: .ref T.heap.size :: .ref T.heap.size :: rest, locked := none }) rfl hsize (rest := rest) rfl
    (by rw [hb]; exact d6) hRframes (by simp only [List.map_cons, List.sum_cons, hcat]; omega)
  have Z0 := Stand.forget (locs := []) Z (fun y hy => by rw [hL y hy, hhp]; exact Nat.le_refl _)
  obtain ⟨f1, f2⟩ := vx_frame Z0.same
  rw [hhp] at f1 f2
  have hcid : s.vm.findClass cls = some ce.cls := by
    rw [hcl9]
    rw [hvm] at hfX
    exact hfX
  have hh : (V.setCell T.heap.size ce).heap[T.heap.size]? = some ce := heapAt_setCell_self (s := V) ce hlt
  subst hA'
  have X5 := vx_back9 X Y Z0
  have X6 : Stand p l e R s m args below meth c (V.setCell T.heap.size ce) locs (cells + 1) (slots + 6) := { X5 with same := X5.same.mono (by omega) (by omega) }
  obtain ⟨t, a1, b1⟩ := kk T.heap.size (V.setCell T.heap.size ce).heap ce hh hvm9 hcid f1 (fun q hq => f2 q hq (fun z hz => nomatch hz)) _ rfl X6
  refine ⟨t, st1 _ ?_, b1⟩
  show Steps p.tables e below (T1.setTop { method := m, pc := pc + 3, locals := ls, stack := .ref T.heap.size :: rest, locked := none }) _
  jvm_step X₁.here [X₁.here.top, hexec, d3', Value.category]
  rcases d4 with ⟨rfl, d4⟩ | ⟨rfl, d4⟩
  · exact X₁.ldcString hexec (own := own) (text := text) (index := is) (a := sa) hown' hstr'.1 hstr'.2
      (g := { method := m, pc := pc + 4, locals := ls, stack := .ref T.heap.size :: .ref T.heap.size :: rest, locked := none }) rfl (by rw [hb]; exact d4) _ (st _ a1)
  · exact vy_ldcW X₁ hexec (own := own) (text := text) (index := is) (a := sa) hown' hstr'.1 hstr'.2
      (g := { method := m, pc := pc + 4, locals := ls, stack := .ref T.heap.size :: .ref T.heap.size :: rest, locked := none }) rfl (by rw [hb]; exact d4) _ (st _ a1)
end VYK
def exS : List String := ["java/lang/RuntimeException", "java/lang/Exception"]
def ThrA (own : String) (ic k : Nat) : Prop := (∀ w ∈ (vx_atS own ic (exN k) exS).filter goodWord, w ∈ Tg) ∧ (∀ w ∈ (vx_atS own ic (exN k) exS).filter (fun w => !goodWord w), w ∈ kx_cast.map (fun q => Cond.castable q.1 q.2) ++ kx_decl.map Cond.declares) ∧ (∀ w ∈ vx_atS own ic (exN k) exS, vx_ot w = true) ∧ Bundle.fit (exN k) = true ∧ (∀ n ∈ exS, Bundle.fit n = true) ∧ k < 6
section ROWS3
variable {p : Program} {l : Launch} {e : Env} {R : Room} {s : State} {m : MethodId} {args : Array Value} {below : List Frame} {meth : Method} {c : Code} {cells slots : Nat} {Q : State → Prop}
variable {G : GG} {own : String} {cc : ByteArray} {nL pc : Nat} {hs : Hs} {lv : List (Nat × Value)} {st : List Value} {rt : Option FieldType} {RT : Type}
theorem q_throw {o : Except Nat RT} {hs' : Hs} {tv : RT → Option Value} {mc ms ln ik is ic k : Nat} {tx : String} (C : Cx G l p s m args c own cc nL) (C2 : Cy meth c rt) (hcl : Cond.classLink own ik (exN k) ∈ Tg) (hini : Cond.initialized (exN k) ∈ Tg) (T : ThrA own ic k) (hstr : (own, is, tx) ∈ kx_str)
    (hRf : 6 ≤ R.frames) (hRl : 200 ≤ R.locals) (hRc : cells + 1 ≤ R.cells) (hRs : slots + 6 ≤ R.slots) (hc : cells + 1 ≤ mc) (hsl : slots + 6 ≤ ms) (hroom : (st.map fun v => v.category).sum ≤ 8)
    (d0 : decode cc pc = .ok (.new ik, 3)) (d3 : decode cc (pc + 3) = .ok (.dup, 1)) (d4 : (ln = 2 ∧ decode cc (pc + 4) = .ok (.ldc is, 2)) ∨ (ln = 3 ∧ decode cc (pc + 4) = .ok (.ldc_w is, 3))) (d6 : decode cc (pc + 4 + ln) = .ok (.invokespecial ic, 3)) (d9 : decode cc (pc + 4 + ln + 3) = .ok (.athrow, 1))
    (h : nthrow k hs = some (o, hs')) : WG G p l e R s m args below meth c nL cells slots (vx_MQ below (QcT G o hs' tv) (XCT G o hs') args s mc ms (gA G)) hs lv st pc := by
  cases h
  intro H locs ls hR hS c1
  have hKn := C.2.2.2.2.2.1
  obtain ⟨sa, hsa⟩ := hKn.2.2.2.2.1 _ hstr
  obtain ⟨t1, t2, t3, t4, t5, -⟩ := T
  have hat : ∀ w ∈ vx_atS own ic (exN k) exS, w.before args s = true := by
    intro w hw
    by_cases g : goodWord w = true
    · exact C.2.2.2.2.1 w (t1 w (List.mem_filter.mpr ⟨hw, g⟩))
    · have h2 := t2 w (List.mem_filter.mpr ⟨hw, by simp only [Bool.not_eq_true] at g; rw [g]; rfl⟩)
      rcases List.mem_append.mp h2 with h2 | h2
      · obtain ⟨q, hq, rfl⟩ := List.mem_map.mp h2
        exact va_Nw.use rfl (hKn.2.2.2.1 q hq)
      · obtain ⟨q, hq, rfl⟩ := List.mem_map.mp h2
        exact va_Nw.use rfl (hKn.2.2.2.2.2.2.2.2.2.2.2.2.2.1 q hq)
  refine vy_make C.1 C.2.1 hKn.2.1 C.2.2.2.1 t4 t5 (C.2.2.2.2.1 _ hcl) (C.2.2.2.2.1 _ hini) hsa hat (fun w hw => ?_) hKn.2.2.2.2.2.1 hKn.2.2.2.2.2.2.1 hS (c1.1.1.trans C.2.2.1.symm) d0 d3 d4 d6 (by show 2 + 3 < _; omega) (by show _ + (13 * (2 + 1) + 43) ≤ _; omega) hRc hRs (fun q H1 ce h1 h2 h3 h4 h5 => ?_)
  · rcases List.mem_cons.mp hw with rfl | hw
    · rfl
    · rcases List.mem_cons.mp hw with rfl | hw
      · rfl
      · exact t3 w hw
  · have hS1 : va_S (gA G) s.heap H1 locs := ⟨Nat.le_trans hS.1 h4, fun q q1 q2 => (h5 q (Nat.lt_of_lt_of_le q1 hS.1)).trans (hS.2.1 q q1 q2), hS.2.2⟩
    refine vx_athrow C.1 C.2.1 d9 ?_
    exact vx_out (fun x hx => (C2.2.2 x hx).elim) C2.2.1 h1 h2 h3 (fun t ht hW => ⟨⟨k, H1.size, rfl, rfl, by rw [ht]; exact hR.grown h4 h5⟩, hS1.F ht⟩) hS1.2.2 hc hsl
theorem q_castS (C : Cx G l p s m args c own cc nL) {o : Except Nat RT × Hs} {index ci : Nat} {nm : String} {T : u_T} {N : Nat} {r : Option Nat} {K : OO RT} (hc : vwCl[ci]? = some (nm, T, N)) (hl : Cond.classLink own index nm ∈ Tg) (d : decode cc pc = .ok (.checkcast index, 3)) (h : cst r ci K hs = some o) (kk : K hs = some o → WG G p l e R s m args below meth c nL cells slots Q hs lv (va_rf r :: st) (pc + 3)) : WG G p l e R s m args below meth c nL cells slots Q hs lv (va_rf r :: st) pc := by
  unfold cst at h
  split at h
  · intro H locs ls hR hS c1
    exact lv_castN C.1 C.2.1 d (kk h H locs ls hR hS c1)
  · rename_i a
    split at h
    · rename_i c2 fs ha
      split at h
      · rename_i hci
        subst hci
        intro H locs ls hR hS c1
        exact va_castS C.1 C.2.1 C.2.2.2.1 (C.2.2.2.2.1 _ hl) (C.2.2.2.2.2.1.1.1 _ _ hc).2 (va_recv C.2.2.2.2.2.1.1 (hR.P ha) hc (q0 := 0) rfl) d (kk h H locs ls hR hS c1)
      · cases h
    · cases h
end ROWS3
set_option maxRecDepth 100000 in
theorem at_test : ThrA RX8 422 0 := ⟨by decide +kernel, by decide +kernel, by decide +kernel, by decide +kernel, by decide +kernel, by decide⟩
