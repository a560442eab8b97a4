/-! rows for the law's own body -/
/-- all cells lie below the heap's size -/
def Bd (h : Hp) (sz : Nat) : Prop := ∀ (a : Nat) (e : Ce), h a = some e → a < sz
theorem Rep.bd {G : GG} {hs : Hs} {H : Heap} (h : Rep G hs H) : Bd hs.1 hs.2.1 := fun a e ha => by rw [← h.1]; exact (h.2.2.2 a e ha).lt
def opI (fw fm : OO Int32) (m0 out : Nat) (next : Hs → Prop) (hs : Hs) : Prop := ∃ (k : Int32) (hs1 : Hs), fw hs = some (.ok k, hs1) ∧ (∃ fs, hs1.1 m0 = some (aO 12 fs)) ∧ ∀ sz : Nat, Bd hs1.1 sz → ∃ (b : Int32) (hs2 : Hs), fm (hs1.1, sz, hs1.2.2) = some (.ok b, hs2) ∧ (∃ fs, hs2.1 m0 = some (aO 12 fs)) ∧ f_X9_thrown m0 hs2 = some (.ok k, hs2) ∧ (k = 0 → ∃ f : Nat → Int64, hs2.1 out = some (aL 1 f) ∧ f 0 = b.toInt64) ∧ next hs2
def opZ (fw fm : OO Int32) (m0 out : Nat) (next : Hs → Prop) (hs : Hs) : Prop := ∃ (k : Int32) (hs1 : Hs), fw hs = some (.ok k, hs1) ∧ (∃ fs, hs1.1 m0 = some (aO 12 fs)) ∧ ∀ sz : Nat, Bd hs1.1 sz → ∃ (b : Int32) (hs2 : Hs), fm (hs1.1, sz, hs1.2.2) = some (.ok b, hs2) ∧ (∃ fs, hs2.1 m0 = some (aO 12 fs)) ∧ f_X9_thrown m0 hs2 = some (.ok k, hs2) ∧ (k = 0 → ∃ f : Nat → Int64, hs2.1 out = some (aL 1 f) ∧ f 0 = (if b = 0 then 0 else 1)) ∧ next hs2
def opD (fx fm : OO Int32) (x0 m0 : Nat) (next : Hs → Prop) (hs : Hs) : Prop := (∃ fs, hs.1 x0 = some (aO 11 fs)) ∧ ∃ (r : Int32) (hs1 hs2 : Hs), fx hs = some (.ok r, hs1) ∧ (∃ fs, hs1.1 m0 = some (aO 12 fs)) ∧ fm hs1 = some (.ok r, hs2) ∧ next hs2
def opF (fw : OO Int32) (fm : OO UInt32) (m0 outD : Nat) (next : Hs → Prop) (hs : Hs) : Prop := ∃ (k : Int32) (hs1 : Hs), fw hs = some (.ok k, hs1) ∧ (∃ fs, hs1.1 m0 = some (aO 12 fs)) ∧ ∀ sz : Nat, Bd hs1.1 sz → ∃ (b : UInt32) (hs2 : Hs), fm (hs1.1, sz, hs1.2.2) = some (.ok b, hs2) ∧ (∃ fs, hs2.1 m0 = some (aO 12 fs)) ∧ f_X9_thrown m0 hs2 = some (.ok k, hs2) ∧ (k = 0 → ∃ f : Nat → UInt64, hs2.1 outD = some (aD 1 f) ∧ vf_n64 (FP.f2d b) ∧ Op.cmpValue (FP.dcmp (f 0) (FP.f2d b)) .l = 0) ∧ next hs2
def opW (fw : OO Int32) (fm : OO UInt64) (m0 outD : Nat) (next : Hs → Prop) (hs : Hs) : Prop := ∃ (k : Int32) (hs1 : Hs), fw hs = some (.ok k, hs1) ∧ (∃ fs, hs1.1 m0 = some (aO 12 fs)) ∧ ∀ sz : Nat, Bd hs1.1 sz → ∃ (b : UInt64) (hs2 : Hs), fm (hs1.1, sz, hs1.2.2) = some (.ok b, hs2) ∧ (∃ fs, hs2.1 m0 = some (aO 12 fs)) ∧ f_X9_thrown m0 hs2 = some (.ok k, hs2) ∧ (k = 0 → ∃ f : Nat → UInt64, hs2.1 outD = some (aD 1 f) ∧ Op.cmpValue (FP.dcmp (f 0) b) .l = 0) ∧ next hs2
theorem lg_self (x : Int64) : lg_cmp x x = 0 := by simp [lg_cmp]
section ROWS10
variable {p : Program} {l : Launch} {e : Env} {R : Room} {s : State} {m : MethodId} {args : Array Value} {below : List Frame} {meth : Method} {c : Code} {cells slots : Nat} {Q : State → Prop}
variable {G : GG} {own : String} {cc : ByteArray} {nL pc : Nat} {hs : Hs} {lv : List (Nat × Value)} {st : List Value} {rt : Option FieldType}
theorem q_scr (C : Cx G l p s m args c own cc nL) {b L : Nat} {xs : Nat → Int32} (hX : va_X b L xs s s.heap) (hbl : b < s.heap.size) (hbA : ¬ gA G b) {i : Int32} (hin : vp_in i L) (d : decode cc pc = .ok (.iaload, 1)) (kk : WG G p l e R s m args below meth c nL cells slots Q hs lv (.int (xs i.toNatClampNeg) :: st) (pc + 1)) : WG G p l e R s m args below meth c nL cells slots Q hs lv (.int i :: va_rf (some b) :: st) pc :=
  fun H locs ls hR hS c1 => va_sld C.1 C.2.1 hX hbl hbA hS hin d (kk H locs ls hR hS c1)
theorem q_slen (C : Cx G l p s m args c own cc nL) {b L : Nat} {xs : Nat → Int32} (hX : va_X b L xs s s.heap) (hbl : b < s.heap.size) (hbA : ¬ gA G b) (d : decode cc pc = .ok (.arraylength, 1)) (kk : WG G p l e R s m args below meth c nL cells slots Q hs lv (.int (Int32.ofNat L) :: st) (pc + 1)) : WG G p l e R s m args below meth c nL cells slots Q hs lv (va_rf (some b) :: st) pc :=
  fun H locs ls hR hS c1 => va_slen C.1 C.2.1 hX hbl hbA hS d (kk H locs ls hR hS c1)
theorem q_icmpT (C : Cx G l p s m args c own cc nL) {x y : Int32} {off : Int} (tgt : Nat) (hxy : x = y) (d : decode cc pc = .ok (.if_icmp .eq off, 3)) (ht : (pc : Int) + off = (tgt : Int)) (kk : WG G p l e R s m args below meth c nL cells slots Q hs lv st tgt) : WG G p l e R s m args below meth c nL cells slots Q hs lv (.int y :: .int x :: st) pc :=
  fun H locs ls hR hS c1 => lv_icmp_eq C.1 C.2.1 d ht (fun _ => kk H locs ls hR hS c1) (fun q => absurd hxy q)
theorem q_ifneT (C : Cx G l p s m args c own cc nL) {x : Int32} {off : Int} (tgt : Nat) (hx : ¬ x = 0) (d : decode cc pc = .ok (.ifCond .ne off, 3)) (ht : (pc : Int) + off = (tgt : Int)) (kk : WG G p l e R s m args below meth c nL cells slots Q hs lv st tgt) : WG G p l e R s m args below meth c nL cells slots Q hs lv (.int x :: st) pc :=
  fun H locs ls hR hS c1 => lv_if_ne C.1 C.2.1 d ht (fun _ => kk H locs ls hR hS c1) (fun q => absurd q hx)
theorem q_ifeqT (C : Cx G l p s m args c own cc nL) {x : Int32} {off : Int} (tgt : Nat) (hx : x = 0) (d : decode cc pc = .ok (.ifCond .eq off, 3)) (ht : (pc : Int) + off = (tgt : Int)) (kk : WG G p l e R s m args below meth c nL cells slots Q hs lv st tgt) : WG G p l e R s m args below meth c nL cells slots Q hs lv (.int x :: st) pc :=
  fun H locs ls hR hS c1 => lv_if_eq C.1 C.2.1 d ht (fun _ => kk H locs ls hR hS c1) (fun q => absurd hx q)
theorem q_lald (C : Cx G l p s m args c own cc nL) {a n : Nat} {f : Nat → Int64} {i : Int32} (ha : hs.1 a = some (aL n f)) (hi : vp_in i n) (d : decode cc pc = .ok (.laload, 1)) (kk : WG G p l e R s m args below meth c nL cells slots Q hs lv (.long (f i.toNatClampNeg) :: st) (pc + 1)) : WG G p l e R s m args below meth c nL cells slots Q hs lv (.int i :: va_rf (some a) :: st) pc :=
  fun H locs ls hR hS c1 => va_lald (cA := G.2.1 2) C.1 C.2.1 C.kn.1 (hR.P ha) 0 2 rfl rfl hi d (kk H locs ls hR hS c1)
theorem q_dald (C : Cx G l p s m args c own cc nL) {a n : Nat} {f : Nat → UInt64} {i : Int32} (ha : hs.1 a = some (aD n f)) (hi : vp_in i n) (d : decode cc pc = .ok (.daload, 1)) (kk : WG G p l e R s m args below meth c nL cells slots Q hs lv (.double (f i.toNatClampNeg) :: st) (pc + 1)) : WG G p l e R s m args below meth c nL cells slots Q hs lv (.int i :: va_rf (some a) :: st) pc :=
  fun H locs ls hR hS c1 => va_dald (cA := G.2.1 3) C.1 C.2.1 C.kn.1 (hR.P ha) 0 3 rfl rfl hi d (kk H locs ls hR hS c1)
theorem q_lcmpE (C : Cx G l p s m args c own cc nL) {x y : Int64} (hxy : x = y) (d : decode cc pc = .ok (.lcmp, 1)) (kk : WG G p l e R s m args below meth c nL cells slots Q hs lv (.int 0 :: st) (pc + 1)) : WG G p l e R s m args below meth c nL cells slots Q hs lv (.long y :: .long x :: st) pc := by
  subst hxy
  intro H locs ls hR hS c1
  refine W.lcmp C.1 C.2.1 d ?_
  rw [lg_self]
  exact kk H locs ls hR hS c1
theorem q_istoreP (C : Cx G l p s m args c own cc nL) {i : Nat} {x : Int32} (lv' : List (Nat × Value)) (d : decode cc pc = .ok (.istore i, 2)) (hn : i < nL) (hl : (i, Value.int x) :: lv.filter (fun q => !(q.1 == i)) = lv') (kk : WG G p l e R s m args below meth c nL cells slots Q hs lv' st (pc + 2)) : WG G p l e R s m args below meth c nL cells slots Q hs lv (.int x :: st) pc :=
  fun H locs ls a b c1 => lv_istore C.1 C.2.1 d c1.1 hn (by rw [lv_fl c1.2]; exact hl) (fun ls' c2 => kk H locs ls' a b ⟨c2, by rw [← hl]; exact c1_i (c1_f c1.2)⟩)
/-- a call whose meaning is known -/
theorem q_callE (C : Cx G l p s m args c own cc nL) {index maxL F L mc ms n : Nat} {y : MethodName} {b : ByteArray} {rt1 : Option FieldType} {CN : String} {T : u_T} {ci N a0 : Nat} {fs : List Value} {S1 : Type} {fr : OO S1} {tv : S1 → Option Value} {v : S1} {hs2 : Hs} (As rest : List Value) (hm : fr hs = some (.ok v, hs2)) (hM : CT G l y b maxL rt1 F L mc ms (.ref a0 :: As) hs (.ok v : Except Nat S1) hs2 tv) (k : Lk own index y b maxL rt1 n) (hi : Cond.instanceMethod y ∈ Tg) (hsel : Cond.selects CN y y ∈ Tg) (hc : vwCl[ci]? = some (CN, T, N)) (ha : hs.1 a0 = some (.inr (ci, fs))) (hRm : F + 1 ≤ R.frames ∧ 8 + (maxL + 11) + L ≤ R.locals) (hf : cells + mc ≤ R.cells ∧ slots + ms ≤ R.slots) (hn : As.length = n) (hst : st = (As.reverse ++ va_rf (some a0) :: rest)) (hroom : (rest.map fun v => v.category).sum ≤ 8) (d : decode cc pc = .ok (.invokevirtual index, 3))
    (kk : WG G p l e R s m args below meth c nL (cells + mc) (slots + ms) Q hs2 lv ((tv v).toList ++ rest) (pc + 3)) : WG G p l e R s m args below meth c nL cells slots Q hs lv st pc := by
  refine q_fin (o := (.ok v, hs2)) (RT := S1) (fr := fr) (tv := tv) (K := rtn) (KX := nox) (a := ((.ref a0 :: As)).toArray) (rest := rest) (fun o2 hs1 hm2 H locs ls hR hS c1 => ?_) (by unfold call; rw [hm]; rfl) (fun k sz hs1 hk => nomatch hk) (fun r hs1 hr => by cases hr; exact kk)
  cases hm.symm.trans hm2
  exact vx_runV C.fix hM ⟨k.B C hRm, C.2.2.2.2.1 _ hi, C.2.2.2.2.1 _ hsel⟩ ⟨PcT.blind _ _ _ _, va_recv C.2.2.2.2.2.1.1 (hR.P ha) hc (q0 := 0) rfl, fun U hU hW => PcT.at C hR hS _ U hU hW⟩ rfl hn c1.1.1 hst (lv_room (m := m) (pc := pc) (ls := ls) (rest := st) hroom) d hf
/-- a wrapper called -/
theorem q_callL (C : Cx G l p s m args c own cc nL) {index maxL F L mc ms n : Nat} {y : MethodName} {b : ByteArray} {hh : List (Nat × Nat × Nat × Nat)} {k : Int32} {hs' : Hs} (As rest : List Value) (hM : CTW G l y b maxL hh F L mc ms As hs k hs') (hcd : Cond.codeWith y b maxL (some .int) hh ∈ Tg) (hml : Cond.methodLink own index y ∈ Tg) (hsm : Cond.static y ∈ Tg) (hini : Cond.initialized y.cls ∈ Tg) (hy : y.cls ≠ "java/lang/invoke/MethodHandle" ∧ y.cls ≠ "java/lang/invoke/VarHandle" ∧ (parseMethodDescriptor y.desc).map (fun d => d.parameters.length) = some n) (hRm : F + 1 ≤ R.frames ∧ 8 + (maxL + 11) + L ≤ R.locals) (hf : cells + mc ≤ R.cells ∧ slots + ms ≤ R.slots) (hn : As.length = n) (hst : st = As.reverse ++ rest) (hroom : (rest.map fun v => v.category).sum ≤ 8) (d : decode cc pc = .ok (.invokestatic index, 3))
    (kk : ∀ sz : Nat, Bd hs'.1 sz → WG G p l e R s m args below meth c nL (cells + mc) (slots + ms) Q (hs'.1, sz, hs'.2.2) lv (.int k :: rest) (pc + 3)) : WG G p l e R s m args below meth c nL cells slots Q hs lv st pc := by
  intro H locs ls hR hS c1
  have hcw : vx_CSW R s args own index y b maxL (some .int) hh (.codeWith y b maxL (some .int) hh :: Tg) { frames := F, cells := mc, slots := ms, locals := L } mc ms n := by
    refine vx_cwSW n C.2.2.2.2.1 (fun w hw => ?_) rfl rfl rfl hy hRm
    have g : w ∈ Tg := by
      unfold va_wsS at hw
      rcases List.mem_append.mp hw with hw | hw
      · simp only [List.mem_cons, List.not_mem_nil, or_false] at hw
        rcases hw with rfl | rfl | rfl
        · exact hml
        · exact hsm
        · exact hini
      · rcases List.mem_cons.mp hw with rfl | hw
        · exact hcd
        · exact hw
    exact ⟨g, good_of_word (Tg_good _ g)⟩
  have hr := vx_runSX (e := e) (H := H) (locs := locs) (cells := cells) (slots := slots) (below := below) (meth := meth) (rest := rest) (g := F0 m pc ls st) C.fix hM hcw ⟨PcT.blind _ _ _ _, fun U hU hW => PcT.at C hR hS _ U hU hW⟩ rfl hn c1.1.1 hst (lv_room (m := m) (pc := pc) (ls := ls) (rest := st) hroom) d hf
  intro T hT X
  rcases hr T hT X with ⟨v, st₀, t, T', L, h0, X', hL, e1, e2, ⟨⟨hv, sz, hRt⟩, hF⟩, st⟩ | ⟨q, st₀, t, T', L, E, ce, h0, X', hL, e1, e2, hx, hce, hcv, hcl, st⟩
  · cases hv
    obtain ⟨k1, k2, k3⟩ := vx_keep h0 e1 hS (fun q _ h => h) (fun q h => h) hL hF
    obtain ⟨t2, a1, b1⟩ := kk sz (Rep.bd hRt) T'.heap (locs ++ L) ls (by rw [e1]; exact hRt) k3 c1 T' rfl X'
    exact ⟨t2, st t2 a1, b1⟩
  · exact hx.elim
end ROWS10
