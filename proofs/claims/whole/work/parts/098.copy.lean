section VYC
variable {p : Program} {l : Launch} {e : Env} {R : Room} {s : State} {m : MethodId} {args : Array Value} {below : List Frame} {meth : Method} {c : Code} {H : Heap} {locs : List Loc} {cells slots : Nat} {Q : State → Prop}
variable {cc : ByteArray} {pc : Nat} {ls : Array Slot} {rest : List Value} {D : va_G} {cl : List vw_C} {A : Nat → Prop} {a : Nat} {tys : List (ClassId × FieldType)} {ws : va_W} {H0 : Heap}
theorem vy_copyq {cc : ByteArray} (hexec : p.tables.exec = Jvm.exec) (hb : c.code = cc) (hml : c.maxLocals = ls.size) {own : String} {index : Nat} (hown : s.vm.findClass own = some m.cls) (hlink : (Cond.methodLink own index arraycopyName).before args s = true) (hnat : (Cond.native arraycopyName).before args s = true) (hstat : (Cond.static arraycopyName).before args s = true) (hini : (Cond.initialized "java/lang/System").before args s = true)
    (hK : va_K D cl tys s) (hP : va_P D cl ws H) (hAa : A a) (hS : va_S A H0 H locs) (q0 q1 t0 t1 : Nat) {a0 : Nat} {c0 c1 : ClassId} {n0 n1 : Nat} {f g : Nat → Option Nat} {E0 E1 C : String} (ha0 : ws[q0]? = some (a0, .inl (c0, n0, .inr (.inr (.inr (.inr f)))))) (ha1 : ws[q1]? = some (a, .inl (c1, n1, .inr (.inr (.inr (.inr g)))))) (ht0 : tys[t0]? = some (c0, .object E0)) (ht1 : tys[t1]? = some (c1, .object E1))
    {sp dp n : Int32} (h1 : ¬ sp < 0) (h2 : ¬ dp < 0) (h3 : ¬ n < 0) (h4 : sp.toNatClampNeg + n.toNatClampNeg ≤ n0) (h5 : dp.toNatClampNeg + n.toNatClampNeg ≤ n1) (hel : ∀ i : Nat, i < n.toNatClampNeg → ∀ y : Nat, f (sp.toNatClampNeg + i) = some y → ∃ cellV : Cell, H[y]? = some cellV ∧ cellV.vm.isStatics = false ∧ s.vm.findClass C = some cellV.cls) (hasg : ∀ comp c0 : ClassId, s.vm.findClass E1 = some comp → s.vm.findClass C = some c0 → s.vm.assignable c0 comp = true)
    (hframes : 1 ≤ R.frames) (hlocals : (rest.map fun v => v.category).sum + (nativeFrameWords "java/lang/System" "arraycopy" 5 + 11) ≤ R.locals) (hdg : decode cc pc = .ok (.invokestatic index, 3))
    (kk : ∀ (H1 : Heap) (locs1 : List Loc), H1[a]? = some (vp_cell c1 (n1, .inr (.inr (.inr (.inr (va_cpy f g sp.toNatClampNeg dp.toNatClampNeg n.toNatClampNeg)))))) → H1.size = H.size → (∀ q : Nat, q ≠ a → H1[q]? = H[q]?) → va_S A H0 H1 locs1 → W p l e R s m args below meth c H1 locs1 cells slots Q (F0 m (pc + 3) ls rest)) : W p l e R s m args below meth c H locs cells slots Q (F0 m pc ls (.int n :: .int dp :: .ref a :: .int sp :: .ref a0 :: rest)) := by
  have nn : ∀ z : Int32, ¬ z < 0 → z.toInt = (z.toNatClampNeg : Int) := by
    intro z hz
    have hz0 : (0 : Int) ≤ z.toInt := by
      have := Int32.not_lt.mp hz
      simpa using Int32.le_iff_toInt_le.mp this
    show z.toInt = ((z.toInt.toNat : Nat) : Int)
    omega
  intro T hT X
  have hc0 : H[a0]? = some (vp_cell c0 (n0, .inr (.inr (.inr (.inr f))))) := hP q0 _ ha0
  have hc1 : H[a]? = some (vp_cell c1 (n1, .inr (.inr (.inr (.inr g))))) := hP q1 _ ha1
  obtain ⟨-, k0, hk0, cm0, hkk0⟩ := (hK.2 t0 _ ht0).1 n0 (fun j => va_rf (f j))
  obtain ⟨-, k1, hk1, cm1, hkk1⟩ := (hK.2 t1 _ ht1).1 n1 (fun j => va_rf (g j))
  obtain ⟨vm', X', step⟩ := X.arraycopy hexec hown hlink hnat hstat hini (src := a0) (dst := a) (cs := vp_cell c0 (n0, .inr (.inr (.inr (.inr f))))) (cd := vp_cell c1 (n1, .inr (.inr (.inr (.inr g))))) (srcPos := sp) (destPos := dp) (n := n) (by rw [hT]; exact hc0) (by rw [hT]; exact hc1)
    (fun _ h => by cases h) (fun _ h => by cases h) (fun h => by cases h) (fun h => by cases h) hk0 hk1 hkk0 hkk1 rfl h1 h2 h3
    (by rw [nn sp h1, nn n h3]; show ¬ _ > ((arrV c0 n0 (fun j => va_rf (f j))).slots.size : Int); rw [arrV_size]; omega)
    (by rw [nn dp h2, nn n h3]; show ¬ _ > ((arrV c1 n1 (fun j => va_rf (g j))).slots.size : Int); rw [arrV_size]; omega)
    (fun vm₁ hal i hi => by
      have e : (vp_cell c0 (n0, .inr (.inr (.inr (.inr f))))).slots.getD (sp.toNatClampNeg + i) .null = va_rf (f (sp.toNatClampNeg + i)) := by
        show (arrV c0 n0 (fun j => va_rf (f j))).slots.getD _ _ = _
        rw [Array.getD_eq_getD_getElem?, arrV_read _ _ (by omega)]
        rfl
      rw [e]
      cases hy : f (sp.toNatClampNeg + i) with
      | none => exact ⟨rfl, trivial⟩
      | some y =>
        obtain ⟨cellV, g1, g2, g3⟩ := hel i hi y hy
        obtain ⟨kA, comp, r1, r2, r3, -⟩ := (hK.2 t1 _ ht1).2
        cases hk1.symm.trans r1
        cases hkk1.symm.trans r2
        obtain ⟨kC, hkC, -⟩ := Vm.findClass_spec g3
        obtain ⟨kE, hkE, -⟩ := Vm.findClass_spec r3
        obtain ⟨kC', hkC', -⟩ := hal.2.2 _ _ hkC
        obtain ⟨kE', hkE', -⟩ := hal.2.2 _ _ hkE
        refine ⟨rfl, cellV, (show T.heap[y]? = some cellV by rw [hT]; exact g1), (fun q h => by rw [h] at g2; cases g2), ⟨kC', hkC'⟩, ?_, ?_⟩
        · exact ⟨kE', hkE'⟩
        · show vm₁.assignable _ _ = true
          rw [hal.assignable]
          exact hasg _ _ r3 g3)
    (g := F0 m pc ls (.int n :: .int dp :: .ref a :: .int sp :: .ref a0 :: rest)) rfl (by rw [hml]) (rest := rest) rfl (by rw [hb]; exact hdg) hframes (by show 2 * 0 + _ + _ ≤ _; omega)
  have e1 : copied (vp_cell c0 (n0, .inr (.inr (.inr (.inr f))))) (vp_cell c1 (n1, .inr (.inr (.inr (.inr g))))) sp dp n = vp_cell c1 (n1, .inr (.inr (.inr (.inr (va_cpy f g sp.toNatClampNeg dp.toNatClampNeg n.toNatClampNeg))))) := by
    rw [vp_cell_q, vp_cell_q, vp_cell_q]
    exact va_copied (fun z => va_rf z) c0 c1 f g h4
  rw [e1] at X' step
  have hl : a < H.size := (Array.getElem?_eq_some_iff.mp hc1).1
  have hheap : ((T.setVm vm').setCell a (vp_cell c1 (n1, .inr (.inr (.inr (.inr (va_cpy f g sp.toNatClampNeg dp.toNatClampNeg n.toNatClampNeg))))))).heap = H.setIfInBounds a (vp_cell c1 (n1, .inr (.inr (.inr (.inr (va_cpy f g sp.toNatClampNeg dp.toNatClampNeg n.toNatClampNeg)))))) := by rw [← hT]; rfl
  have oq : ∀ q : Nat, q ≠ a → (H.setIfInBounds a (vp_cell c1 (n1, .inr (.inr (.inr (.inr (va_cpy f g sp.toNatClampNeg dp.toNatClampNeg n.toNatClampNeg)))))))[q]? = H[q]? := fun q hq => by simp [Array.getElem?_setIfInBounds, Ne.symm hq]
  obtain ⟨t, a1, b1⟩ := kk _ _ (show (H.setIfInBounds a _)[a]? = some _ by simp [Array.getElem?_setIfInBounds, hl]) (by simp) oq ⟨by simp; exact hS.1, fun q g1 g2 => by
      rw [oq q (fun e => g2 (by rw [e]; exact hAa))]
      exact hS.2.1 q g1 g2, fun q hq => by
      rcases List.mem_append.mp hq with h | h
      · exact hS.2.2 q h
      · obtain ⟨z, -, hz⟩ := List.mem_map.mp h
        rw [← hz]
        exact hAa⟩ _ hheap X'
  exact ⟨t, step t a1, b1⟩
end VYC


def lesUp (h : Hp) (f : Nat → Option Nat) (k : Nat) : Bool := (List.range k).all (fun i => match f i with
  | none => true
  | some b => match h b with
    | some (.inr (c, _)) => decide (c = 7)
    | _ => false)
/-- n places of an array of references to Lessons copied to another array -/
def cpy {R : Type} (src dst : Option Nat) (n : Int32) (K : OO R) : OO R := fun hs => match src, dst with
  | some a, some b => match hs.1 a, hs.1 b with
    | some (.inl (t0, k0, .inr (.inr (.inr (.inr f))))), some (.inl (t1, k1, .inr (.inr (.inr (.inr g))))) => if t0 = 4 ∧ t1 = 4 ∧ ¬ n < 0 ∧ n.toNatClampNeg ≤ k0 ∧ n.toNatClampNeg ≤ k1 ∧ 0 < k1 ∧ 0 < k0 ∧ lesUp hs.1 f n.toNatClampNeg = true then K (hset hs.1 b (aR 4 k1 (va_cpy f g 0 0 n.toNatClampNeg)), hs.2) else none
    | _, _ => none
  | _, _ => none
/-- an array of Objects -/
def arrO {R : Type} (r : Option Nat) (K : OO R) : OO R := fun hs => match r with
  | some a => match hs.1 a with
    | some (.inl (t, _, .inr (.inr (.inr (.inr _))))) => if t = 4 then K hs else none
    | _ => none
  | none => none
/-- new int[6][16] -/
def nw2 {R : Type} (K : Nat → OO R) : OO R := fun hs => K hs.2.1 (fun q => if q = hs.2.1 then some (aR 5 6 (fun i => if i < 6 then some (hs.2.1 + 1 + i) else none)) else if hs.2.1 < q ∧ q ≤ hs.2.1 + 6 then some (aI 0 16 (fun _ => 0)) else hs.1 q, hs.2.1 + 7, hs.2.2)
/-- a division whose result is a number, or infinite -/
def fdv {R : Type} (x y : UInt32) (K : UInt32 → OO R) : OO R := fun hs => if FP.fdiv x y &&& 0x7fffffff ≤ 0x7f800000 then K (FP.fdiv x y) hs else none
def ddv {R : Type} (x y : UInt64) (K : UInt64 → OO R) : OO R := fun hs => if FP.ddiv x y &&& 0x7fffffffffffffff ≤ 0x7ff0000000000000 then K (FP.ddiv x y) hs else none
section ROWS8
variable {p : Program} {l : Launch} {e : Env} {R : Room} {s : State} {m : MethodId} {args : Array Value} {below : List Frame} {meth : Method} {c : Code} {cells slots : Nat} {Q : State → Prop}
variable {G : GG} {own : String} {cc : ByteArray} {nL pc : Nat} {hs : Hs} {lv : List (Nat × Value)} {st : List Value} {rt : Option FieldType} {RT : Type} {o : Except Nat RT × Hs}
theorem q_newO (C : Cx G l p s m args c own cc nL) {index : Nat} {n : Int32} {K : Nat → OO RT} (B : Nat) (hB : B ≤ 1000) (hcl : Cond.classLink own index "java/lang/Object" ∈ Tg) (hcells : cells + 1 ≤ R.cells) (hslots : slots + B ≤ R.slots) (d : decode cc pc = .ok (.anewarray index, 3)) (h : nwO n B K hs = some o) (kk : ∀ (q : Nat) (hs1 : Hs), K q hs1 = some o → WG G p l e R s m args below meth c nL (cells + 1) (slots + B) Q hs1 lv (va_rf (some q) :: st) (pc + 3)) : WG G p l e R s m args below meth c nL cells slots Q hs lv (.int n :: st) pc := by
  unfold nwO at h
  split at h
  · rename_i hn
    intro H locs ls hR hS c1
    have hao : va_AO "java/lang/Object" s := C.kn.2.2.2.2.2.2.2.1
    have hsl : slots + n.toNatClampNeg ≤ R.slots := by omega
    refine W.anew C.1 C.2.1 C.2.2.2.1 (C.2.2.2.2.1 _ hcl) (va_AO.use hao) rfl d rfl hn.1 (by omega) hcells hsl fun cA kA comp h1 h2 h3 h4 => ?_
    have hcA : cA = G.2.1 4 := by
      obtain ⟨kA', comp', r1, r2, r3, r4⟩ := (C.kn.1.2 4 _ rfl).2
      exact Option.some.inj (h1.symm.trans r4)
    subst hcA
    have e1 : ({ cls := G.2.1 4, slots := Array.replicate n.toNatClampNeg .null, vm := .none } : Cell) = vp_cell (G.2.1 4) (n.toNatClampNeg, .inr (.inr (.inr (.inr (fun _ => none))))) := by
      rw [vp_cell_q]
      exact (arrV_new (G.2.1 4) n.toNatClampNeg .null)
    rw [e1]
    have hp := hR.push (H1 := H.push (vp_cell (G.2.1 4) (n.toNatClampNeg, .inr (.inr (.inr (.inr (fun _ => none))))))) (e := aR 4 n.toNatClampNeg (fun _ => none)) (by simp) (fun q hq => by rw [Array.getElem?_push, if_neg (Nat.ne_of_lt hq)]) (show (H.push _)[H.size]? = some _ by simp)
    have hq : H.size = hs.2.1 := hR.1
    have key := kk hs.2.1 _ h _ locs ls hp ⟨Nat.le_trans hS.1 (by simp), fun x h1 h2 => by
      have hx := Nat.lt_of_lt_of_le h1 hS.1
      rw [Array.getElem?_push, if_neg (Nat.ne_of_lt hx)]
      exact hS.2.1 x h1 h2, hS.2.2⟩ c1
    rw [← hq] at key
    exact W.widen (k := cells + 1) (n := slots + B) (Nat.le_refl _) (by omega) key
  · cases h
theorem q_min (C : Cx G l p s m args c own cc nL) {index : Nat} {x y : Int32} (hl : Cond.methodLink own index Lib.Math.min.name ∈ Tg) (hst : Cond.static Lib.Math.min.name ∈ Tg) (hini : Cond.initialized "java/lang/Math" ∈ Tg) (hcd : Cond.code Lib.Math.min.name Lib.Math.min.code 2 (some .int) ∈ Tg) (hf : 1 ≤ R.frames) (hlo : 30 ≤ R.locals) (hc : cells ≤ R.cells) (hs9 : slots ≤ R.slots) (hroom : (st.map fun v => v.category).sum ≤ 8) (d : decode cc pc = .ok (.invokestatic index, 3)) (kk : WG G p l e R s m args below meth c nL cells slots Q hs lv (.int (if y < x then y else x) :: st) (pc + 3)) : WG G p l e R s m args below meth c nL cells slots Q hs lv (.int y :: .int x :: st) pc :=
  fun H locs ls a1 b c1 => va_mmin C.1 C.2.1 (C.2.2.1.trans c1.1.1.symm) C.2.2.2.1 (C.2.2.2.2.1 _ hl) (C.2.2.2.2.1 _ hst) (C.2.2.2.2.1 _ hini) (C.2.2.2.2.1 _ hcd) hf (by omega) hc hs9 d (kk H locs ls a1 b c1)
theorem q_ldcM (C : Cx G l p s m args c own cc nL) {index : Nat} (hl : Cond.classLink own index "[Ljava/lang/Object;" ∈ Tg) (d : decode cc pc = .ok (.ldc index, 2)) (kk : WG G p l e R s m args below meth c nL cells slots Q hs lv (.ref G.2.2.2.2.2.2 :: st) (pc + 2)) : WG G p l e R s m args below meth c nL cells slots Q hs lv st pc :=
  fun H locs ls hR hS c1 => va_ldcM C.1 C.2.1 C.2.2.2.1 (C.2.2.2.2.1 _ hl) (kn_mi C.kn) d (kk H locs ls hR hS c1)
theorem q_acmpM (C : Cx G l p s m args c own cc nL) {x : Nat} {off : Int} (tgt : Nat) (d : decode cc pc = .ok (.if_acmp .ne off, 3)) (ht : (pc : Int) + off = (tgt : Int)) (kk : WG G p l e R s m args below meth c nL cells slots Q hs lv st (pc + 3)) : WG G p l e R s m args below meth c nL cells slots Q hs lv (.ref x :: .ref x :: st) pc :=
  fun H locs ls hR hS c1 => lv_acmp_ne (rx := some x) (ry := some x) C.1 C.2.1 d ht (fun q => absurd rfl q) (fun _ => kk H locs ls hR hS c1)
theorem q_getC (C : Cx G l p s m args c own cc nL) {index : Nat} {r : Option Nat} {K : OO RT} (hl : Cond.methodLink own index ⟨"java/lang/Object", "getClass", "()Ljava/lang/Class;"⟩ ∈ Tg) (hsel : Cond.selects "[Ljava/lang/Object;" ⟨"java/lang/Object", "getClass", "()Ljava/lang/Class;"⟩ ⟨"java/lang/Object", "getClass", "()Ljava/lang/Class;"⟩ ∈ Tg) (hi : Cond.instanceMethod ⟨"java/lang/Object", "getClass", "()Ljava/lang/Class;"⟩ ∈ Tg) (hn : Cond.native ⟨"java/lang/Object", "getClass", "()Ljava/lang/Class;"⟩ ∈ Tg) (hf : 1 ≤ R.frames) (hlo : 30 ≤ R.locals) (hroom : (st.map fun v => v.category).sum ≤ 8) (d : decode cc pc = .ok (.invokevirtual index, 3)) (h : arrO r K hs = some o) (kk : K hs = some o → WG G p l e R s m args below meth c nL cells slots Q hs lv (.ref G.2.2.2.2.2.2 :: st) (pc + 3)) : WG G p l e R s m args below meth c nL cells slots Q hs lv (va_rf r :: st) pc := by
  unfold arrO at h
  split at h
  · rename_i a
    split at h
    · rename_i t k f ha
      split at h
      · rename_i ht
        subst ht
        intro H locs ls hR hS c1
        refine va_getC C.1 C.2.1 (C.2.2.1.trans c1.1.1.symm) C.2.2.2.1 (C.2.2.2.2.1 _ hl) (va_Dc.use (kn_dc C.kn)) (C.2.2.2.2.1 _ hsel) (C.2.2.2.2.1 _ hi) (C.2.2.2.2.1 _ hn) (kn_mi C.kn) ?_ hf (by omega) d (kk h H locs ls hR hS c1)
        obtain ⟨kA', comp', r1, r2, r3, r4⟩ := (C.kn.1.2 4 _ rfl).2
        rcases hR.2.2.2 a _ ha with ⟨hA, hat⟩ | ⟨he, cell, g1, g2, g3, g4⟩
        · exact ⟨_, hat, rfl, r4⟩
        · refine ⟨cell, g1, ?_, by rw [g4]; exact r4⟩
          cases hv : cell.vm with
          | statics k => exact absurd hv (g2 k)
          | _ => rfl
      · cases h
    · cases h
  · cases h
theorem q_cpy (C : Cx G l p s m args c own cc nL) {index : Nat} {r1 r2 : Option Nat} {n : Int32} {K : OO RT} (hl : Cond.methodLink own index arraycopyName ∈ Tg) (hn : Cond.native arraycopyName ∈ Tg) (hst : Cond.static arraycopyName ∈ Tg) (hini : Cond.initialized "java/lang/System" ∈ Tg) (hf : 1 ≤ R.frames) (hlo : 60 ≤ R.locals) (hroom : (st.map fun v => v.category).sum ≤ 8) (d : decode cc pc = .ok (.invokestatic index, 3)) (h : cpy r1 r2 n K hs = some o) (kk : ∀ hs1, K hs1 = some o → WG G p l e R s m args below meth c nL cells slots Q hs1 lv st (pc + 3)) : WG G p l e R s m args below meth c nL cells slots Q hs lv (.int n :: .int 0 :: va_rf r2 :: .int 0 :: va_rf r1 :: st) pc := by
  unfold cpy at h
  split at h
  · rename_i a b
    split at h
    · rename_i t0 k0 f t1 k1 g ha hb
      split at h
      · rename_i hh
        obtain ⟨rfl, rfl, hn0, h4, h5, h6, h6a, hles⟩ := hh
        intro H locs ls hR hS c1
        have hAb : gA G b := hR.A hb (ne_ce0 h6)
        have hnw : nativeFrameWords "java/lang/System" "arraycopy" 5 ≤ 40 := by decide
        refine vy_copyq (E0 := "java/lang/Object") (E1 := "java/lang/Object") (C := "Termgrid$Lesson") (ws := [(a, toE G.2.1 (aR 4 k0 f)), (b, toE G.2.1 (aR 4 k1 g))]) C.1 C.2.1 (C.2.2.1.trans c1.1.1.symm) C.2.2.2.1 (C.2.2.2.2.1 _ hl) (C.2.2.2.2.1 _ hn) (C.2.2.2.2.1 _ hst) (C.2.2.2.2.1 _ hini) C.kn.1 (hR.P2 ha hb (ne_ce0 h6a) (ne_ce0 h6)) hAb hS 0 1 4 4 rfl rfl rfl rfl (by decide) (by decide) hn0 (by show 0 + _ ≤ _; omega) (by show 0 + _ ≤ _; omega) (fun i hi y hy => ?_) (fun comp c0 q1 q2 => ?_) hf (by omega) d (fun H1 locs1 e1 e2 e3 hS1 => ?_)
        · have h7 := List.all_eq_true.mp hles i (List.mem_range.mpr hi)
          have hz : (0 : Int32).toNatClampNeg + i = i := by rw [show (0 : Int32).toNatClampNeg = 0 by decide]; omega
          rw [hz] at hy
          rw [hy] at h7
          dsimp only at h7
          split at h7
          · rename_i c2 vs hv
            have h8 : c2 = 7 := of_decide_eq_true h7
            subst h8
            exact va_recv C.kn.1 (hR.P hv) (ci := 7) (q0 := 0) rfl rfl
          · cases h7
        · obtain ⟨c3, t3, f1, f2, f3⟩ := Cond.castable_spec (va_Nw.use (A := args) rfl (C.kn.2.2.2.1 ("Termgrid$Lesson", "java/lang/Object") (by decide +kernel)))
          cases f1.symm.trans q2
          cases f2.symm.trans q1
          exact f3
        · exact kk _ h H1 locs1 ls (hR.set hAb e2 e3 e1) hS1 c1
      · cases h
    · cases h
  · cases h
theorem q_mna (C : Cx G l p s m args c own cc nL) {index : Nat} {K : Nat → OO RT} (hl : Cond.classLink own index "[[I" ∈ Tg) (har : Cond.arrayClass .int ∈ Tg) (hcells : cells + 7 ≤ R.cells) (hslots : slots + 102 ≤ R.slots) (d : decode cc pc = .ok (.multianewarray index 2, 4)) (h : nw2 K hs = some o) (kk : ∀ (q : Nat) (hs1 : Hs), K q hs1 = some o → WG G p l e R s m args below meth c nL (cells + 7) (slots + 102) Q hs1 lv (va_rf (some q) :: st) (pc + 4)) : WG G p l e R s m args below meth c nL cells slots Q hs lv (.int 16 :: .int 6 :: st) pc := by
  intro H locs ls hR hS c1 T hT Xs
  have hcy : s.vm.findClass (FieldType.array .int).toString = some (G.2.1 0) := (C.kn.1.2 0 _ rfl).2
  obtain ⟨vm₁, cA, comp, -, fA, fC, hO, -, X', step⟩ := Xs.multianewarray2F (ty := .int) C.1 C.2.2.2.1 (C.2.2.2.2.1 _ hl) (va_AOA.use (kn_aoa C.kn)) (C.2.2.2.2.1 _ har) (g := F0 m pc ls (.int 16 :: .int 6 :: st)) rfl (by rw [C.2.1]; exact d) rfl (by decide) (by decide) (by decide) (by decide) (by decide) (by decide) (by decide) (by show cells + (1 + 6) ≤ _; exact hcells) (by show slots + (6 + 6 * 16) ≤ _; exact hslots)
  have ec : some (G.2.1 0) = some comp := hcy.symm.trans fC
  cases ec
  have h6 : (6 : Int32).toNatClampNeg = 6 := by decide
  have h16 : (16 : Int32).toNatClampNeg = 16 := by decide
  rw [h6, h16] at X' step
  generalize hF : Jvm.Free.Multi.fill (T.setVm vm₁) cA (G.2.1 0) 6 16 (defaultValue .int) 6 = F at X' step
  have hTh : (T.setVm vm₁).heap = H := hT
  obtain ⟨f1, f2, -, -⟩ := Jvm.Free.Multi.fill_facts (T.setVm vm₁) cA (G.2.1 0) 6 16 (defaultValue .int) 6
  rw [hF, hTh] at f1 f2
  have hold : ∀ x : Nat, x < H.size → F.heap[x]? = H[x]? := fun x hx => by
    have := Jvm.Free.Multi.fill_old (T.setVm vm₁) cA (G.2.1 0) 6 16 (defaultValue .int) (a := x) (by rw [hTh]; exact hx) 6
    rw [hF, hTh] at this
    exact this
  have hrow : ∀ j : Nat, j < 6 → F.heap[H.size + 1 + j]? = some (vp_cell (G.2.1 0) (16, .inl (fun _ => 0))) := fun j hj => by
    have := Jvm.Free.Multi.fill_inner (T.setVm vm₁) cA (G.2.1 0) 6 16 (defaultValue .int) 6 j hj
    rw [hF, hTh] at this
    rw [this, vp_cell_i]
    exact congrArg some (arrV_new (G.2.1 0) 16 (.int 0))
  have hout : Jvm.Free.Multi.outerC cA 6 H.size 6 = vp_cell cA (6, .inr (.inr (.inr (.inr (fun i => if i < 6 then some (H.size + 1 + i) else none))))) := by
    rw [vp_cell_q]
    exact vr_outer cA 6 H.size 6
  rw [hout] at f2
  have hcA : cA = G.2.1 5 := by
    have h9 : s.vm.findClass ("[" ++ (FieldType.array .int).toString) = some (G.2.1 5) := (C.kn.1.2 5 _ rfl).2
    exact Option.some.inj (fA.symm.trans h9)
  subst hcA
  have hq : H.size = hs.2.1 := hR.1
  rw [hq] at f1 f2 hold hrow
  have hp : Rep G (fun q => if q = hs.2.1 then some (aR 5 6 (fun i => if i < 6 then some (hs.2.1 + 1 + i) else none)) else if hs.2.1 < q ∧ q ≤ hs.2.1 + 6 then some (aI 0 16 (fun _ => 0)) else hs.1 q, hs.2.1 + 7, hs.2.2) F.heap := by
    refine ⟨by rw [f1], hR.2.1, by have := hR.2.2.1; omega, fun a e9 ha => ?_⟩
    dsimp only at ha
    split at ha
    · rename_i e1
      subst e1
      cases ha
      exact Or.inl ⟨by have := hR.2.2.1; show G.2.2.1 ≤ _; omega, f2⟩
    · split at ha
      · rename_i e1 e2
        cases ha
        refine Or.inl ⟨by have := hR.2.2.1; show G.2.2.1 ≤ _; omega, ?_⟩
        have h3 := hrow (a - hs.2.1 - 1) (by omega)
        rw [show hs.2.1 + 1 + (a - hs.2.1 - 1) = a by omega] at h3
        exact h3
      · have h3 := hR.2.2.2 a e9 ha
        exact h3.kept (hold a (by rw [← hq]; exact h3.lt))
  obtain ⟨t, a1, b1⟩ := kk hs.2.1 _ h F.heap locs ls hp ⟨Nat.le_trans hS.1 (by omega), fun x h1 h2 => (hold x (by rw [← hq]; exact Nat.lt_of_lt_of_le h1 hS.1)).trans (hS.2.1 x h1 h2), hS.2.2⟩ c1 F rfl X'
  refine ⟨t, step t ?_, b1⟩
  rw [← hq] at a1
  rw [← hT] at a1
  exact a1
theorem q_i2f (C : Cx G l p s m args c own cc nL) {x : Int32} (d : decode cc pc = .ok (.i2f, 1)) (k : WG G p l e R s m args below meth c nL cells slots Q hs lv (.float (FP.i2f x) :: st) (pc + 1)) : WG G p l e R s m args below meth c nL cells slots Q hs lv (.int x :: st) pc :=
  fun H locs ls a b c1 => lv_i2f C.1 C.2.1 d (k H locs ls a b c1)
theorem q_i2d (C : Cx G l p s m args c own cc nL) {x : Int32} (d : decode cc pc = .ok (.i2d, 1)) (k : WG G p l e R s m args below meth c nL cells slots Q hs lv (.double (FP.i2d x) :: st) (pc + 1)) : WG G p l e R s m args below meth c nL cells slots Q hs lv (.int x :: st) pc :=
  fun H locs ls a b c1 => lv_i2d C.1 C.2.1 d (k H locs ls a b c1)
theorem q_fconst (C : Cx G l p s m args c own cc nL) (d : decode cc pc = .ok (.fconst 0, 1)) (k : WG G p l e R s m args below meth c nL cells slots Q hs lv (.float FP.fconst0 :: st) (pc + 1)) : WG G p l e R s m args below meth c nL cells slots Q hs lv st pc :=
  fun H locs ls a b c1 => lv_fconst0 C.1 C.2.1 d (k H locs ls a b c1)
theorem q_dconst (C : Cx G l p s m args c own cc nL) (d : decode cc pc = .ok (.dconst 0, 1)) (k : WG G p l e R s m args below meth c nL cells slots Q hs lv (.double FP.dconst0 :: st) (pc + 1)) : WG G p l e R s m args below meth c nL cells slots Q hs lv st pc :=
  fun H locs ls a b c1 => lv_dconst0 C.1 C.2.1 d (k H locs ls a b c1)
theorem q_fdiv (C : Cx G l p s m args c own cc nL) {x y : UInt32} {K : UInt32 → OO RT} (d : decode cc pc = .ok (.fdiv, 1)) (h : fdv x y K hs = some o) (kk : ∀ z : UInt32, K z hs = some o → WG G p l e R s m args below meth c nL cells slots Q hs lv (.float z :: st) (pc + 1)) : WG G p l e R s m args below meth c nL cells slots Q hs lv (.float y :: .float x :: st) pc := by
  unfold fdv at h
  split at h
  · rename_i hne
    exact fun H locs ls a b c1 => lv_fdiv C.1 C.2.1 d hne (kk _ h H locs ls a b c1)
  · cases h
theorem q_ddiv (C : Cx G l p s m args c own cc nL) {x y : UInt64} {K : UInt64 → OO RT} (d : decode cc pc = .ok (.ddiv, 1)) (h : ddv x y K hs = some o) (kk : ∀ z : UInt64, K z hs = some o → WG G p l e R s m args below meth c nL cells slots Q hs lv (.double z :: st) (pc + 1)) : WG G p l e R s m args below meth c nL cells slots Q hs lv (.double y :: .double x :: st) pc := by
  unfold ddv at h
  split at h
  · rename_i hne
    exact fun H locs ls a b c1 => lv_ddiv C.1 C.2.1 d hne (kk _ h H locs ls a b c1)
  · cases h
theorem q_fret (C : Cx G l p s m args c own cc nL) {o : Except Nat UInt32} {hs' : Hs} {mc ms : Nat} {x : UInt32} (C2 : Cy meth c rt) (hr : rt = some .float) (hc : cells ≤ mc) (hsl : slots ≤ ms) (d : decode cc pc = .ok (.freturn, 1)) (h : rtn x hs = some (o, hs')) : WG G p l e R s m args below meth c nL cells slots (vx_MQ below (QcT G o hs' tvF) (XCT G o hs') args s mc ms (gA G)) hs lv [.float x] pc := by
  cases h
  intro H locs ls hR hS c1
  refine W.widen hc hsl (vx_ret ?_)
  exact W.fret C.1 C.2.1 (C2.1.trans hr) (fun t ht hW => ⟨⟨x, rfl, rfl, by rw [ht]; exact hR⟩, hS.F ht⟩) hS.2.2 d C2.2.1
theorem q_dret (C : Cx G l p s m args c own cc nL) {o : Except Nat UInt64} {hs' : Hs} {mc ms : Nat} {x : UInt64} (C2 : Cy meth c rt) (hr : rt = some .double) (hc : cells ≤ mc) (hsl : slots ≤ ms) (d : decode cc pc = .ok (.dreturn, 1)) (h : rtn x hs = some (o, hs')) : WG G p l e R s m args below meth c nL cells slots (vx_MQ below (QcT G o hs' tvD) (XCT G o hs') args s mc ms (gA G)) hs lv [.double x] pc := by
  cases h
  intro H locs ls hR hS c1
  refine W.widen hc hsl (vx_ret ?_)
  exact W.dret C.1 C.2.1 (C2.1.trans hr) (fun t ht hW => ⟨⟨x, rfl, rfl, by rw [ht]; exact hR⟩, hS.F ht⟩) hS.2.2 d C2.2.1
end ROWS8
