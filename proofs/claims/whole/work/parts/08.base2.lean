def failO {R : Type} : OO R := fun _ => none
theorem failO_e {R : Type} {hs : Hs} {o : Except Nat R × Hs} : ¬ (failO hs = some o) := fun h => nomatch h
theorem q_case {R : Type} {a b : Int32} {A B : OO R} {hs : Hs} {o : Except Nat R × Hs} {P : Prop} (h : (if a = b then A else B) hs = some o) (kt : a = b → A hs = some o → P) (kf : ¬ a = b → B hs = some o → P) : P := by
  by_cases q : a = b
  · exact kt q (by rw [if_pos q] at h; exact h)
  · exact kf q (by rw [if_neg q] at h; exact h)
def letAt {R : Type} (i : Int32) (K : Int32 → OO R) : OO R := fun hs => if ¬ (i < 0 ∨ 10 ≤ i.toNatClampNeg) then K (kx_bytes.getD i.toNatClampNeg 0) hs else none
theorem cat_i (x : Int32) : (Value.int x).category = 1 := rfl
theorem cat_a (x : Nat) : (Value.ref x).category = 1 := rfl
section ROWS2
variable {p : Program} {l : Launch} {e : Env} {R : Room} {s : State} {m : MethodId} {args : Array Value} {below : List Frame} {meth : Method} {c : Code} {cells slots : Nat} {Q : State → Prop}
variable {G : GG} {own : String} {cc : ByteArray} {nL pc : Nat} {hs : Hs} {lv : List (Nat × Value)} {st : List Value} {rt : Option FieldType} {RT : Type} {o : Except Nat RT × Hs}
theorem q_dup2 (C : Cx G l p s m args c own cc nL) {v u : Value} (hv : v.category = 1) (hu : u.category = 1) (d : decode cc pc = .ok (.dup2, 1)) (k : WG G p l e R s m args below meth c nL cells slots Q hs lv (v :: u :: v :: u :: st) (pc + 1)) : WG G p l e R s m args below meth c nL cells slots Q hs lv (v :: u :: st) pc :=
  fun H locs ls a b c1 => lv_dup2_11 C.1 C.2.1 d hv hu (k H locs ls a b c1)
theorem q_tswI (C : Cx G l p s m args c own cc nL) {dflt lo hi : Int} {offs : Array Int} {len : Nat} {x k : Int32} {off : Int} (tgt : Nat) (d : decode cc pc = .ok (.tableswitch dflt lo hi offs, len)) (hx : x = k) (h1 : ¬ k.toInt < lo) (h2 : ¬ hi < k.toInt) (ho : offs[(k.toInt - lo).toNat]? = some off) (ht : (pc : Int) + off = (tgt : Int)) (kk : WG G p l e R s m args below meth c nL cells slots Q hs lv st tgt) : WG G p l e R s m args below meth c nL cells slots Q hs lv (.int x :: st) pc := by
  subst hx
  exact fun H locs ls a b c1 => lv_tableIn C.1 C.2.1 d h1 h2 ho ht (kk H locs ls a b c1)
theorem q_tswO (C : Cx G l p s m args c own cc nL) {dflt hi : Int} {offs : Array Int} {len : Nat} {x : Int32} (tgt : Nat) (d : decode cc pc = .ok (.tableswitch dflt 0 hi offs, len)) (hx : x.toInt < 0 ∨ hi < x.toInt) (ht : (pc : Int) + dflt = (tgt : Int)) (kk : WG G p l e R s m args below meth c nL cells slots Q hs lv st tgt) : WG G p l e R s m args below meth c nL cells slots Q hs lv (.int x :: st) pc :=
  fun H locs ls a b c1 => lv_tableOut C.1 C.2.1 d hx ht (kk H locs ls a b c1)
theorem tsw_ne {x : Int32} {k : Nat} (hk : k < 2 ^ 31) (h : ¬ x = Int32.ofNat k) : x.toInt ≠ k := fun z => h (by
  apply Int32.toInt_inj.mp
  rw [z]
  exact (nI_toInt hk).symm)
theorem q_objInit (C : Cx G l p s m args c own cc nL) {idx : Nat} {r : Option Nat} {a : Nat} (hr : r = some a) (hl : Cond.methodLink own idx Lib.objectInit ∈ Tg) (hi : Cond.instanceMethod Lib.objectInit ∈ Tg) (hc : Cond.code Lib.objectInit ⟨#[0xb1]⟩ 1 none ∈ Tg) (hf : 1 ≤ R.frames) (hlo : 20 ≤ R.locals) (hroom : (st.map fun v => v.category).sum ≤ 8) (d : decode cc pc = .ok (.invokespecial idx, 3)) (kk : WG G p l e R s m args below meth c nL cells slots Q hs lv st (pc + 3)) : WG G p l e R s m args below meth c nL cells slots Q hs lv (va_rf r :: st) pc := by
  subst hr
  intro H locs ls a1 b c1
  refine W.objInit C.1 C.2.1 C.2.2.2.1 (C.2.2.2.2.1 _ hl) (C.2.2.2.2.1 _ hi) (C.2.2.2.2.1 _ hc) rfl (by rw [C.2.2.1]; exact c1.1.1) rfl d hf ?_ (kk H locs ls a1 b c1)
  have h9 := lv_room (m := m) (pc := pc) (ls := ls) (rest := va_rf (some a) :: st) hroom
  show 2 * (F0 m pc ls (va_rf (some a) :: st)).monitorRoom + (st.map fun v => v.category).sum + 12 ≤ R.locals
  omega
theorem q_max (C : Cx G l p s m args c own cc nL) {index : Nat} {x y : Int32} (hl : Cond.methodLink own index Lib.Math.max.name ∈ Tg) (hst : Cond.static Lib.Math.max.name ∈ Tg) (hini : Cond.initialized "java/lang/Math" ∈ Tg) (hcd : Cond.code Lib.Math.max.name Lib.Math.max.code 2 (some .int) ∈ Tg) (hf : 1 ≤ R.frames) (hlo : 30 ≤ R.locals) (hc : cells ≤ R.cells) (hs9 : slots ≤ R.slots) (hroom : (st.map fun v => v.category).sum ≤ 8) (d : decode cc pc = .ok (.invokestatic index, 3)) (kk : WG G p l e R s m args below meth c nL cells slots Q hs lv (.int (if x < y then y else x) :: st) (pc + 3)) : WG G p l e R s m args below meth c nL cells slots Q hs lv (.int y :: .int x :: st) pc :=
  fun H locs ls a1 b c1 => va_mmax C.1 C.2.1 (C.2.2.1.trans c1.1.1.symm) C.2.2.2.1 (C.2.2.2.2.1 _ hl) (C.2.2.2.2.1 _ hst) (C.2.2.2.2.1 _ hini) (C.2.2.2.2.1 _ hcd) hf (by omega) hc hs9 d (kk H locs ls a1 b c1)
end ROWS2
