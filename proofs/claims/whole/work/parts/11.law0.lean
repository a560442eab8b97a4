/-! the law's own methods: a call of the class in a try, its answer into an array of one place -/
def stL {R : Type} (r : Option Nat) (i : Int32) (x : Int64) (K : OO R) : OO R := fun hs => match r with
  | none => none
  | some a => match hs.1 a with
    | some (.inl (t1, n, .inr (.inl f))) => if t1 = 2 ∧ ¬ (i < 0 ∨ n ≤ i.toNatClampNeg) then K (hset hs.1 a (.inl (t1, n, .inr (.inl (vp_updL f i.toNatClampNeg x)))), hs.2) else none
    | _ => none
def stD {R : Type} (r : Option Nat) (i : Int32) (x : UInt64) (K : OO R) : OO R := fun hs => match r with
  | none => none
  | some a => match hs.1 a with
    | some (.inl (t1, n, .inr (.inr (.inr (.inl f))))) => if t1 = 3 ∧ ¬ (i < 0 ∨ n ≤ i.toNatClampNeg) then K (hset hs.1 a (.inl (t1, n, .inr (.inr (.inr (.inl (vf_upd f i.toNatClampNeg x)))))), hs.2) else none
    | _ => none
def f2dv {R : Type} (x : UInt32) (K : UInt64 → OO R) : OO R := fun hs => if FP.f2d x &&& 0x7fffffffffffffff ≤ 0x7ff0000000000000 then K (FP.f2d x) hs else none
/-- what a wrapper answers: a number, and a heap of some size -/
def QcW (G : GG) (k : Int32) (hs' : Hs) : Array Value → State → Outcome → State → Prop := fun _ st oc t => (oc = .returned (some (.int k)) ∧ ∃ sz : Nat, Rep G (hs'.1, sz, hs'.2.2) t.heap) ∧ va_F (gA G) st t
def XCW : String → State → State → Prop := fun _ _ _ => False
def CTW (G : GG) (l : Launch) (y : MethodName) (b : ByteArray) (nL : Nat) (hh : List (Nat × Nat × Nat × Nat)) (F L mc ms : Nat) (av : List Value) (hs : Hs) (k : Int32) (hs' : Hs) : Prop :=
  vx_Met l y (.codeWith y b nL (some .int) hh :: Tg) { frames := F, cells := mc, slots := ms, locals := L } (PcT G l av hs) (QcW G k hs') XCW mc ms (gA G)
section ROWS9
variable {p : Program} {l : Launch} {e : Env} {R : Room} {s : State} {m : MethodId} {args : Array Value} {below : List Frame} {meth : Method} {c : Code} {cells slots : Nat} {Q : State → Prop}
variable {G : GG} {own : String} {cc : ByteArray} {nL pc : Nat} {hs : Hs} {lv : List (Nat × Value)} {st : List Value} {rt : Option FieldType} {RT : Type} {o : Except Nat RT × Hs}
theorem q_i2l (C : Cx G l p s m args c own cc nL) {x : Int32} (d : decode cc pc = .ok (.i2l, 1)) (k : WG G p l e R s m args below meth c nL cells slots Q hs lv (.long x.toInt64 :: st) (pc + 1)) : WG G p l e R s m args below meth c nL cells slots Q hs lv (.int x :: st) pc :=
  fun H locs ls a b c1 => lv_i2l C.1 C.2.1 d rfl (k H locs ls a b c1)
theorem q_lconst (C : Cx G l p s m args c own cc nL) {n : Fin 2} (v : Int64) (d : decode cc pc = .ok (.lconst n, 1)) (hv : Int64.ofNat (n : Nat) = v) (k : WG G p l e R s m args below meth c nL cells slots Q hs lv (.long v :: st) (pc + 1)) : WG G p l e R s m args below meth c nL cells slots Q hs lv st pc :=
  fun H locs ls a b c1 => lv_lconst C.1 C.2.1 d hv (k H locs ls a b c1)
theorem q_f2d (C : Cx G l p s m args c own cc nL) {x : UInt32} {K : UInt64 → OO RT} (d : decode cc pc = .ok (.f2d, 1)) (h : f2dv x K hs = some o) (kk : ∀ z : UInt64, K z hs = some o → WG G p l e R s m args below meth c nL cells slots Q hs lv (.double z :: st) (pc + 1)) : WG G p l e R s m args below meth c nL cells slots Q hs lv (.float x :: st) pc := by
  unfold f2dv at h
  split at h
  · rename_i hne
    exact fun H locs ls a b c1 => lv_f2d C.1 C.2.1 d hne (kk _ h H locs ls a b c1)
  · cases h
theorem q_last (C : Cx G l p s m args c own cc nL) {r : Option Nat} {i : Int32} {x : Int64} {K : OO RT} (d : decode cc pc = .ok (.lastore, 1)) (h : stL r i x K hs = some o) (kk : ∀ hs1, K hs1 = some o → WG G p l e R s m args below meth c nL cells slots Q hs1 lv st (pc + 1)) : WG G p l e R s m args below meth c nL cells slots Q hs lv (.long x :: .int i :: va_rf r :: st) pc := by
  unfold stL at h
  split at h
  · cases h
  · rename_i a
    split at h
    · rename_i t1 n f ha
      split at h
      · rename_i hh
        obtain ⟨rfl, hi⟩ := hh
        intro H locs ls hR hS c1
        have hAa : gA G a := hR.A ha (ne_ce0 (vp_pos hi))
        refine W.last C.1 C.2.1 ((hR.P ha) 0 _ rfl) ((tyl_K C.2.2.2.2.2.1 (t := 2) rfl) n (fun j => .long (f j))) (fun q => by cases q) (by show ¬ (i < 0 ∨ (arrV _ _ _).slots.size ≤ _); rw [arrV_size]; exact hi) rfl rfl d fun H1 e z oq => ?_
        refine kk _ h H1 _ ls (hR.set hAa z oq ?_) (hS.put z oq hAa) c1
        show H1[a]? = some (vp_cell _ _)
        rw [e]
        show some ((arrV (G.2.1 2) n (fun j => .long (f j))).setSlot i.toNatClampNeg (.long x)) = some (arrV (G.2.1 2) n (fun j => .long (vp_updL f i.toNatClampNeg x j)))
        rw [arrV_store]
        congr 2
        funext q
        by_cases hq : q = i.toNatClampNeg
        · subst hq
          simp [updV, vp_updL]
        · simp [updV, vp_updL, hq]
      · cases h
    · cases h
theorem q_dast (C : Cx G l p s m args c own cc nL) {r : Option Nat} {i : Int32} {x : UInt64} {K : OO RT} (d : decode cc pc = .ok (.dastore, 1)) (h : stD r i x K hs = some o) (kk : ∀ hs1, K hs1 = some o → WG G p l e R s m args below meth c nL cells slots Q hs1 lv st (pc + 1)) : WG G p l e R s m args below meth c nL cells slots Q hs lv (.double x :: .int i :: va_rf r :: st) pc := by
  unfold stD at h
  split at h
  · cases h
  · rename_i a
    split at h
    · rename_i t1 n f ha
      split at h
      · rename_i hh
        obtain ⟨rfl, hi⟩ := hh
        intro H locs ls hR hS c1
        have hAa : gA G a := hR.A ha (ne_ce0 (vp_pos hi))
        refine W.dast C.1 C.2.1 ((hR.P ha) 0 _ rfl) ((tyl_K C.2.2.2.2.2.1 (t := 3) rfl) n (fun j => .double (f j))) (fun q => by cases q) (by show ¬ (i < 0 ∨ (arrV _ _ _).slots.size ≤ _); rw [arrV_size]; exact hi) rfl rfl d fun H1 e z oq => ?_
        refine kk _ h H1 _ ls (hR.set hAa z oq ?_) (hS.put z oq hAa) c1
        show H1[a]? = some (vp_cell _ _)
        rw [e]
        show some ((arrV (G.2.1 3) n (fun j => .double (f j))).setSlot i.toNatClampNeg (.double x)) = some (arrV (G.2.1 3) n (fun j => .double (vf_upd f i.toNatClampNeg x j)))
        rw [arrV_store]
        congr 2
        funext q
        by_cases hq : q = i.toNatClampNeg
        · subst hq
          simp [updV, vf_upd]
        · simp [updV, vf_upd, hq]
      · cases h
    · cases h
theorem q_wret (C : Cx G l p s m args c own cc nL) {k : Int32} {hs' : Hs} {mc ms : Nat} {x : Int32} (hr : meth.sig.returnType = some .int) (hlk : meth.locks = false) (hc : cells ≤ mc) (hsl : slots ≤ ms) (d : decode cc pc = .ok (.ireturn, 1)) (h : rtn x hs = some ((.ok k : Except Nat Int32), hs')) : WG G p l e R s m args below meth c nL cells slots (vx_MQ below (QcW G k hs') XCW args s mc ms (gA G)) hs lv [.int x] pc := by
  cases h
  intro H locs ls hR hS c1
  refine W.widen hc hsl (vx_ret ?_)
  exact W.iret C.1 C.2.1 hr (fun t ht hW => ⟨⟨rfl, hs.2.1, by rw [ht]; exact hR⟩, hS.F ht⟩) hS.2.2 d hlk
/-- the handler 'catch (..) { return n; }' -/
theorem q_hand (C : Cx G l p s m args c own cc nL) {k : Int32} {hs' : Hs} {mc ms i ln hpc : Nat} {n : Int} {H : Heap} {locs : List Loc} {ls : Array Slot} {q sz : Nat} (hr : meth.sig.returnType = some .int) (hlk : meth.locks = false) (hc : cells ≤ mc) (hsl : slots ≤ ms)
    (d0 : (∃ k4 : Fin 4, (k4 : Nat) = i ∧ ln = 1 ∧ decode cc hpc = .ok (.astore_n k4, 1)) ∨ (ln = 2 ∧ decode cc hpc = .ok (.astore i, 2))) (hi : i < nL) (d1 : decode cc (hpc + ln) = .ok (.iconst n, 1)) (hn : Int32.ofInt n = k) (d2 : decode cc (hpc + ln + 1) = .ok (.ireturn, 1))
    (hR : Rep G (hs'.1, sz, hs'.2.2) H) (hS : va_S (gA G) s.heap H locs) (c1 : LH ls nL lv) : W p l e R s m args below meth c H locs cells slots (vx_MQ below (QcW G k hs') XCW args s mc ms (gA G)) (F0 m hpc ls [.ref q]) := by
  have c2 : lv_has ls nL [] := ⟨c1.1.1, c1.1.2.1, fun _ h => nomatch h⟩
  have tail : ∀ ls' : Array Slot, W p l e R s m args below meth c H locs cells slots (vx_MQ below (QcW G k hs') XCW args s mc ms (gA G)) (F0 m (hpc + ln) ls' []) := fun ls' => by
    refine lv_iconst C.1 C.2.1 d1 hn ?_
    refine W.widen hc hsl (vx_ret ?_)
    exact W.iret C.1 C.2.1 hr (fun t ht hW => ⟨⟨rfl, sz, by rw [ht]; exact hR⟩, hS.F ht⟩) hS.2.2 d2 hlk
  rcases d0 with ⟨k4, rfl, rfl, d0⟩ | ⟨rfl, d0⟩
  · exact lv_astore_n C.1 C.2.1 d0 rfl c2 hi rfl (fun ls' _ => tail ls')
  · exact lv_astore C.1 C.2.1 d0 c2 hi rfl (fun ls' _ => tail ls')
theorem q_callW (C : Cx G l p s m args c own cc nL) {index maxL F L mc ms n : Nat} {y : MethodName} {b : ByteArray} {rt1 : Option FieldType} {CN : String} {T : u_T} {ci N : Nat} {r : Option Nat} {S1 : Type} {fr : Nat → OO S1} {tv : S1 → Option Value} {K : S1 → OO RT} {KX : Nat → OO RT} (As rest : List Value) (hM : ∀ a0 o2 hs1, fr a0 hs = some (o2, hs1) → CT G l y b maxL rt1 F L mc ms (.ref a0 :: As) hs o2 hs1 tv) (k : Lk own index y b maxL rt1 n) (hi : Cond.instanceMethod y ∈ Tg) (hsel : Cond.selects CN y y ∈ Tg) (hc : vwCl[ci]? = some (CN, T, N)) (hRm : F + 1 ≤ R.frames ∧ 8 + (maxL + 11) + L ≤ R.locals) (hf : cells + mc ≤ R.cells ∧ slots + ms ≤ R.slots) (hn : As.length = n) (hst : st = (As.reverse ++ va_rf r :: rest)) (hroom : (rest.map fun v => v.category).sum ≤ 8) (d : decode cc pc = .ok (.invokevirtual index, 3)) (h : rcv r ci (fun a => call (fr a) K KX) hs = some o)
    (kx : ∀ (k sz : Nat) (hs1 : Hs), KX k hs1 = some o → ∀ (H : Heap) (locs : List Loc) (ls : Array Slot) (ce : Cell) (q : Addr), Rep G (hs1.1, sz, hs1.2.2) H → va_S (gA G) s.heap H locs → H[q]? = some ce → ce.vm = .none → s.vm.findClass (exN k) = some ce.cls → LH ls nL lv → vx_W p l e R s m args below meth c H locs (cells + mc) (slots + ms) Q (F0 m pc ls rest) q)
    (kk : ∀ (r : S1) (hs1 : Hs), K r hs1 = some o → WG G p l e R s m args below meth c nL (cells + mc) (slots + ms) Q hs1 lv ((tv r).toList ++ rest) (pc + 3)) : WG G p l e R s m args below meth c nL cells slots Q hs lv st pc := by
  obtain ⟨a0, fs, rfl, ha, h⟩ := rcv_s h
  refine q_fin (a := ((.ref a0 :: As)).toArray) (rest := rest) (fun o2 hs1 hm H locs ls hR hS c1 => ?_) h kx kk
  exact vx_runV C.fix (hM a0 o2 hs1 hm) ⟨k.B C hRm, C.2.2.2.2.1 _ hi, C.2.2.2.2.1 _ hsel⟩ ⟨PcT.blind _ _ _ _, va_recv C.2.2.2.2.2.1.1 (hR.P ha) hc (q0 := 0) rfl, fun U hU hW => PcT.at C hR hS _ U hU hW⟩ rfl hn c1.1.1 hst (lv_room (m := m) (pc := pc) (ls := ls) (rest := st) hroom) d hf
end ROWS9
