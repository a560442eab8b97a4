def gE {R : Type} (K : Option Nat → OO R) : OO R := fun hs => K (some hs.2.2) hs
section ROWS6
variable {p : Program} {l : Launch} {e : Env} {R : Room} {s : State} {m : MethodId} {args : Array Value} {below : List Frame} {meth : Method} {c : Code} {cells slots : Nat} {Q : State → Prop}
variable {G : GG} {own : String} {cc : ByteArray} {nL pc : Nat} {hs : Hs} {lv : List (Nat × Value)} {st : List Value} {rt : Option FieldType} {RT : Type} {o : Except Nat RT × Hs}
theorem q_gE (C : Cx G l p s m args c own cc nL) {index : Nat} {K : Option Nat → OO RT} (hl : Cond.fieldLink own index "java/util/ArrayList" "DEFAULTCAPACITY_EMPTY_ELEMENTDATA" "[Ljava/lang/Object;" ∈ Tg) (d : decode cc pc = .ok (.getstatic index, 3)) (h : gE K hs = some o) (kk : ∀ r : Option Nat, K r hs = some o → WG G p l e R s m args below meth c nL cells slots Q hs lv (va_rf r :: st) (pc + 3)) : WG G p l e R s m args below meth c nL cells slots Q hs lv st pc := by
  intro H locs ls hR hS c1
  have hk := kk (some hs.2.2) h
  rw [hR.2.1] at hk
  exact va_gets C.1 C.2.1 (kn_dflt C.kn) hS C.2.2.2.1 (C.2.2.2.2.1 _ hl) (fun _ z => z) d (hk H locs ls hR hS c1)
theorem WG_st {st' : List Value} (e9 : st = st') (k : WG G p l e R s m args below meth c nL cells slots Q hs lv st' pc) : WG G p l e R s m args below meth c nL cells slots Q hs lv st pc := e9 ▸ k
end ROWS6
