/-! what holds at the law's start -/
theorem gu_J0 : ∀ w ∈ u_ws RJ0 TJ0 2, w ∈ Tg := by decide +kernel
theorem gu_Jx00060 : ∀ w ∈ u_ws RJx00060 TJx00060 6, w ∈ Tg := by decide +kernel
theorem gu_X7' : ∀ w ∈ u_ws RX7 TX7 3, w ∈ Tg := by decide +kernel
theorem wi_J0 : Cond.instantiable RJ0 4 ∈ Tg := Tg_of (i := 848) (by decide +kernel) (by decide +kernel)
theorem wi_Jx00060 : Cond.instantiable RJx00060 6 ∈ Tg := Tg_of (i := 830) (by decide +kernel) (by decide +kernel)
theorem kc_one {s : State} {args : Array Value} {C : String} {T : u_T} {N n ci : Nat} (hts : ∀ w ∈ Tg, w.before args s = true) (hin : ∀ w ∈ u_ws C T N, w ∈ Tg) (hi : Cond.instantiable C n ∈ Tg) (hc : vwCl[ci]? = some (C, T, N)) : ∃ q : ClassId × (Nat → Nat), ∀ r, vwCl[ci]? = some r → u_Kn s r.1 r.2.1 r.2.2 q.1 q.2 := by
  obtain ⟨cC, iS, h⟩ := u_known hts hin (hts _ hi)
  exact ⟨(cC, iS), fun r hr => by cases hc.symm.trans hr; exact h⟩
theorem kn_cls {s : State} {args : Array Value} (hts : ∀ w ∈ Tg, w.before args s = true) : ∃ D : va_G, ∀ (c : Nat) (q : vw_C), vwCl[c]? = some q → u_Kn s q.1 q.2.1 q.2.2 (D.1 c) (D.2 c) := by
  have h : ∀ c : Nat, ∃ q : ClassId × (Nat → Nat), ∀ r, vwCl[c]? = some r → u_Kn s r.1 r.2.1 r.2.2 q.1 q.2 := fun c => match c with
    | 0 => kc_one hts gu_J0 wi_J0 rfl
    | 1 => kc_one hts gu_Jx00060 wi_Jx00060 rfl
    | 2 => kc_one hts gu_Jx4a65c wi_Jx4a65c rfl
    | 3 => kc_one hts gu_X0 wi_X0 rfl
    | 4 => kc_one hts gu_X1 wi_X1 rfl
    | 5 => kc_one hts gu_X2 wi_X2 rfl
    | 6 => kc_one hts gu_X3 wi_X3 rfl
    | 7 => kc_one hts gu_X4 wi_X4 rfl
    | 8 => kc_one hts gu_X5 wi_X5 rfl
    | 9 => kc_one hts gu_X6 wi_X6 rfl
    | 10 => kc_one hts gu_X7 wi_X7 rfl
    | 11 => kc_one hts gu_X8 wi_X8 rfl
    | 12 => kc_one hts gu_X9 wi_X9 rfl
    | n + 13 => ⟨(0, fun _ => 0), fun r h => by simp [vwCl] at h⟩
  obtain ⟨f, hf⟩ := Classical.axiomOfChoice h
  exact ⟨(fun c => (f c).1, fun c => (f c).2), fun c q hq => hf c q hq⟩
theorem ka_P {s : State} {args : Array Value} {ty : FieldType} (hp : ∀ c, s.vm.findClass ("[" ++ ty.toString) = some c → va_RA s c ty) (h : (Cond.arrayClass ty).before args s = true) : ∃ cA : ClassId, ArrOfT s cA ty ∧ va_RA s cA ty := by
  obtain ⟨c, k, comp, h1, h2, h3⟩ := Cond.arrayClass_spec h
  exact ⟨c, fun N z => ⟨(fun k h => by cases h), k, h2, comp, h3⟩, hp c h1⟩
theorem kn_arr {s : State} {args : Array Value} (hts0 : ∀ w ∈ lw_tbl, w.before args s = true) (hts : ∀ w ∈ Tg, w.before args s = true) : ∃ dT : Nat → ClassId, ∀ (k : Nat) (q : ClassId × FieldType), (tyl dT)[k]? = some q → ArrOfT s q.1 q.2 ∧ va_RA s q.1 q.2 := by
  obtain ⟨c0, h0⟩ := ka_P (s := s) (args := args) (ty := .int) (fun c h => h) (hts _ ac_0)
  obtain ⟨c1, h1⟩ := ka_P (s := s) (args := args) (ty := .boolean) (fun c h => h) (hts _ ac_1)
  obtain ⟨c2, h2⟩ := ka_P (s := s) (args := args) (ty := .long) (fun c h => h) (hts _ ac_2)
  obtain ⟨c3, h3⟩ := ka_P (s := s) (args := args) (ty := .double) (fun c h => h) (hts _ ac_3)
  obtain ⟨comp, c4, k4, f1, f2, f3, f4, f5⟩ := Cond.arrayOver_spec (hts0 (Cond.arrayOver (.object "java/lang/Object")) (by decide +kernel))
  obtain ⟨comp5, c5, k5, g1, g2, g3, g4⟩ := Cond.arrayOver_specA (hts0 (Cond.arrayOver (.array .int)) (by decide +kernel))
  refine ⟨fun t => match t with | 0 => c0 | 1 => c1 | 2 => c2 | 3 => c3 | 4 => c4 | _ => c5, fun k q hq => ?_⟩
  match k, hq with
  | 0, hq => cases hq; exact h0
  | 1, hq => cases hq; exact h1
  | 2, hq => cases hq; exact h2
  | 3, hq => cases hq; exact h3
  | 4, hq => cases hq; exact ⟨fun N z => ⟨(fun k h => by cases h), k4, f3, comp, f4⟩, k4, comp, f3, f4, f1, f5⟩
  | 5, hq => cases hq; exact ⟨fun N z => ⟨(fun k h => by cases h), k5, g2, comp5, g3⟩, g4⟩
  | k + 6, hq => simp [tyl] at hq
def nar : Cond := Jvm.Cond.and given_1 narrow_1
theorem ks_all : ∀ q ∈ kx_str, Cond.stringRef q.1 q.2.1 q.2.2 ∈ lw_tbl ∧ Cond.exactly (.string q.1 q.2.1) "java/lang/String" ∈ flatC nar := by decide +kernel
theorem kx_nc_all : ∀ q ∈ kx_nc, Cond.not (.castable q.1 q.2) ∈ flatC nar := by decide +kernel
theorem kx_nest_all : ∀ q ∈ kx_nest, Cond.methodLinkNest q.1 q.2.1 q.2.2.1 q.2.2.2 ∈ lw_tbl := by decide +kernel
theorem kx_cast_all : ∀ q ∈ kx_cast, Cond.castable q.1 q.2 ∈ lw_tbl := by decide +kernel
theorem kx_decl_all : ∀ y ∈ kx_decl, Cond.declares y ∈ lw_tbl := by decide +kernel
theorem kx_letw : ∀ q ∈ kx_let, Cond.stringRef q.1 q.2 "hpokscrtgv" ∈ lw_tbl := by decide +kernel
def tmL : Term := .string "Termgrid$Lesson" 131
def tmV : Term := .field tmL "java/lang/String" "value" "[B"
theorem kl_by : ∀ j, j < 10 → Cond.eq (.elem tmV (.int (Int32.ofNat j))) (.int (kx_bytes.getD j 0)) ∈ flatC nar := by decide +kernel
theorem ks_letters {s : State} {args : Array Value} {A : Nat → Prop} (hn : ∀ c ∈ flatC nar, c.before args s = true) (hA : ∀ a : Nat, a < s.heap.size → ¬ A a) : ∃ sa sv : Nat, vk_S 1 [10] [kx_bytes] (fun _ => sa) (fun _ => sv) A s s.heap ∧ tmL.eval args s none [] s = some (.ref sa) := by
  obtain ⟨adK, adV, h1, h2⟩ := vk_Sof (args := args) (s := s) (N := 1) (tm := fun _ => tmL) (len := [10]) (byt := [kx_bytes]) (A := A)
    (fun i hi => by have : i = 0 := by omega
                    subst this; decide)
    (fun i hi => hn _ (by decide +kernel)) (fun i hi => hn _ (by decide +kernel)) (fun i hi => hn _ (by decide +kernel))
    (fun i hi => by have : i = 0 := by omega
                    subst this; exact hn _ (by decide +kernel))
    (fun i hi j hj => by have : i = 0 := by omega
                         subst this; exact hn _ (kl_by j hj))
    (fun i j hi hj hij => absurd (by omega) hij) hA
  refine ⟨adK 0, adV 0, ⟨fun i hi => ?_, fun i j hi hj _ => by omega⟩, h2 0 (by decide)⟩
  have : i = 0 := by omega
  subst this
  exact h1.1 0 (by decide)
def eaT : Term := .static "java/util/ArrayList" "DEFAULTCAPACITY_EMPTY_ELEMENTDATA" "[Ljava/lang/Object;"
theorem kn_start {p : Program} {s : State} {m : MethodId} {meth : Method} {c : Code} (l : Launch) (hflags : l.flags = flags0) {b L : Nat} {xs : Nat → Int32} (C0 : lw_At p s m meth c b L xs) : ∃ G : GG, G.2.2.1 = s.heap.size ∧ G.2.2.2.1 < s.heap.size ∧ Kn G l s s.heap ∧ Rep G ((fun q => if q = G.2.2.2.1 then some ce0 else none), s.heap.size, G.2.2.2.1) s.heap := by
  obtain ⟨hx, hc, hr, hml, hown, hts, hX, hbl, hlk, hgv⟩ := C0
  have hn : ∀ c ∈ flatC nar, c.before #[.ref b] s = true := flat_of_before _ hgv
  have hT : ∀ w ∈ Tg, w.before #[.ref b] s = true := fun w hw => hts w ((List.mem_filter.mp hw).1)
  have hA : ∀ a : Nat, a < s.heap.size → ¬ (s.heap.size ≤ a) := fun a h => Nat.not_le.mpr h
  obtain ⟨D, hD⟩ := kn_cls hT
  obtain ⟨dT, hdT⟩ := kn_arr hts hT
  obtain ⟨sa, sv, hS, hSe⟩ := ks_letters (A := fun q => s.heap.size ≤ q) hn hA
  obtain ⟨mi, hmi⟩ := va_Mi.of (C := "[Ljava/lang/Object;") (args := #[.ref b]) (s := s) (hn _ (by decide +kernel))
  obtain ⟨e0, ce, cell, kE, q1, q2, q3, q4, q5, q6, -⟩ := Cond.exactly_spec (hn (Cond.exactly eaT "[Ljava/lang/Object;") (by decide +kernel))
  have hln := va_eqt (hn (Cond.eq (.length eaT) (.int 0)) (by decide +kernel))
  obtain ⟨e1, cell1, r1, r2, r3⟩ := Term.length_spec hln
  have hee : e1 = e0 := by
    have h9 := r1.symm.trans q1
    cases h9
    rfl
  subst hee
  have hcc : cell1 = cell := Option.some.inj ((State.arrayAt?_spec r2).1.symm.trans q3)
  subst hcc
  have hsz : cell1.slots.size.toInt32 = 0 := by
    injection r3 with r4
    exact r4.symm
  have he0 : e1 < s.heap.size := (Array.getElem?_eq_some_iff.mp q3).1
  obtain ⟨kA, comp, t1, t2, t3, t4⟩ := (hdT 4 _ rfl).2
  have hce : ce = dT 4 := Option.some.inj (q2.symm.trans t4)
  refine ⟨(D, dT, s.heap.size, e1, sa, sv, mi), rfl, he0, ⟨⟨hD, hdT⟩, ?_, ?_, ?_, ?_, ?_, ?_, ?_, ?_, hS, ?_, ?_, ?_, ?_, hmi, ?_, ?_, ?_⟩, rfl, rfl, Nat.le_refl _, fun a e ha => ?_⟩
  · unfold Launch.stackTraces
    rw [hflags]
    decide +kernel
  · exact fun q hq => va_Nw.of rfl (hts _ (kx_nest_all q hq))
  · exact fun q hq => va_Nw.of rfl (hts _ (kx_cast_all q hq))
  · intro q hq
    obtain ⟨h1, h2⟩ := ks_all q hq
    obtain ⟨a, c9, cell9, k9, y1, -⟩ := Cond.exactly_spec (hn _ h2)
    exact ⟨a, vk_R.of (hts _ h1) y1⟩
  · exact vx_Zqof (hts _ (by decide +kernel)) (hts _ (by decide +kernel)) (hn _ (by decide +kernel)) hA
  · exact vx_Zqof (hts _ (by decide +kernel)) (hts _ (by decide +kernel)) (hn _ (by decide +kernel)) hA
  · exact va_AO.of (hts _ (by decide +kernel))
  · intro q hq
    have hw := hts _ (kx_letw q hq)
    have hq2 : q = ("Termgrid$Lesson", 131) ∨ q = ("Termgrid$Filler", 108) ∨ q = ("Termgrid", 165) := by simpa [kx_let] using hq
    rcases hq2 with rfl | rfl | rfl
    · exact vk_R.of hw hSe
    · exact vk_R.of hw (va_eqR (hn (Cond.eq tmL (.string "Termgrid$Filler" 108)) (by decide +kernel)) hSe)
    · exact vk_R.of hw (va_eqR (hn (Cond.eq tmL (.string "Termgrid" 165)) (by decide +kernel)) hSe)
  · exact va_Zof (hts _ (by decide +kernel)) (hts _ (by decide +kernel)) (va_eqt (hn _ (by decide +kernel))) hA
  · exact va_Zof (hts (Cond.laysStatic "java/util/ArrayList" "DEFAULTCAPACITY_EMPTY_ELEMENTDATA" "[Ljava/lang/Object;") (by decide +kernel)) (hts _ (by decide +kernel)) q1 hA
  · exact va_Dc.of (hts _ (by decide +kernel))
  · exact fun y hy => va_Nw.of rfl (hts _ (kx_decl_all y hy))
  · exact va_Zqof (hts _ (by decide +kernel)) (hts _ (by decide +kernel)) (hn _ (by decide +kernel)) hA
  · exact hts (Cond.arrayOver (.array .int)) (by decide +kernel)
  · exact fun q hq => va_Nc.of (hn _ (kx_nc_all q hq))
  · dsimp only at ha
    split at ha
    · rename_i h
      subst h
      cases ha
      refine Or.inr ⟨rfl, cell1, q3, fun k hk => ?_, hsz, q6.trans hce⟩
      rw [hk] at q5
      cases q5
    · cases ha
