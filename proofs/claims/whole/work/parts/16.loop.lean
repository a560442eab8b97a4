-- ===== end of PART A; then your names; then what follows =====
/-! THE CLAIM OUT OF ONE WALK OF THE LAW'S BODY. Your part is whole_start (and what it stands on); all else here is the same for every law, but numbers. -/
def R_law : String := "TermgridLaw"
def lw_P (b : Addr) (xs : List Int32) (args : Array Value) (s : State) : Prop := args = #[.ref b] ∧ s.IntsAt b xs ∧ xs.length ≤ 3072 ∧ (Jvm.Cond.and given_1 narrow_1).before args s = true
/-- what a walk over the start with the record d0 says of its end, said of the start itself -/
theorem lw_closed {s t : State} {o : Outcome} {d0 : Drawn} {L : List Loc} {k n : Nat} (hd0 : s.drawn.sameBut d0 lw_cs) (hv : ∃ v, o = .returned v) (hW : (s.setDrawn d0).WarmedH t.vm) (hs : (s.setDrawn d0).sameButNew ({ t with vm := s.vm } : State) L k n) : State.butDraws s t lw_cs (fun t1 => Framed s o t1 L k n) := by
  have h2 : t.drawn = d0 := congrArg State.drawn hs.1
  refine ⟨⟨hv, hW, State.sameButNew.setDrawn hs s.drawn⟩, ?_, by decide⟩
  rw [h2]
  exact hd0
def lw_Q (_ : Array Value) (s : State) (o : Outcome) (t : State) : Prop := o = .returned (some (.int 1)) ∧ State.butDraws s t lw_cs (fun t1 => Framed s o t1 [] room_1.cells room_1.slots)
def lw_Z (below : List Frame) (a : Array Value) (s : State) : State → Prop := fun t => ∃ o, t.status = .running ∧ Ended t below o ∧ lw_Q a s o t
/-- the law's own end, with 1 on the stack, nothing written that was there before, its room as the claim has it; d0: the record of draws at this point (at the entry s.drawn: begin with 'refine W.base ?_' and 'have hd0 := Drawn.sameBut.refl s.drawn lw_cs') -/
theorem lw_ret {p : Program} {l : Launch} {e : Env} {s : State} {m : MethodId} {below : List Frame} {meth : Method} {c : Code} {b : Nat} {d0 : Drawn} (hd0 : s.drawn.sameBut d0 lw_cs) (hx : p.tables.exec = Jvm.exec) (hb : c.code = code) (hr : meth.sig.returnType = ret) (hlocks : meth.locks = false) {pc : Nat} {H : Heap} {ls : Array Slot} (hdg : decode code pc = .ok (.ireturn, 1)) : W p l e room_1 (s.setDrawn d0) m #[Value.ref b] below meth c H [] room_1.cells room_1.slots (lw_Z below #[Value.ref b] s) (F0 m pc ls [.int 1]) := by
  intro T hT X
  obtain ⟨fs, hret, hrun, hended, hW, hframe⟩ := X.leave (v := some (.int 1)) (hlocks := hlocks) (fun h => by rw [hr] at h; cases h)
  have hmeth' : T.vm.method? m = some meth := X.method'
  refine ⟨T.setFrames fs, ?_, .returned (some (.int 1)), hrun, hended, rfl, lw_closed hd0 ⟨_, rfl⟩ hW hframe⟩
  jvm_step X.here [X.here.top, hx, hb, hdg, hmeth', hr, ret, narrow_b1]
  (try refine ⟨rfl, ?_⟩); (try refine ⟨rfl, ?_⟩)
  first | (intro acts; rw [hret _ acts rfl rfl rfl]) | rw [hret _ _ rfl rfl rfl]
  exact Steps.refl _
/-- what holds at the law's entry: the machine, the code, the tables' words (any of lw_tbl by 'hts w (by decide +kernel)'), the script of L ints xs at the cell b, what the Statement gives of the start (any of its parts by flat_of_before) -/
def lw_At (p : Program) (s : State) (m : MethodId) (meth : Method) (c : Code) (b L : Nat) (xs : Nat → Int32) : Prop :=
  p.tables.exec = Jvm.exec ∧ c.code = code ∧ meth.sig.returnType = ret ∧ c.maxLocals = 9 ∧ s.vm.findClass R_law = some m.cls ∧ (∀ w ∈ lw_tbl, w.before #[Value.ref b] s = true) ∧ va_X b L xs s s.heap ∧ b < s.heap.size ∧ meth.locks = false ∧ (Jvm.Cond.and given_1 narrow_1).before #[Value.ref b] s = true

theorem it_p {c a b : Prop} [Decidable c] (h : if c then a else b) (hc : c) : a := by rw [if_pos hc] at h; exact h
theorem it_n {c a b : Prop} [Decidable c] (h : if c then a else b) (hc : ¬ c) : b := by rw [if_neg hc] at h; exact h
theorem sw_no {v : Int32} (h : ∀ k : Fin 44, ¬ v = Int32.ofNat k) : v.toInt < 0 ∨ 43 < v.toInt := by
  by_cases h0 : v.toInt < 0
  · exact .inl h0
  · by_cases h1 : 43 < v.toInt
    · exact .inr h1
    · refine absurd ?_ (h ⟨v.toInt.toNat, by omega⟩)
      apply Int32.toInt_inj.mp
      rw [show (Int32.ofNat v.toInt.toNat).toInt = _ from nI_toInt (n := v.toInt.toNat) (by omega)]
      omega

set_option maxRecDepth 100000 in
set_option maxHeartbeats 4000000 in
theorem law_disp {p : Program} {l : Launch} {e : Env} {s : State} {m : MethodId} {args : Array Value} {below : List Frame} {meth : Method} {c : Code} {cells slots : Nat} {Q : State → Prop} {G : GG} {hs : Hs} {b L x0 m0 out outD : Nat} {xs : Nat → Int32} {v5 : Int32} {next : Hs → Prop} (C : Cx G l p s m args c RL cL_law 9) (hX : va_X b L xs s s.heap) (hbl : b < s.heap.size) (hbA : ¬ gA G b) (hj : vp_in (v5 + 1) L ∧ vp_in (v5 + 2) L ∧ vp_in (v5 + 3) L ∧ vp_in (v5 + 4) L ∧ vp_in (v5 + 5) L) (hcb : cells + 310 ≤ room_1.cells ∧ slots + 5000 ≤ room_1.slots) {v : Int32} (hop : LawStep x0 m0 out outD v (xs (v5 + (1 : Int32)).toNatClampNeg) (xs (v5 + (2 : Int32)).toNatClampNeg) (xs (v5 + (3 : Int32)).toNatClampNeg) (xs (v5 + (4 : Int32)).toNatClampNeg) (xs (v5 + (5 : Int32)).toNatClampNeg) next hs) (hn : ∀ hs2, next hs2 → WG G p l e room_1 s m args below meth c 9 (cells + 310) (slots + 5000) Q hs2 [(0, va_rf (some b)), (1, va_rf (some x0)), (2, va_rf (some m0)), (3, va_rf (some out)), (4, va_rf (some outD)), (5, .int v5)] [] 2696) : WG G p l e room_1 s m args below meth c 9 cells slots Q hs [(0, va_rf (some b)), (1, va_rf (some x0)), (2, va_rf (some m0)), (3, va_rf (some out)), (4, va_rf (some outD)), (5, .int v5)] [.int v] 45 := by
  unfold LawStep at hop
  by_cases h0 : v = (0 : Int32)
  · exact q_tswI C (k := (0 : Int32)) 236 dL_law_45 h0 (by decide) (by decide) (by rfl) (by decide) (law_c0 C hX hbl hbA hj hcb (it_p hop h0) hn)
  replace hop := it_n hop h0
  by_cases h1 : v = (1 : Int32)
  · exact q_tswI C (k := (1 : Int32)) 316 dL_law_45 h1 (by decide) (by decide) (by rfl) (by decide) (law_c1 C hX hbl hbA hj hcb (it_p hop h1) hn)
  replace hop := it_n hop h1
  by_cases h2 : v = (2 : Int32)
  · exact q_tswI C (k := (2 : Int32)) 372 dL_law_45 h2 (by decide) (by decide) (by rfl) (by decide) (law_c2 C hX hbl hbA hj hcb (it_p hop h2) hn)
  replace hop := it_n hop h2
  by_cases h3 : v = (3 : Int32)
  · exact q_tswI C (k := (3 : Int32)) 428 dL_law_45 h3 (by decide) (by decide) (by rfl) (by decide) (law_c3 C hX hbl hbA hj hcb (it_p hop h3) hn)
  replace hop := it_n hop h3
  by_cases h4 : v = (4 : Int32)
  · exact q_tswI C (k := (4 : Int32)) 532 dL_law_45 h4 (by decide) (by decide) (by rfl) (by decide) (law_c4 C hX hbl hbA hj hcb (it_p hop h4) hn)
  replace hop := it_n hop h4
  by_cases h5 : v = (5 : Int32)
  · exact q_tswI C (k := (5 : Int32)) 612 dL_law_45 h5 (by decide) (by decide) (by rfl) (by decide) (law_c5 C hX hbl hbA hj hcb (it_p hop h5) hn)
  replace hop := it_n hop h5
  by_cases h6 : v = (6 : Int32)
  · exact q_tswI C (k := (6 : Int32)) 680 dL_law_45 h6 (by decide) (by decide) (by rfl) (by decide) (law_c6 C hX hbl hbA hj hcb (it_p hop h6) hn)
  replace hop := it_n hop h6
  by_cases h7 : v = (7 : Int32)
  · exact q_tswI C (k := (7 : Int32)) 760 dL_law_45 h7 (by decide) (by decide) (by rfl) (by decide) (law_c7 C hX hbl hbA hj hcb (it_p hop h7) hn)
  replace hop := it_n hop h7
  by_cases h8 : v = (8 : Int32)
  · exact q_tswI C (k := (8 : Int32)) 828 dL_law_45 h8 (by decide) (by decide) (by rfl) (by decide) (law_c8 C hX hbl hbA hj hcb (it_p hop h8) hn)
  replace hop := it_n hop h8
  by_cases h9 : v = (9 : Int32)
  · exact q_tswI C (k := (9 : Int32)) 908 dL_law_45 h9 (by decide) (by decide) (by rfl) (by decide) (law_c9 C hX hbl hbA hj hcb (it_p hop h9) hn)
  replace hop := it_n hop h9
  by_cases h10 : v = (10 : Int32)
  · exact q_tswI C (k := (10 : Int32)) 964 dL_law_45 h10 (by decide) (by decide) (by rfl) (by decide) (law_c10 C hX hbl hbA hj hcb (it_p hop h10) hn)
  replace hop := it_n hop h10
  by_cases h11 : v = (11 : Int32)
  · exact q_tswI C (k := (11 : Int32)) 1020 dL_law_45 h11 (by decide) (by decide) (by rfl) (by decide) (law_c11 C hX hbl hbA hj hcb (it_p hop h11) hn)
  replace hop := it_n hop h11
  by_cases h12 : v = (12 : Int32)
  · exact q_tswI C (k := (12 : Int32)) 1076 dL_law_45 h12 (by decide) (by decide) (by rfl) (by decide) (law_c12 C hX hbl hbA hj hcb (it_p hop h12) hn)
  replace hop := it_n hop h12
  by_cases h13 : v = (13 : Int32)
  · exact q_tswI C (k := (13 : Int32)) 1139 dL_law_45 h13 (by decide) (by decide) (by rfl) (by decide) (law_c13 C hX hbl hbA hj hcb (it_p hop h13) hn)
  replace hop := it_n hop h13
  by_cases h14 : v = (14 : Int32)
  · exact q_tswI C (k := (14 : Int32)) 1195 dL_law_45 h14 (by decide) (by decide) (by rfl) (by decide) (law_c14 C hX hbl hbA hj hcb (it_p hop h14) hn)
  replace hop := it_n hop h14
  by_cases h15 : v = (15 : Int32)
  · exact q_tswI C (k := (15 : Int32)) 1263 dL_law_45 h15 (by decide) (by decide) (by rfl) (by decide) (law_c15 C hX hbl hbA hj hcb (it_p hop h15) hn)
  replace hop := it_n hop h15
  by_cases h16 : v = (16 : Int32)
  · exact q_tswI C (k := (16 : Int32)) 1331 dL_law_45 h16 (by decide) (by decide) (by rfl) (by decide) (law_c16 C hX hbl hbA hj hcb (it_p hop h16) hn)
  replace hop := it_n hop h16
  by_cases h17 : v = (17 : Int32)
  · exact q_tswI C (k := (17 : Int32)) 1387 dL_law_45 h17 (by decide) (by decide) (by rfl) (by decide) (law_c17 C hX hbl hbA hj hcb (it_p hop h17) hn)
  replace hop := it_n hop h17
  by_cases h18 : v = (18 : Int32)
  · exact q_tswI C (k := (18 : Int32)) 1455 dL_law_45 h18 (by decide) (by decide) (by rfl) (by decide) (law_c18 C hX hbl hbA hj hcb (it_p hop h18) hn)
  replace hop := it_n hop h18
  by_cases h19 : v = (19 : Int32)
  · exact q_tswI C (k := (19 : Int32)) 1511 dL_law_45 h19 (by decide) (by decide) (by rfl) (by decide) (law_c19 C hX hbl hbA hj hcb (it_p hop h19) hn)
  replace hop := it_n hop h19
  by_cases h20 : v = (20 : Int32)
  · exact q_tswI C (k := (20 : Int32)) 1591 dL_law_45 h20 (by decide) (by decide) (by rfl) (by decide) (law_c20 C hX hbl hbA hj hcb (it_p hop h20) hn)
  replace hop := it_n hop h20
  by_cases h21 : v = (21 : Int32)
  · exact q_tswI C (k := (21 : Int32)) 1635 dL_law_45 h21 (by decide) (by decide) (by rfl) (by decide) (law_c21 C hX hbl hbA hj hcb (it_p hop h21) hn)
  replace hop := it_n hop h21
  by_cases h22 : v = (22 : Int32)
  · exact q_tswI C (k := (22 : Int32)) 1648 dL_law_45 h22 (by decide) (by decide) (by rfl) (by decide) (law_c22 C hX hbl hbA hj hcb (it_p hop h22) hn)
  replace hop := it_n hop h22
  by_cases h23 : v = (23 : Int32)
  · exact q_tswI C (k := (23 : Int32)) 1704 dL_law_45 h23 (by decide) (by decide) (by rfl) (by decide) (law_c23 C hX hbl hbA hj hcb (it_p hop h23) hn)
  replace hop := it_n hop h23
  by_cases h24 : v = (24 : Int32)
  · exact q_tswI C (k := (24 : Int32)) 1717 dL_law_45 h24 (by decide) (by decide) (by rfl) (by decide) (law_c24 C hX hbl hbA hj hcb (it_p hop h24) hn)
  replace hop := it_n hop h24
  by_cases h25 : v = (25 : Int32)
  · exact q_tswI C (k := (25 : Int32)) 1730 dL_law_45 h25 (by decide) (by decide) (by rfl) (by decide) (law_c25 C hX hbl hbA hj hcb (it_p hop h25) hn)
  replace hop := it_n hop h25
  by_cases h26 : v = (26 : Int32)
  · exact q_tswI C (k := (26 : Int32)) 1786 dL_law_45 h26 (by decide) (by decide) (by rfl) (by decide) (law_c26 C hX hbl hbA hj hcb (it_p hop h26) hn)
  replace hop := it_n hop h26
  by_cases h27 : v = (27 : Int32)
  · exact q_tswI C (k := (27 : Int32)) 1799 dL_law_45 h27 (by decide) (by decide) (by rfl) (by decide) (law_c27 C hX hbl hbA hj hcb (it_p hop h27) hn)
  replace hop := it_n hop h27
  by_cases h28 : v = (28 : Int32)
  · exact q_tswI C (k := (28 : Int32)) 1855 dL_law_45 h28 (by decide) (by decide) (by rfl) (by decide) (law_c28 C hX hbl hbA hj hcb (it_p hop h28) hn)
  replace hop := it_n hop h28
  by_cases h29 : v = (29 : Int32)
  · exact q_tswI C (k := (29 : Int32)) 1911 dL_law_45 h29 (by decide) (by decide) (by rfl) (by decide) (law_c29 C hX hbl hbA hj hcb (it_p hop h29) hn)
  replace hop := it_n hop h29
  by_cases h30 : v = (30 : Int32)
  · exact q_tswI C (k := (30 : Int32)) 1979 dL_law_45 h30 (by decide) (by decide) (by rfl) (by decide) (law_c30 C hX hbl hbA hj hcb (it_p hop h30) hn)
  replace hop := it_n hop h30
  by_cases h31 : v = (31 : Int32)
  · exact q_tswI C (k := (31 : Int32)) 2035 dL_law_45 h31 (by decide) (by decide) (by rfl) (by decide) (law_c31 C hX hbl hbA hj hcb (it_p hop h31) hn)
  replace hop := it_n hop h31
  by_cases h32 : v = (32 : Int32)
  · exact q_tswI C (k := (32 : Int32)) 2091 dL_law_45 h32 (by decide) (by decide) (by rfl) (by decide) (law_c32 C hX hbl hbA hj hcb (it_p hop h32) hn)
  replace hop := it_n hop h32
  by_cases h33 : v = (33 : Int32)
  · exact q_tswI C (k := (33 : Int32)) 2135 dL_law_45 h33 (by decide) (by decide) (by rfl) (by decide) (law_c33 C hX hbl hbA hj hcb (it_p hop h33) hn)
  replace hop := it_n hop h33
  by_cases h34 : v = (34 : Int32)
  · exact q_tswI C (k := (34 : Int32)) 2179 dL_law_45 h34 (by decide) (by decide) (by rfl) (by decide) (law_c34 C hX hbl hbA hj hcb (it_p hop h34) hn)
  replace hop := it_n hop h34
  by_cases h35 : v = (35 : Int32)
  · exact q_tswI C (k := (35 : Int32)) 2192 dL_law_45 h35 (by decide) (by decide) (by rfl) (by decide) (law_c35 C hX hbl hbA hj hcb (it_p hop h35) hn)
  replace hop := it_n hop h35
  by_cases h36 : v = (36 : Int32)
  · exact q_tswI C (k := (36 : Int32)) 2248 dL_law_45 h36 (by decide) (by decide) (by rfl) (by decide) (law_c36 C hX hbl hbA hj hcb (it_p hop h36) hn)
  replace hop := it_n hop h36
  by_cases h37 : v = (37 : Int32)
  · exact q_tswI C (k := (37 : Int32)) 2292 dL_law_45 h37 (by decide) (by decide) (by rfl) (by decide) (law_c37 C hX hbl hbA hj hcb (it_p hop h37) hn)
  replace hop := it_n hop h37
  by_cases h38 : v = (38 : Int32)
  · exact q_tswI C (k := (38 : Int32)) 2360 dL_law_45 h38 (by decide) (by decide) (by rfl) (by decide) (law_c38 C hX hbl hbA hj hcb (it_p hop h38) hn)
  replace hop := it_n hop h38
  by_cases h39 : v = (39 : Int32)
  · exact q_tswI C (k := (39 : Int32)) 2428 dL_law_45 h39 (by decide) (by decide) (by rfl) (by decide) (law_c39 C hX hbl hbA hj hcb (it_p hop h39) hn)
  replace hop := it_n hop h39
  by_cases h40 : v = (40 : Int32)
  · exact q_tswI C (k := (40 : Int32)) 2484 dL_law_45 h40 (by decide) (by decide) (by rfl) (by decide) (law_c40 C hX hbl hbA hj hcb (it_p hop h40) hn)
  replace hop := it_n hop h40
  by_cases h41 : v = (41 : Int32)
  · exact q_tswI C (k := (41 : Int32)) 2552 dL_law_45 h41 (by decide) (by decide) (by rfl) (by decide) (law_c41 C hX hbl hbA hj hcb (it_p hop h41) hn)
  replace hop := it_n hop h41
  by_cases h42 : v = (42 : Int32)
  · exact q_tswI C (k := (42 : Int32)) 2618 dL_law_45 h42 (by decide) (by decide) (by rfl) (by decide) (law_c42 C hX hbl hbA hj hcb (it_p hop h42) hn)
  replace hop := it_n hop h42
  by_cases h43 : v = (43 : Int32)
  · exact q_tswI C (k := (43 : Int32)) 2683 dL_law_45 h43 (by decide) (by decide) (by rfl) (by decide) (law_c43 C hX hbl hbA hj hcb (it_p hop h43) hn)
  replace hop := it_n hop h43
  refine q_tswO C 2696 dL_law_45 (sw_no (fun k => ?_)) (by decide) ?_
  · match k with
    | ⟨0, _⟩ => exact h0
    | ⟨1, _⟩ => exact h1
    | ⟨2, _⟩ => exact h2
    | ⟨3, _⟩ => exact h3
    | ⟨4, _⟩ => exact h4
    | ⟨5, _⟩ => exact h5
    | ⟨6, _⟩ => exact h6
    | ⟨7, _⟩ => exact h7
    | ⟨8, _⟩ => exact h8
    | ⟨9, _⟩ => exact h9
    | ⟨10, _⟩ => exact h10
    | ⟨11, _⟩ => exact h11
    | ⟨12, _⟩ => exact h12
    | ⟨13, _⟩ => exact h13
    | ⟨14, _⟩ => exact h14
    | ⟨15, _⟩ => exact h15
    | ⟨16, _⟩ => exact h16
    | ⟨17, _⟩ => exact h17
    | ⟨18, _⟩ => exact h18
    | ⟨19, _⟩ => exact h19
    | ⟨20, _⟩ => exact h20
    | ⟨21, _⟩ => exact h21
    | ⟨22, _⟩ => exact h22
    | ⟨23, _⟩ => exact h23
    | ⟨24, _⟩ => exact h24
    | ⟨25, _⟩ => exact h25
    | ⟨26, _⟩ => exact h26
    | ⟨27, _⟩ => exact h27
    | ⟨28, _⟩ => exact h28
    | ⟨29, _⟩ => exact h29
    | ⟨30, _⟩ => exact h30
    | ⟨31, _⟩ => exact h31
    | ⟨32, _⟩ => exact h32
    | ⟨33, _⟩ => exact h33
    | ⟨34, _⟩ => exact h34
    | ⟨35, _⟩ => exact h35
    | ⟨36, _⟩ => exact h36
    | ⟨37, _⟩ => exact h37
    | ⟨38, _⟩ => exact h38
    | ⟨39, _⟩ => exact h39
    | ⟨40, _⟩ => exact h40
    | ⟨41, _⟩ => exact h41
    | ⟨42, _⟩ => exact h42
    | ⟨43, _⟩ => exact h43
    | ⟨n + 44, h⟩ => exact absurd h (by omega)
  · exact WG.widen (k := cells + 310) (n := slots + 5000) (by omega) (by omega) (hn _ hop)
theorem nI_in' {c N : Nat} (h : c < N) (hN : N ≤ 3072) : vp_in (nI c) N := nI_in h (by omega)
theorem nI_sub6 {L : Nat} (h : L ≤ 3072) : (nI L - 6).toInt = (L : Int) - 6 := by
  rw [Int32.toInt_sub, nI_toInt (by omega)]
  show Int.bmod ((L : Int) - 6) (2 ^ 32) = _
  rw [Int.bmod_eq_of_le (by omega) (by omega)]
section ROWS12
variable {p : Program} {l : Launch} {e : Env} {R : Room} {s : State} {m : MethodId} {args : Array Value} {below : List Frame} {meth : Method} {c : Code} {cells slots : Nat} {Q : State → Prop}
variable {G : GG} {own : String} {cc : ByteArray} {nL pc : Nat} {hs : Hs} {lv : List (Nat × Value)} {st : List Value}
theorem q_iincP (C : Cx G l p s m args c own cc nL) {i : Nat} {n : Int} {x v : Int32} (j : Nat) (lv' : List (Nat × Value)) (d : decode cc pc = .ok (.iinc i n, 3)) (hj : lv[j]? = some (i, .int x)) (hv : x + Int32.ofInt n = v) (hn : i < nL) (hl : (i, Value.int v) :: lv.filter (fun q => !(q.1 == i)) = lv') (kk : WG G p l e R s m args below meth c nL cells slots Q hs lv' st (pc + 3)) : WG G p l e R s m args below meth c nL cells slots Q hs lv st pc :=
  fun H locs ls a b c1 => lv_iinc C.1 C.2.1 d c1.1 hj hv hn (by rw [lv_fl c1.2]; exact hl) (fun ls' c2 => kk H locs ls' a b ⟨c2, by rw [← hl]; exact c1_i (c1_f c1.2)⟩)
theorem q_icmp_gtP (C : Cx G l p s m args c own cc nL) {x y : Int32} {off : Int} (tgt : Nat) (d : decode cc pc = .ok (.if_icmp .gt off, 3)) (ht : (pc : Int) + off = (tgt : Int)) (kt : y < x → WG G p l e R s m args below meth c nL cells slots Q hs lv st tgt) (kf : ¬ y < x → WG G p l e R s m args below meth c nL cells slots Q hs lv st (pc + 3)) : WG G p l e R s m args below meth c nL cells slots Q hs lv (.int y :: .int x :: st) pc :=
  fun H locs ls a b c1 => lv_icmp_gt C.1 C.2.1 d ht (fun q => kt q H locs ls a b c1) (fun q => kf q H locs ls a b c1)
end ROWS12
set_option maxRecDepth 100000 in
set_option maxHeartbeats 4000000 in
theorem law_loop {p : Program} {l : Launch} {e : Env} {s : State} {m : MethodId} {args : Array Value} {below : List Frame} {meth : Method} {c : Code} {Q : State → Prop} {G : GG} {b L x0 m0 out outD : Nat} {xs : Nat → Int32} {Inv : Hs → Prop} (C : Cx G l p s m args c RL cL_law 9) (hX : va_X b L xs s s.heap) (hbl : b < s.heap.size) (hbA : ¬ gA G b) (hL : L ≤ 3072)
    (hz : ∀ q, gA G q → s.heap.size ≤ q)
    (hend : ∀ H ls, W p l e room_1 s m args below meth c H [] room_1.cells room_1.slots Q (F0 m 2703 ls [.int 1]))
    (hI : ∀ hs, Inv hs → ∀ v a1 a2 a3 a4 a5 : Int32, LawStep x0 m0 out outD v a1 a2 a3 a4 a5 Inv hs) :
    ∀ (n t cells slots : Nat) (hs : Hs), L < 6 * t + 6 + 6 * n → 6 * t ≤ L → cells + 310 * n ≤ room_1.cells → slots + 5000 * n ≤ room_1.slots → Inv hs → WG G p l e room_1 s m args below meth c 9 cells slots Q hs [(0, va_rf (some b)), (1, va_rf (some x0)), (2, va_rf (some m0)), (3, va_rf (some out)), (4, va_rf (some outD)), (5, .int (nI (6 * t)))] [] 28 := by
  intro n
  induction n with
  | zero =>
    intro t cells slots hs hn ht hc hsl hi
    refine q_iload C 5 dL_law_28 rfl ?_
    refine q_aload_n C 0 dL_law_30 rfl ?_
    refine q_slen C hX hbl hbA dL_law_31 ?_
    refine q_bipush C (6 : Int32) dL_law_32 (by decide) ?_
    refine q_isub C dL_law_34 ?_
    refine q_icmp_gtP C 2702 dL_law_35 (by decide) (fun _ => ?_) (fun z => absurd ?_ z)
    · exact fun H locs ls hR hS c1 => W.widen (by omega) (by omega) (va_forget (fun q hq => hz _ (hS.2.2 q hq)) (lv_iconst C.1 C.2.1 dL_law_2702 rfl (hend H ls)))
    · rw [Int32.lt_iff_toInt_lt, show (Int32.ofNat L - 6).toInt = _ from nI_sub6 hL, nI_toInt (by omega)]
      omega
  | succ n ih =>
    intro t cells slots hs hn ht hc hsl hi
    refine q_iload C 5 dL_law_28 rfl ?_
    refine q_aload_n C 0 dL_law_30 rfl ?_
    refine q_slen C hX hbl hbA dL_law_31 ?_
    refine q_bipush C (6 : Int32) dL_law_32 (by decide) ?_
    refine q_isub C dL_law_34 ?_
    refine q_icmp_gtP C 2702 dL_law_35 (by decide) (fun _ => ?_) (fun z => ?_)
    · exact fun H locs ls hR hS c1 => W.widen (by omega) (by omega) (va_forget (fun q hq => hz _ (hS.2.2 q hq)) (lv_iconst C.1 C.2.1 dL_law_2702 rfl (hend H ls)))
    · rw [Int32.lt_iff_toInt_lt, show (Int32.ofNat L - 6).toInt = _ from nI_sub6 hL, nI_toInt (by omega)] at z
      have k : ∀ a : Nat, a < 6 → vp_in (nI (6 * t) + nI a) L := fun a ha => by
        rw [nI_add]
        exact nI_in' (by omega) hL
      refine q_aload_n C 0 dL_law_38 rfl ?_
      refine q_iload C 5 dL_law_39 rfl ?_
      refine q_scr C hX hbl hbA (nI_in' (by omega) hL) dL_law_41 ?_
      refine q_bipush C (63 : Int32) dL_law_42 (by decide) ?_
      refine q_iand C dL_law_44 ?_
      refine law_disp C hX hbl hbA ⟨k 1 (by decide), k 2 (by decide), k 3 (by decide), k 4 (by decide), k 5 (by decide)⟩ ⟨by omega, by omega⟩ (hI hs hi _ _ _ _ _ _) (fun hs2 h2 => ?_)
      refine q_iincP (v := nI (6 * (t + 1))) C 5 [(5, .int (nI (6 * (t + 1)))), (0, va_rf (some b)), (1, va_rf (some x0)), (2, va_rf (some m0)), (3, va_rf (some out)), (4, va_rf (some outD))] dL_law_2696 rfl (nI_add (6 * t) 6) (by decide) rfl ?_
      refine q_goto C 28 dL_law_2699 (by decide) ?_
      refine WG.sub [1, 2, 3, 4, 5, 0] rfl ?_
      exact ih (t + 1) _ _ hs2 (by omega) (by omega) (by omega) (by omega) h2
