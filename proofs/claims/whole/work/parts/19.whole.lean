/-- what is left: the meanings alone, no machine -/
def PureGoal : Prop := ∀ e0 z : Nat, e0 < z → ∃ (x0 m0 out outD : Nat) (hs1 : Hs) (Inv : Hs → Prop), f_start ((fun q => if q = e0 then some ce0 else none), z, e0) = some (.ok (x0, m0, out, outD), hs1) ∧ Inv hs1 ∧ ∀ hs, Inv hs → ∀ v a1 a2 a3 a4 a5 : Int32, LawStep x0 m0 out outD v a1 a2 a3 a4 a5 Inv hs
set_option maxRecDepth 100000 in
theorem whole_of (pure : PureGoal) {p : Program} {e : Env} {s : State} {m : MethodId} {below : List Frame} {meth : Method} {c : Code} (l : Launch) (hflags : l.flags = flags0) {b L : Nat} {xs : Nat → Int32} (hL : L ≤ 3072) (C0 : lw_At p s m meth c b L xs) : W p l e room_1 s m #[Value.ref b] below meth c s.heap [] 0 0 (lw_Z below #[Value.ref b] s) (entryFrame m ([Value.ref b] : List Value).toArray 9) := by
  obtain ⟨G, hz, he, hK, hR⟩ := kn_start l hflags C0
  obtain ⟨x0, m0, out, outD, hs1, Inv, hf, hi0, hI⟩ := pure G.2.2.2.1 s.heap.size he
  obtain ⟨hx, hc, hr, hml, hown, hts, hX, hbl, hlk, hgv⟩ := C0
  have hT : ∀ w ∈ Tg, w.before #[Value.ref b] s = true := fun w hw => hts w ((List.mem_filter.mp hw).1)
  have hgA : ∀ q, gA G q ↔ s.heap.size ≤ q := fun q => by show G.2.2.1 ≤ q ↔ _; rw [hz]
  have C : Cx G l p s m #[Value.ref b] c RL cL_law 9 := ⟨hx, hc, hml, hown, hT, hK, fun q hq => (hgA q).mpr hq⟩
  have hbA : ¬ gA G b := fun h => absurd ((hgA b).mp h) (Nat.not_le.mpr hbl)
  have hend : ∀ H ls, W p l e room_1 s m #[Value.ref b] below meth c H [] room_1.cells room_1.slots (lw_Z below #[Value.ref b] s) (F0 m 2703 ls [.int 1]) := fun H ls => lw_ret (Drawn.sameBut.refl s.drawn lw_cs) hx hc hr hlk dL_law_2703
  have key : WG G p l e room_1 s m #[Value.ref b] below meth c 9 0 0 (lw_Z below #[Value.ref b] s) ((fun q => if q = G.2.2.2.1 then some ce0 else none), s.heap.size, G.2.2.2.1) [(0, va_rf (some b))] [] 0 := law_start C hf (law_loop C hX hbl hbA hL (fun q h => (hgA q).mp h) hend hI 513 0 100 2000 hs1 (by omega) (by omega) (show 100 + 310 * 513 ≤ room_1.cells by decide) (show 2000 + 5000 * 513 ≤ room_1.slots by decide) hi0)
  rw [lg_entry_eq]
  exact key _ _ _ hR va_S.rf ⟨lv_entry _ (n := 9) (Nat.le_of_ble_eq_true rfl), (c1_r c1_n)⟩
