/-! ===== the law: the two objects made ===== -/
theorem ObsV.keep {x : Nat} {O : kO} {g g' : qG} {m m' : qM} (h : ObsV g m x O) (hk : ∀ a sh, gAt g a sh → a < g.2) (hg : ∀ a, a < g.2 → g'.1 a = g.1 a) (hs : ∀ a, a < g.2 → SameA m m' a) : ObsV g' m' x O := by
  obtain ⟨⟨c1, ⟨a0, a1, a2, a3, a4, a5, a6⟩, c2, c3, c4⟩, ⟨S0, b1, r1⟩, ⟨S1, b2, r2⟩, ⟨S2, b3⟩, ⟨T, b4, r4⟩, b5, ⟨b6, b61, b62⟩, ⟨v, cap, ⟨s1, s2, s3, s4, s5, s6, s7, s8⟩, s9, s10⟩⟩ := h
  have hx : x + 136 < g.2 := hk _ _ s1
  have e : ∀ a j, a < g.2 → qI m' a j = qI m a j ∧ qR m' a j = qR m a j := fun a j h => ⟨congrFun (hs a h).1 j, congrFun (hs a h).2.1 j⟩
  have eg : ∀ a sh, gAt g a sh → gAt g' a sh := fun a sh h => (hg a (hk _ _ h)).trans h
  have hv : v < g.2 := hk _ _ s3
  refine ⟨⟨eg _ _ c1, ⟨(e x 0 (by omega)).2.trans a0, (e x 1 (by omega)).2.trans a1, (e x 2 (by omega)).2.trans a2, (e x 3 (by omega)).2.trans a3, (e x 4 (by omega)).2.trans a4, (e x 5 (by omega)).2.trans a5, (e x 6 (by omega)).2.trans a6⟩, (e x 7 (by omega)).1.trans c2, (e x 8 (by omega)).1.trans c3, (e x 9 (by omega)).1.trans c4⟩, ⟨S0, b1.sameA (fun a z1 z2 => hg a (by omega)) (fun a z1 z2 => hs a (by omega)), r1⟩, ⟨S1, b2.sameA (fun a z1 z2 => hg a (by omega)) (fun a z1 z2 => hs a (by omega)), r2⟩, ⟨S2, b3.sameA (fun a z1 z2 => hg a (by omega)) (fun a z1 z2 => hs a (by omega))⟩, ⟨T, b4.sameA (fun a z1 z2 => hg a (by omega)) (fun a z1 z2 => hs a (by omega)), r4⟩, b5.sameA (fun a z1 z2 => hg a (by omega)) (hs _ (by omega)), ⟨b6.sameA (fun a z1 z2 => hg a (by omega)) (fun a z1 z2 => hs a (by omega)), (e _ _ (by omega)).1.trans b61, fun j => (e _ _ (by omega)).1.trans (b62 j)⟩, ⟨v, cap, ⟨eg _ _ s1, (e _ _ hx).2.trans s2, eg _ _ s3, (e _ _ hx).1.trans s4, (e _ _ hx).1.trans s5, s6, s7, ?_⟩, fun j hj => (e v j hv).1.trans (s9 j hj), s10⟩⟩
  intro j hj
  rw [(e v j hv).1]
  exact s8 j hj
theorem frp_new (g : qG) (m : qM) (sh : qSh) : FrP (fun _ => False) g m (gNew g sh) (wZ m g.2) := ⟨Nat.le_succ _, fun a ha => gNew_lt g sh ha, fun a ha _ _ => (SameA.rf m a).wZ (by omega)⟩
set_option maxRecDepth 20000 in
set_option maxHeartbeats 4000000 in
theorem s_law_start {E : qE} {X : qX} {Q : State → Prop} {g : qG} {m : qM} (hX : MC E yL_law cL_law 10 (some .boolean) 1475 603072 7182442 [] X) {b : Nat} (K : ∀ (g' : qG) (m' : qM), LI g.2 0 O0 g' m' → WS E X 150 4000 Q g' m' 25 [some (.ref b), some (.ref g.2), some (.ref (g.2 + 138)), some (.ref (g.2 + 145)), some (.ref (g.2 + 146)), none, none, none, none, none] []) : WS E X 0 0 Q g m 0 [some (.ref b), none, none, none, none, none, none, none, none, none] [] := by
  refine r_new hX dL_law_0 nl_L_8 (Nat.le_of_ble_eq_true rfl) (Nat.le_of_ble_eq_true rfl) ?_
  refine r_dup hX dL_law_3 rfl ?_
  refine r_callI hX dL_law_4 (s_X7_init E (gNew g (.inl 10)) (wZ m g.2) g.2 (gNew_at g (.inl 10)) rfl) ml_L_128 rfl rfl ⟨Nat.le_of_ble_eq_true rfl, Nat.le_of_ble_eq_true rfl⟩ ⟨Nat.le_of_ble_eq_true rfl, Nat.le_of_ble_eq_true rfl, rfl, Nat.le_of_ble_eq_true rfl⟩ (fun v4 g4 m4 hp => ?_)
  obtain ⟨hv, hO4, hz4, hg4, hs4⟩ := hp
  subst v4
  refine r_known (fun hk4 => ?_)
  refine r_astore_n hX dL_law_7 (Nat.le_of_ble_eq_true rfl) rfl ?_
  refine r_new hX dL_law_8 nl_L_129 (Nat.le_of_ble_eq_true rfl) (Nat.le_of_ble_eq_true rfl) ?_
  rw [hz4]
  refine r_dup hX dL_law_11 rfl ?_
  refine r_callI hX dL_law_12 (s_X8_init E (gNew g4 (.inl 11)) (wZ m4 (g.2 + 138)) (g.2 + 138) (by have := gNew_at g4 (.inl 11); rwa [hz4] at this) (by show g4.2 + 1 = _; rw [hz4]) (fun k => qI_wZ_s _ _ _)) ml_L_131 rfl rfl ⟨Nat.le_of_ble_eq_true rfl, Nat.le_of_ble_eq_true rfl⟩ ⟨Nat.le_of_ble_eq_true rfl, Nat.le_of_ble_eq_true rfl, rfl, Nat.le_of_ble_eq_true rfl⟩ (fun v12 g12 m12 hp => ?_)
  obtain ⟨hv, hg12, hM, hN⟩ := hp
  subst v12
  subst g12
  refine r_known (fun hk12 => ?_)
  have z12 : (gMod (gNew g4 (.inl 11))).2 = g.2 + 145 := by
    rw [gMod_sz]
    show g4.2 + 1 + 6 = _
    rw [hz4]
  refine r_astore_n hX dL_law_15 (Nat.le_of_ble_eq_true rfl) rfl ?_
  refine r_iconst (v := 1) hX dL_law_16 (by decide) ?_
  refine r_newa (t := 3) (n := 1) hX dL_law_17 ⟨List.mem_of_getElem? (i := 1891) (by decide +kernel), by decide +kernel⟩ ⟨by decide, rfl⟩ ⟨by decide, by decide, by decide⟩ (Nat.le_of_ble_eq_true rfl) (Nat.le_of_ble_eq_true rfl) ?_
  rw [z12]
  have z17 : (gNew (gMod (gNew g4 (.inl 11))) (.inr (3, 1))).2 = g.2 + 146 := by
    show (gMod (gNew g4 (.inl 11))).2 + 1 = _
    rw [z12]
  refine r_known (fun hk17 => ?_)
  refine r_astore_n hX dL_law_19 (Nat.le_of_ble_eq_true rfl) rfl ?_
  refine r_iconst (v := 1) hX dL_law_20 (by decide) ?_
  refine r_newa (t := 4) (n := 1) hX dL_law_21 ⟨List.mem_of_getElem? (i := 1892) (by decide +kernel), by decide +kernel⟩ ⟨by decide, rfl⟩ ⟨by decide, by decide, by decide⟩ (Nat.le_of_ble_eq_true rfl) (Nat.le_of_ble_eq_true rfl) ?_
  rw [z17]
  refine r_astore hX dL_law_23 (Nat.le_of_ble_eq_true rfl) rfl ?_
  refine r_widen (cN' := 150) (sN' := 4000) (Nat.le_of_ble_eq_true rfl) (Nat.le_of_ble_eq_true rfl) ?_
  refine K _ _ ⟨hO4.keep hk4 (fun a ha => ?_) (fun a ha => ?_), ?_, ?_, ?_, WfO0⟩
  · rw [gNew_lt _ _ (by rw [z17]; omega), gNew_lt _ _ (by rw [z12]; omega), gMod_old (by show a < g4.2 + 1; omega), gNew_lt _ _ ha]
  · have h9 := hN a (Or.inl (by omega))
    exact ((((SameA.rf m4 a).wZ (b := g.2 + 138) (by omega)).tr ⟨h9.1, h9.2.1, h9.2.2.1, h9.2.2.2⟩).wZ (by omega)).wZ (by omega)
  · have f1 := frp_new (gMod (gNew g4 (.inl 11))) m12 (.inr (3, 1))
    rw [z12] at f1
    have f2 := frp_new (gNew (gMod (gNew g4 (.inl 11))) (.inr (3, 1))) (wZ m12 (g.2 + 145)) (.inr (4, 1))
    rw [z17] at f2
    exact hM.frp (f1.tr f2) (fun _ _ _ q => q) hk12
  · refine gNew_old ?_ (by rw [z17]; omega)
    have := gNew_at (gMod (gNew g4 (.inl 11))) (.inr (3, 1))
    rwa [z12] at this
  · have := gNew_at (gNew (gMod (gNew g4 (.inl 11))) (.inr (3, 1))) (.inr (4, 1))
    rwa [z17] at this
