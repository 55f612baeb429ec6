/-! ===== CometObservatory: made ===== -/
theorem gNew_lt (g : qG) (sh : qSh) {a : Nat} (h : a < g.2) : (gNew g sh).1 a = g.1 a := if_neg (Nat.ne_of_lt h)
/-- one step of the making: n cells from q on are new, x gets q as its field j -/
def StpM (x q n j : Nat) (g : qG) (m : qM) (g' : qG) (m' : qM) : Prop := g.2 = q ∧ g'.2 = q + n ∧ (∀ a, a < q → g'.1 a = g.1 a) ∧ (∀ a, a < q → a ≠ x → SameA m m' a) ∧ (∀ k, qI m' x k = qI m x k) ∧ ∀ i, qR m' x i = if i = j then some q else qR m x i
theorem stp_of {x q n j : Nat} {g g' : qG} {m m2 : qM} (hx : x < q) (h1 : g.2 = q) (h2 : g'.2 = q + n) (h3 : ∀ a, a < q → g'.1 a = g.1 a) (h4 : OutN q n m m2) : StpM x q n j g m g' (wR m2 x j (some q)) := by
  refine ⟨h1, h2, h3, fun a ha hne => ?_, fun k => ?_, fun i => ?_⟩
  · have h9 := h4 a (Or.inl ha)
    exact SameA.wR ⟨h9.1, h9.2.1, h9.2.2.1, h9.2.2.2⟩ hne
  · exact congrFun (h4 x (Or.inl hx)).1 k
  · show (if x = x ∧ i = j then some q else m2.2.1 x i) = _
    by_cases e : i = j
    · rw [if_pos ⟨rfl, e⟩, if_pos e]
    · rw [if_neg (fun h => e h.2), if_neg e]
      exact congrFun (h4 x (Or.inl hx)).2.1 i
theorem TelS.sameA {g g' : qG} {m m' : qM} {t : Nat} (h : TelS g m t) (hg : ∀ a, t ≤ a → a < t + 7 → g'.1 a = g.1 a) (hs : SameA m m' t) : TelS g' m' t := by
  obtain ⟨⟨t0, t1, t2, t3, t4, t5, t6⟩, u0, u1, u2, u3, u4, u5⟩ := h
  have e : ∀ j, qR m' t j = qR m t j := fun j => congrFun hs.2.1 j
  have eg : ∀ a sh, t ≤ a → a < t + 7 → gAt g a sh → gAt g' a sh := fun a sh b1 b2 b3 => (hg a b1 b2).trans b3
  exact ⟨⟨eg _ _ (by omega) (by omega) t0, eg _ _ (by omega) (by omega) t1, eg _ _ (by omega) (by omega) t2, eg _ _ (by omega) (by omega) t3, eg _ _ (by omega) (by omega) t4, eg _ _ (by omega) (by omega) t5, eg _ _ (by omega) (by omega) t6⟩, (e 0).trans u0, (e 1).trans u1, (e 2).trans u2, (e 3).trans u3, (e 4).trans u4, (e 5).trans u5⟩
theorem HisIs.sameA {g g' : qG} {m m' : qM} {h : Nat} {T : kH} (hh : HisIs g m h T) (hg : ∀ a, h ≤ a → a < h + 82 → g'.1 a = g.1 a) (hs : ∀ a, h ≤ a → a < h + 82 → SameA m m' a) : HisIs g' m' h T := by
  obtain ⟨h1, h2, h3, h4, h5, h6, h7, h8⟩ := hh
  have e : ∀ a j, h ≤ a → a < h + 82 → qI m' a j = qI m a j ∧ qR m' a j = qR m a j := fun a j b1 b2 => ⟨congrFun (hs a b1 b2).1 j, congrFun (hs a b1 b2).2.1 j⟩
  exact ⟨(hg _ (by omega) (by omega)).trans h1, (e _ _ (by omega) (by omega)).2.trans h2, (hg _ (by omega) (by omega)).trans h3, fun i hi => ⟨(e _ _ (by omega) (by omega)).2.trans (h4 i hi).1, (h4 i hi).2.sameA (fun a z1 z2 => hg a (by omega) (by omega)) (fun a z1 z2 => hs a (by omega) (by omega))⟩, (e _ _ (by omega) (by omega)).1.trans h5, (e _ _ (by omega) (by omega)).1.trans h6, h7, h8⟩
theorem ProS.sameA {g g' : qG} {m m' : qM} {q : Nat} (h : ProS g m q) (hg : ∀ a, q ≤ a → a < q + 16 → g'.1 a = g.1 a) (hs : ∀ a, q ≤ a → a < q + 16 → SameA m m' a) : ProS g' m' q := by
  obtain ⟨⟨p0, p1, p2, p3, p4⟩, w0, w1, w2, w3⟩ := h
  have e : ∀ a j, q ≤ a → a < q + 16 → qR m' a j = qR m a j := fun a j b1 b2 => congrFun (hs a b1 b2).2.1 j
  exact ⟨⟨(hg _ (by omega) (by omega)).trans p0, (hg _ (by omega) (by omega)).trans p1, (hg _ (by omega) (by omega)).trans p2, (hg _ (by omega) (by omega)).trans p3, fun i hi => (hg _ (by omega) (by omega)).trans (p4 i hi)⟩, (e _ _ (by omega) (by omega)).trans w0, (e _ _ (by omega) (by omega)).trans w1, (e _ _ (by omega) (by omega)).trans w2, fun i hi => (e _ _ (by omega) (by omega)).trans (w3 i hi)⟩
theorem sky0_rep : RepS sky0 ([], (fun k => if k = 3 then 20 else if k = 4 then 2 else 0), fun _ => 0) := by
  refine ⟨rfl, fun k h1 h2 => ?_, fun i k hi => absurd hi (by simp), fun j hj => rfl, rfl⟩
  obtain rfl | rfl | rfl | rfl | rfl | rfl : k = 1 ∨ k = 2 ∨ k = 3 ∨ k = 4 ∨ k = 5 ∨ k = 6 := by omega
  all_goals rfl
/-- at the start -/
def V0 : kV := ([], (fun k => if k = 3 then 20 else if k = 4 then 2 else 0), fun _ => 0)
def O0 : kO := (V0, none, [], none, none, (fun _ => 0), 0, [])
theorem WfV0 : WfV 0 V0 := ⟨by decide, fun c hc => (nomatch hc), List.Pairwise.nil, by decide, by decide, by decide, by decide, by decide, by decide⟩
theorem WfO0 : WfO 0 O0 := ⟨WfV0, fun V h => (nomatch h), fun V h => (nomatch h), by decide, by decide, fun _ => (by decide : (0 : Nat) < 65536), by decide, fun c h => (nomatch h), fun n h => (nomatch h), fun n h => (nomatch h)⟩
set_option maxRecDepth 20000 in
set_option maxHeartbeats 4000000 in
theorem s_J5_init (E : qE) (g : qG) (m : qM) (b : Nat) (hb : gAt g b (.inl 1)) (hg : g.2 = b + 1) : Sp E yJ5_init_d00df cJ5_init_d00df 2 none 1 1 16 [.ref b, .int (nI 16)] g m (fun x' g' m' => x' = none ∧ g' = gNew g (.inr (2, 16)) ∧ (qI m b 3 = 0 → SbIs g' m' b []) ∧ OutN b 2 m m') := by
  refine Sp.ofF (by decide +kernel) [some (.ref b), some (.int (nI 16))] rfl rfl (Nat.le_of_ble_eq_true rfl) (fun X hX => ?_)
  refine r_aload_n hX dJ5_init_d00df_0 rfl ?_
  refine r_objInit hX dJ5_init_d00df_1 mo_J5_3 ⟨Nat.le_of_ble_eq_true rfl, rfl, Nat.le_of_ble_eq_true rfl⟩ ?_
  refine r_getsC hX dJ5_init_d00df_4 ⟨List.mem_of_getElem? (i := 245) (by decide +kernel), by decide +kernel⟩ ?_
  refine r_if_eq (tgt := 25) hX dJ5_init_d00df_7 (by decide) (fun c7 => ?_) (fun c7 => ?_)
  · exact absurd c7 (by decide)
  · refine r_aload_n hX dJ5_init_d00df_10 rfl ?_
    refine r_iload_n hX dJ5_init_d00df_11 rfl ?_
    refine r_newa (t := 2) (n := 16) hX dJ5_init_d00df_12 ⟨List.mem_of_getElem? (i := 268) (by decide +kernel), by decide +kernel⟩ ⟨by decide, rfl⟩ ⟨by decide, by decide, by decide⟩ (Nat.le_of_ble_eq_true rfl) (Nat.le_of_ble_eq_true rfl) ?_
    rw [hg]
    refine r_putR hX dJ5_init_d00df_14 (gNew_old hb (by omega)) fl_J5_15 rfl rfl ?_
    refine r_aload_n hX dJ5_init_d00df_17 rfl ?_
    refine r_iconst (v := 0) hX dJ5_init_d00df_18 (by decide) ?_
    refine r_putV hX dJ5_init_d00df_19 (gNew_old hb (by omega)) fl_J5_22 rfl rfl (puts_I (gNew_old hb (by omega))) ?_
    refine r_goto (tgt := 38) hX dJ5_init_d00df_22 (by decide) ?_
    refine r_vret hX dJ5_init_d00df_38 ⟨rfl, rfl, fun hz => ⟨b + 1, 16, ⟨gNew_old hb (by omega), ?_, ?_, qI_wI_s _ _ _ _, ?_, Nat.zero_le _, by decide, fun j hj => ?_⟩, fun j hj => absurd hj (by simp), fun c hc => (nomatch hc)⟩, ?_⟩ ⟨Nat.le_of_ble_eq_true rfl, Nat.le_of_ble_eq_true rfl⟩
    · rw [qR_wI]; exact qR_wR_s _ _ _ _
    · have := gNew_at g (.inr (2, 16)); rwa [hg] at this
    · rw [qI_wI_k _ _ _ _ (by decide), qI_wR, qI_wZ_a _ _ (by omega), hz]; rfl
    · rw [qI_wI_a _ _ _ _ (by omega), qI_wR, qI_wZ_s]; decide
    · exact (((OutN.rf b 2 m).wZ (by omega)).wR (by omega)).wI (by omega)
set_option maxRecDepth 20000 in
set_option maxHeartbeats 4000000 in
theorem s_J4_init (E : qE) (g : qG) (m : qM) (b : Nat) (hb : gAt g b (.inl 1)) (hg : g.2 = b + 1) (hz : qI m b 3 = 0) : Sp E yJ4_init_da8c8 cJ4_init_da8c8 1 none 2 1 16 [.ref b] g m (fun x' g' m' => x' = none ∧ g' = gNew g (.inr (2, 16)) ∧ SbIs g' m' b [] ∧ OutN b 2 m m') := by
  refine Sp.ofF (by decide +kernel) [some (.ref b)] rfl rfl (Nat.le_of_ble_eq_true rfl) (fun X hX => ?_)
  refine r_aload_n hX dJ4_init_da8c8_0 rfl ?_
  refine r_bipush (v := 16) hX dJ4_init_da8c8_1 (by decide) ?_
  refine r_callI hX dJ4_init_da8c8_3 (s_J5_init E g m b hb hg) ml_J4_1 rfl rfl ⟨Nat.le_of_ble_eq_true rfl, Nat.le_of_ble_eq_true rfl⟩ ⟨Nat.le_of_ble_eq_true rfl, Nat.le_of_ble_eq_true rfl, rfl, Nat.le_of_ble_eq_true rfl⟩ (fun v3 g3 m3 hp => ?_)
  obtain ⟨hv, hg2, hB, hN⟩ := hp
  subst v3
  exact r_vret hX dJ4_init_da8c8_6 ⟨rfl, hg2, hB hz, hN⟩ ⟨Nat.le_of_ble_eq_true rfl, Nat.le_of_ble_eq_true rfl⟩
set_option maxRecDepth 20000 in
set_option maxHeartbeats 4000000 in
theorem s_X7_init (E : qE) (g : qG) (m : qM) (x : Nat) (hx0 : gAt g x (.inl 10)) (hg0 : g.2 = x + 1) : Sp E yX7_init cX7_init 1 none 4 137 1500 [.ref x] g m (fun v g' m' => v = none ∧ ObsV g' m' x O0 ∧ g'.2 = x + 138 ∧ (∀ a, a < x + 1 → g'.1 a = g.1 a) ∧ (∀ a, a < x → SameA m m' a)) := by
  refine Sp.of (by decide) [some (.ref x)] rfl rfl (Nat.le_of_ble_eq_true rfl) (fun X hX => ?_)
  refine r_aload_n hX dX7_init_0 rfl ?_
  refine r_objInit hX dX7_init_1 mo_X7_1 ⟨Nat.le_of_ble_eq_true rfl, rfl, Nat.le_of_ble_eq_true rfl⟩ ?_
  refine r_aload_n hX dX7_init_4 rfl ?_
  refine r_new hX dX7_init_5 nl_X7_7 (Nat.le_of_ble_eq_true rfl) (Nat.le_of_ble_eq_true rfl) ?_
  rw [hg0]
  refine r_dup hX dX7_init_8 rfl ?_
  refine r_callI hX dX7_init_9 (s_X5_init E (gNew g (.inl 8)) (wZ m (x + 1)) (x + 1) (by have h9 := gNew_at g (.inl 8); rwa [hg0] at h9) (show g.2 + 1 = x + 1 + 1 by rw [hg0]) (fun k => qI_wZ_s m (x + 1) k)) ml_X7_9 rfl rfl ⟨Nat.le_of_ble_eq_true rfl, Nat.le_of_ble_eq_true rfl⟩ ⟨Nat.le_of_ble_eq_true rfl, Nat.le_of_ble_eq_true rfl, rfl, Nat.le_of_ble_eq_true rfl⟩ (fun v9 g9 m9 hp => ?_)
  obtain ⟨hv, hgg, hK0, hN0⟩ := hp
  subst v9
  have hz0 : g9.2 = x + 1 + 10 := by rw [hgg]; exact gSky_sz (show g.2 + 1 = x + 1 + 1 by rw [hg0])
  have ho0 : ∀ a, a < x + 1 → g9.1 a = g.1 a := fun a ha => by rw [hgg]; exact (gSky_old (by show a < g.2 + 1; omega)).trans (gNew_lt g (.inl 8) (by omega))
  have hSt0 : StpM x (x + 1) 10 0 g m g9 (wR m9 x 0 (some (x + 1))) := stp_of (by omega) hg0 hz0 ho0 (((OutN.rf _ _ _).wZ (by omega)).tr hN0)
  have hx1 : gAt g9 x (.inl 10) := (ho0 x (by omega)).trans hx0
  have hg1 : g9.2 = x + 1 + 10 := hz0
  refine r_putFR hX dX7_init_12 hx1 ff_X7_10 rfl rfl rfl ?_
  obtain ⟨M0, hM0⟩ : ∃ M, M = wR m9 x 0 (some (x + 1)) := ⟨_, rfl⟩
  rw [← hM0] at hSt0 ⊢
  refine r_aload_n hX dX7_init_15 rfl ?_
  refine r_new hX dX7_init_16 nl_X7_7 (Nat.le_of_ble_eq_true rfl) (Nat.le_of_ble_eq_true rfl) ?_
  rw [hg1]
  refine r_dup hX dX7_init_19 rfl ?_
  refine r_callI hX dX7_init_20 (s_X5_init E (gNew g9 (.inl 8)) (wZ M0 (x + 11)) (x + 11) (by have h9 := gNew_at g9 (.inl 8); rwa [hg1] at h9) (show g9.2 + 1 = x + 11 + 1 by rw [hg1]) (fun k => qI_wZ_s M0 (x + 11) k)) ml_X7_9 rfl rfl ⟨Nat.le_of_ble_eq_true rfl, Nat.le_of_ble_eq_true rfl⟩ ⟨Nat.le_of_ble_eq_true rfl, Nat.le_of_ble_eq_true rfl, rfl, Nat.le_of_ble_eq_true rfl⟩ (fun v20 g20 m20 hp => ?_)
  obtain ⟨hv, hgg, hK1, hN1⟩ := hp
  subst v20
  have hz1 : g20.2 = x + 11 + 10 := by rw [hgg]; exact gSky_sz (show g9.2 + 1 = x + 11 + 1 by rw [hg1])
  have ho1 : ∀ a, a < x + 11 → g20.1 a = g9.1 a := fun a ha => by rw [hgg]; exact (gSky_old (by show a < g9.2 + 1; omega)).trans (gNew_lt g9 (.inl 8) (by omega))
  have hSt1 : StpM x (x + 11) 10 1 g9 M0 g20 (wR m20 x 1 (some (x + 11))) := stp_of (by omega) hg1 hz1 ho1 (((OutN.rf _ _ _).wZ (by omega)).tr hN1)
  have hx2 : gAt g20 x (.inl 10) := (ho1 x (by omega)).trans hx1
  have hg2 : g20.2 = x + 11 + 10 := hz1
  refine r_putFR hX dX7_init_23 hx2 ff_X7_16 rfl rfl rfl ?_
  obtain ⟨M1, hM1⟩ : ∃ M, M = wR m20 x 1 (some (x + 11)) := ⟨_, rfl⟩
  rw [← hM1] at hSt1 ⊢
  refine r_aload_n hX dX7_init_26 rfl ?_
  refine r_new hX dX7_init_27 nl_X7_7 (Nat.le_of_ble_eq_true rfl) (Nat.le_of_ble_eq_true rfl) ?_
  rw [hg2]
  refine r_dup hX dX7_init_30 rfl ?_
  refine r_callI hX dX7_init_31 (s_X5_init E (gNew g20 (.inl 8)) (wZ M1 (x + 21)) (x + 21) (by have h9 := gNew_at g20 (.inl 8); rwa [hg2] at h9) (show g20.2 + 1 = x + 21 + 1 by rw [hg2]) (fun k => qI_wZ_s M1 (x + 21) k)) ml_X7_9 rfl rfl ⟨Nat.le_of_ble_eq_true rfl, Nat.le_of_ble_eq_true rfl⟩ ⟨Nat.le_of_ble_eq_true rfl, Nat.le_of_ble_eq_true rfl, rfl, Nat.le_of_ble_eq_true rfl⟩ (fun v31 g31 m31 hp => ?_)
  obtain ⟨hv, hgg, hK2, hN2⟩ := hp
  subst v31
  have hz2 : g31.2 = x + 21 + 10 := by rw [hgg]; exact gSky_sz (show g20.2 + 1 = x + 21 + 1 by rw [hg2])
  have ho2 : ∀ a, a < x + 21 → g31.1 a = g20.1 a := fun a ha => by rw [hgg]; exact (gSky_old (by show a < g20.2 + 1; omega)).trans (gNew_lt g20 (.inl 8) (by omega))
  have hSt2 : StpM x (x + 21) 10 2 g20 M1 g31 (wR m31 x 2 (some (x + 21))) := stp_of (by omega) hg2 hz2 ho2 (((OutN.rf _ _ _).wZ (by omega)).tr hN2)
  have hx3 : gAt g31 x (.inl 10) := (ho2 x (by omega)).trans hx2
  have hg3 : g31.2 = x + 21 + 10 := hz2
  refine r_putFR hX dX7_init_34 hx3 ff_X7_19 rfl rfl rfl ?_
  obtain ⟨M2, hM2⟩ : ∃ M, M = wR m31 x 2 (some (x + 21)) := ⟨_, rfl⟩
  rw [← hM2] at hSt2 ⊢
  refine r_aload_n hX dX7_init_37 rfl ?_
  refine r_new hX dX7_init_38 nl_X7_22 (Nat.le_of_ble_eq_true rfl) (Nat.le_of_ble_eq_true rfl) ?_
  rw [hg3]
  refine r_dup hX dX7_init_41 rfl ?_
  refine r_callI hX dX7_init_42 (s_X1_init E (gNew g31 (.inl 5)) (wZ M2 (x + 31)) (x + 31) (by have h9 := gNew_at g31 (.inl 5); rwa [hg3] at h9) (show g31.2 + 1 = x + 31 + 1 by rw [hg3]) (fun k => qI_wZ_s M2 (x + 31) k)) ml_X7_24 rfl rfl ⟨Nat.le_of_ble_eq_true rfl, Nat.le_of_ble_eq_true rfl⟩ ⟨Nat.le_of_ble_eq_true rfl, Nat.le_of_ble_eq_true rfl, rfl, Nat.le_of_ble_eq_true rfl⟩ (fun v42 g42 m42 hp => ?_)
  obtain ⟨hv, hz3, hgg, hK3, hN3⟩ := hp
  subst v42
  have ho3 : ∀ a, a < x + 31 → g42.1 a = g31.1 a := fun a ha => (hgg a (by omega)).trans (gNew_lt g31 (.inl 5) (by omega))
  have hSt3 : StpM x (x + 31) 82 3 g31 M2 g42 (wR m42 x 3 (some (x + 31))) := stp_of (by omega) hg3 hz3 ho3 (((OutN.rf _ _ _).wZ (by omega)).tr hN3)
  have hx4 : gAt g42 x (.inl 10) := (ho3 x (by omega)).trans hx3
  have hg4 : g42.2 = x + 31 + 82 := hz3
  refine r_putFR hX dX7_init_45 hx4 ff_X7_25 rfl rfl rfl ?_
  obtain ⟨M3, hM3⟩ : ∃ M, M = wR m42 x 3 (some (x + 31)) := ⟨_, rfl⟩
  rw [← hM3] at hSt3 ⊢
  refine r_aload_n hX dX7_init_48 rfl ?_
  refine r_new hX dX7_init_49 nl_X7_29 (Nat.le_of_ble_eq_true rfl) (Nat.le_of_ble_eq_true rfl) ?_
  rw [hg4]
  refine r_dup hX dX7_init_52 rfl ?_
  refine r_callI hX dX7_init_53 (s_X6_init E (gNew g42 (.inl 9)) (wZ M3 (x + 113)) (x + 113) (by have h9 := gNew_at g42 (.inl 9); rwa [hg4] at h9) (show g42.2 + 1 = x + 113 + 1 by rw [hg4])) ml_X7_31 rfl rfl ⟨Nat.le_of_ble_eq_true rfl, Nat.le_of_ble_eq_true rfl⟩ ⟨Nat.le_of_ble_eq_true rfl, Nat.le_of_ble_eq_true rfl, rfl, Nat.le_of_ble_eq_true rfl⟩ (fun v53 g53 m53 hp => ?_)
  obtain ⟨hv, hgg, hK4, hN4, -⟩ := hp
  subst v53
  have hz4 : g53.2 = x + 113 + 7 := by rw [hgg, gTel_sz]; show g42.2 + 1 + 6 = _; omega
  have ho4 : ∀ a, a < x + 113 → g53.1 a = g42.1 a := fun a ha => by rw [hgg]; exact (gTel_old (by show a < g42.2 + 1; omega)).trans (gNew_lt g42 (.inl 9) (by omega))
  have hSt4 : StpM x (x + 113) 7 4 g42 M3 g53 (wR m53 x 4 (some (x + 113))) := stp_of (by omega) hg4 hz4 ho4 (((OutN.rf _ _ _).wZ (by omega)).tr hN4)
  have hx5 : gAt g53 x (.inl 10) := (ho4 x (by omega)).trans hx4
  have hg5 : g53.2 = x + 113 + 7 := hz4
  refine r_putFR hX dX7_init_56 hx5 ff_X7_32 rfl rfl rfl ?_
  obtain ⟨M4, hM4⟩ : ∃ M, M = wR m53 x 4 (some (x + 113)) := ⟨_, rfl⟩
  rw [← hM4] at hSt4 ⊢
  refine r_aload_n hX dX7_init_59 rfl ?_
  refine r_new hX dX7_init_60 nl_X7_36 (Nat.le_of_ble_eq_true rfl) (Nat.le_of_ble_eq_true rfl) ?_
  rw [hg5]
  refine r_dup hX dX7_init_63 rfl ?_
  refine r_callI hX dX7_init_64 (s_X3_init E (gNew g53 (.inl 6)) (wZ M4 (x + 120)) (x + 120) (by have h9 := gNew_at g53 (.inl 6); rwa [hg5] at h9) (show g53.2 + 1 = x + 120 + 1 by rw [hg5])) ml_X7_38 rfl rfl ⟨Nat.le_of_ble_eq_true rfl, Nat.le_of_ble_eq_true rfl⟩ ⟨Nat.le_of_ble_eq_true rfl, Nat.le_of_ble_eq_true rfl, rfl, Nat.le_of_ble_eq_true rfl⟩ (fun v64 g64 m64 hp => ?_)
  obtain ⟨hv, hgg, hK5, hN5, hpz, hpt⟩ := hp
  subst v64
  have hz5 : g64.2 = x + 120 + 16 := by rw [hgg, gPro_sz]; show g53.2 + 1 + 15 = _; omega
  have ho5 : ∀ a, a < x + 120 → g64.1 a = g53.1 a := fun a ha => by rw [hgg]; exact (gPro_old (by show a < g53.2 + 1; omega)).trans (gNew_lt g53 (.inl 6) (by omega))
  have hpl : qI m64 (x + 120) 3 = 0 := (hpz 3).trans (qI_wZ_s _ _ _)
  have hSt5 : StpM x (x + 120) 16 5 g53 M4 g64 (wR m64 x 5 (some (x + 120))) := stp_of (by omega) hg5 hz5 ho5 (((OutN.rf _ _ _).wZ (by omega)).tr hN5)
  have hx6 : gAt g64 x (.inl 10) := (ho5 x (by omega)).trans hx5
  have hg6 : g64.2 = x + 120 + 16 := hz5
  refine r_putFR hX dX7_init_67 hx6 ff_X7_39 rfl rfl rfl ?_
  obtain ⟨M5, hM5⟩ : ∃ M, M = wR m64 x 5 (some (x + 120)) := ⟨_, rfl⟩
  rw [← hM5] at hSt5 ⊢
  refine r_aload_n hX dX7_init_70 rfl ?_
  refine r_new hX dX7_init_71 nl_X7_43 (Nat.le_of_ble_eq_true rfl) (Nat.le_of_ble_eq_true rfl) ?_
  rw [hg6]
  refine r_dup hX dX7_init_74 rfl ?_
  refine r_callI hX dX7_init_75 (s_J4_init E (gNew g64 (.inl 1)) (wZ M5 (x + 136)) (x + 136) (by have h9 := gNew_at g64 (.inl 1); rwa [hg6] at h9) (show g64.2 + 1 = x + 136 + 1 by rw [hg6]) (qI_wZ_s M5 (x + 136) 3)) ml_X7_45 rfl rfl ⟨Nat.le_of_ble_eq_true rfl, Nat.le_of_ble_eq_true rfl⟩ ⟨Nat.le_of_ble_eq_true rfl, Nat.le_of_ble_eq_true rfl, rfl, Nat.le_of_ble_eq_true rfl⟩ (fun v75 g75 m75 hp => ?_)
  obtain ⟨hv, hgg, hK6, hN6⟩ := hp
  subst v75
  have hz6 : g75.2 = x + 136 + 2 := by rw [hgg]; show g64.2 + 1 + 1 = _; omega
  have ho6 : ∀ a, a < x + 136 → g75.1 a = g64.1 a := fun a ha => by rw [hgg]; exact (if_neg (by show ¬ a = g64.2 + 1; omega)).trans (gNew_lt g64 (.inl 1) (by omega))
  have hSt6 : StpM x (x + 136) 2 6 g64 M5 g75 (wR m75 x 6 (some (x + 136))) := stp_of (by omega) hg6 hz6 ho6 (((OutN.rf _ _ _).wZ (by omega)).tr hN6)
  have hx7 : gAt g75 x (.inl 10) := (ho6 x (by omega)).trans hx6
  have hg7 : g75.2 = x + 136 + 2 := hz6
  refine r_putFR hX dX7_init_78 hx7 ff_X7_46 rfl rfl rfl ?_
  obtain ⟨M6, hM6⟩ : ∃ M, M = wR m75 x 6 (some (x + 136)) := ⟨_, rfl⟩
  rw [← hM6] at hSt6 ⊢
  have hB6 : SbIs g75 M6 (x + 136) [] := by
    subst hM6
    exact hK6.outP (P := fun a => a = x) ⟨fun a k ha => ⟨rfl, qR_wR_a _ _ _ _ ha⟩, rfl⟩ (by omega) (fun a k hP => by rw [hP, show g75.1 x = some (.inl 10) from hx7]; simp)
  refine r_aload_n hX dX7_init_81 rfl ?_
  refine r_iconst (v := 0) hX dX7_init_82 (by decide) ?_
  refine r_putV hX dX7_init_83 hx7 fl_X7_50 rfl rfl (puts_I hx7) ?_
  refine r_aload_n hX dX7_init_86 rfl ?_
  refine r_iconst (v := (-1)) hX dX7_init_87 (by decide) ?_
  refine r_putI hX dX7_init_88 hx7 fl_X7_54 ?_
  refine r_aload_n hX dX7_init_91 rfl ?_
  refine r_iconst (v := (-1)) hX dX7_init_92 (by decide) ?_
  refine r_putI hX dX7_init_93 hx7 fl_X7_58 ?_
  obtain ⟨-, -, g1, s1, i1, r1⟩ := hSt0
  obtain ⟨-, -, g2, s2, i2, r2⟩ := hSt1
  obtain ⟨-, -, g3, s3, i3, r3⟩ := hSt2
  obtain ⟨-, -, g4, s4, i4, r4⟩ := hSt3
  obtain ⟨-, -, g5, s5, i5, r5⟩ := hSt4
  obtain ⟨-, -, g6, s6, i6, r6⟩ := hSt5
  obtain ⟨-, -, g7, s7, i7, r7⟩ := hSt6
  have q1 : ∀ a, a < x + 136 → a ≠ x → SameA M5 M6 a := fun a h1 h2 => s7 a h1 h2
  have q2 : ∀ a, a < x + 120 → a ≠ x → SameA M4 M6 a := fun a h1 h2 => (s6 a h1 h2).tr (q1 a (by omega) h2)
  have q3 : ∀ a, a < x + 113 → a ≠ x → SameA M3 M6 a := fun a h1 h2 => (s5 a h1 h2).tr (q2 a (by omega) h2)
  have q4 : ∀ a, a < x + 31 → a ≠ x → SameA M2 M6 a := fun a h1 h2 => (s4 a h1 h2).tr (q3 a (by omega) h2)
  have q5 : ∀ a, a < x + 21 → a ≠ x → SameA M1 M6 a := fun a h1 h2 => (s3 a h1 h2).tr (q4 a (by omega) h2)
  have q6 : ∀ a, a < x + 11 → a ≠ x → SameA M0 M6 a := fun a h1 h2 => (s2 a h1 h2).tr (q5 a (by omega) h2)
  have p1 : ∀ a, a < x + 136 → g75.1 a = g64.1 a := g7
  have p2 : ∀ a, a < x + 120 → g75.1 a = g53.1 a := fun a h => (p1 a (by omega)).trans (g6 a h)
  have p3 : ∀ a, a < x + 113 → g75.1 a = g42.1 a := fun a h => (p2 a (by omega)).trans (g5 a h)
  have p4 : ∀ a, a < x + 31 → g75.1 a = g31.1 a := fun a h => (p3 a (by omega)).trans (g4 a h)
  have p5 : ∀ a, a < x + 21 → g75.1 a = g20.1 a := fun a h => (p4 a (by omega)).trans (g3 a h)
  have p6 : ∀ a, a < x + 11 → g75.1 a = g9.1 a := fun a h => (p5 a (by omega)).trans (g2 a h)
  have wS : ∀ {mm : qM} {jj : Nat} {v : Option Nat} (a : Nat), a ≠ x → SameA mm (wR mm x jj v) a := fun {mm} {jj} {v} a h => (SameA.rf mm a).wR h
  subst hM0 hM1 hM2 hM3 hM4 hM5
  have ho : OutP (fun a => a = x) M6 (wI (wI (wI M6 x 7 0) x 8 (-1)) x 9 (-1)) := ((outP_wI (P := fun a => a = x) rfl).wI rfl).wI rfl
  have hfin0 : SkyIs g75 M6 (x + 1) sky0 := hK0.sameA (fun a h1 h2 => p6 a (by omega)) (fun a h1 h2 => (wS a (by omega)).tr (q6 a (by omega) (by omega)))
  have hfin1 : SkyIs g75 M6 (x + 11) sky0 := hK1.sameA (fun a h1 h2 => p5 a (by omega)) (fun a h1 h2 => (wS a (by omega)).tr (q5 a (by omega) (by omega)))
  have hfin2 : SkyIs g75 M6 (x + 21) sky0 := hK2.sameA (fun a h1 h2 => p4 a (by omega)) (fun a h1 h2 => (wS a (by omega)).tr (q4 a (by omega) (by omega)))
  have hfin3 : HisIs g75 M6 (x + 31) (fun _ => sky0, 0, 0) := hK3.sameA (fun a h1 h2 => p3 a (by omega)) (fun a h1 h2 => (wS a (by omega)).tr (q3 a (by omega) (by omega)))
  have hfin4 : TelS g75 M6 (x + 113) := hK4.sameA (fun a h1 h2 => p2 a (by omega)) ((wS _ (by omega)).tr (q2 _ (by omega) (by omega)))
  have hfin5 : ProS g75 M6 (x + 120) := hK5.sameA (fun a h1 h2 => p1 a (by omega)) (fun a h1 h2 => (wS a (by omega)).tr (q1 a (by omega) (by omega)))
  have h3 : qI M6 (x + 120) 3 = 0 := (congrFun (q1 (x + 120) (by omega) (by omega)).1 3).trans hpl
  have ht : ∀ j, qI M6 (x + 121) j = 0 := fun j => (congrFun (q1 (x + 121) (by omega) (by omega)).1 j).trans (hpt j)
  have rr : ∀ i, qR M6 x i = if i = 6 then some (x + 136) else if i = 5 then some (x + 120) else if i = 4 then some (x + 113) else if i = 3 then some (x + 31) else if i = 2 then some (x + 21) else if i = 1 then some (x + 11) else if i = 0 then some (x + 1) else qR m x i := fun i => by
    rw [r7 i, r6 i, r5 i, r4 i, r3 i, r2 i, r1 i]
  have hn := fun (a k : Nat) (hP : a = x) => (show g75.1 a ≠ some (.inr (2, k)) by rw [hP, show g75.1 x = some (.inl 10) from hx7]; simp)
  refine r_vret hX dX7_init_96 ⟨rfl, ?_, hz6, fun a h1 => ?_, fun a h1 => ?_⟩ ⟨Nat.le_of_ble_eq_true rfl, Nat.le_of_ble_eq_true rfl⟩
  · refine ⟨⟨hx7, ⟨rr 0, rr 1, rr 2, rr 3, rr 4, rr 5, rr 6⟩, ?_, ?_, qI_wI_s _ _ _ _⟩, ⟨_, hfin0.outP ho (by omega), sky0_rep⟩, ⟨_, hfin1.outP ho (by omega), fun V h => (nomatch h)⟩, ⟨_, hfin2.outP ho (by omega)⟩, ⟨_, hfin3.outP ho (by omega), RepH.nil (fun _ => sky0, 0, 0)⟩, hfin4.out ho (by omega), ⟨hfin5.out ho (by omega) (by omega), ?_, fun j => ?_⟩, hB6.outP ho (by omega) hn⟩
    · rw [qI_wI_k _ _ _ _ (by decide), qI_wI_k _ _ _ _ (by decide), qI_wI_s]; rfl
    · rw [qI_wI_k _ _ _ _ (by decide), qI_wI_s]; rfl
    · rw [(ho.1 _ _ (by omega)).1]; exact h3
    · rw [(ho.1 _ _ (by omega)).1]; exact ht j
  · exact ((p6 a (by omega)).trans (g1 a (by omega)))
  · exact (((s1 a (by omega) (by omega)).tr (q6 a (by omega) (by omega))).tr (SameA.of ho (by omega)))
