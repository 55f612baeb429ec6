/-! ===== CometObservatory: commands carried out ===== -/
def cCmd (V : kV) (k : Nat) (a b c : Int32) : kA := if k = 0 then cAdd V a b c else if k = 1 then cDrop V a else if k = 2 then cTurn V a b else if k = 3 then cShine V a b else if k = 4 then cDay V a else if k = 5 then cVac V a b else cRate V a
theorem cAdd_wf {u : Nat} {V : kV} (h : WfV u V) (p d b : Int32) : WfV (u + 1) (cAdd V p d b).2.2 := by
  unfold cAdd
  by_cases h1 : rng p 2 60 ∧ rng d 1 60 ∧ rng b 1 20
  · rw [if_neg (not_not_intro h1)]
    by_cases h2 : V.1.length = 6
    · rw [if_pos h2]; exact h.mono (by omega)
    · rw [if_neg h2]
      obtain ⟨p9, a1, a2, rfl, hp9⟩ := rng_to h1.1 (by decide) (by decide)
      obtain ⟨d9, a3, a4, rfl, hd9⟩ := rng_to h1.2.1 (by decide) (by decide)
      obtain ⟨b9, a5, a6, rfl, hb9⟩ := rng_to h1.2.2 (by decide) (by decide)
      have hl := h.1
      have h9 : WfW (u + 1) (60 * u) (20 + 7500 * u) (360 * u) (addV V p9 d9 b9) := WfW.add h ⟨a1, a2⟩ ⟨a3, a4⟩ ⟨a5, a6⟩ (by omega)
      show WfV (u + 1) (addV V _ _ _)
      rw [hp9, hd9, hb9]
      exact h9.mono (Nat.le_refl _) (by omega) (by omega) (by omega)
  · rw [if_pos h1]; exact h.mono (by omega)
theorem cDrop_wf {u : Nat} {V : kV} (h : WfV u V) (c : Int32) : WfV (u + 1) (cDrop V c).2.2 := by
  rcases hp : plV V.1 c with _ | i
  · rw [cDrop_n hp]; exact h.mono (by omega)
  · rw [cDrop_s hp]
    exact (WfW.drop h (plV_lt hp).1).mono (by omega) (by omega) (by omega) (by omega)
theorem cTurn_wf {u : Nat} {V : kV} (h : WfV u V) (c p : Int32) : WfV (u + 1) (cTurn V c p).2.2 := by
  rcases hp : plV V.1 c with _ | i
  · rw [cTurn_n hp]; exact h.mono (by omega)
  · rw [cTurn_s hp]
    by_cases h1 : rng p 2 60
    · rw [if_neg (not_not_intro h1)]
      obtain ⟨p9, a1, a2, rfl, hp9⟩ := rng_to h1 (by decide) (by decide)
      show WfV (u + 1) (turnV V i _)
      rw [hp9]
      exact (WfW.turn h (plV_lt hp).1 ⟨a1, a2⟩).mono (by omega) (by omega) (by omega) (by omega)
    · rw [if_pos h1]; exact h.mono (by omega)
theorem cShine_wf {u : Nat} {V : kV} (h : WfV u V) (c a : Int32) : WfV (u + 1) (cShine V c a).2.2 := by
  rcases hp : plV V.1 c with _ | i
  · rw [cShine_n hp]; exact h.mono (by omega)
  · rw [cShine_s hp]
    by_cases h1 : rng a 1 19
    · rw [if_neg (not_not_intro h1)]
      by_cases h2 : 20 < cAt V.1 i 2 + a.toNatClampNeg
      · rw [if_pos h2]; exact h.mono (by omega)
      · rw [if_neg h2]
        by_cases h3 : V.2.1 3 < 3 * a.toNatClampNeg
        · rw [if_pos h3]; exact h.mono (by omega)
        · rw [if_neg h3]
          exact (WfW.shine h (plV_lt hp).1 (by omega)).mono (by omega) (by omega) (by omega) (by omega)
    · rw [if_pos h1]; exact h.mono (by omega)
theorem cDay_wf {u : Nat} {V : kV} (h : WfV u V) (d : Int32) : WfV (u + 1) (cDay V d).2.2 := by
  unfold cDay
  by_cases h1 : rng d 1 60
  · rw [if_neg (not_not_intro h1)]
    obtain ⟨d9, a1, a2, rfl, hd9⟩ := rng_to h1 (by decide) (by decide)
    show WfV (u + 1) (daysV _ V)
    rw [hd9]
    exact (WfW.days d9 h).mono (by omega) (by omega) (by omega) (by omega)
  · rw [if_pos h1]; exact h.mono (by omega)
theorem cVac_wf {u : Nat} {V : kV} (h : WfV u V) (a n : Int32) : WfV (u + 1) (cVac V a n).2.2 := by
  unfold cVac
  by_cases h1 : rng a 0 11
  · rw [if_neg (not_not_intro h1)]
    by_cases h2 : rng n 1 12
    · rw [if_neg (not_not_intro h2)]
      obtain ⟨n9, a1, a2, rfl, hn9⟩ := rng_to h2 (by decide) (by decide)
      rw [hn9]
      split
      · exact h.mono (by omega)
      · exact (WfW.vac h a2).mono (by omega) (by omega) (by omega) (by omega)
    · rw [if_pos h2]; exact h.mono (by omega)
  · rw [if_pos h1]; exact h.mono (by omega)
theorem cRate_wf {u : Nat} {V : kV} (h : WfV u V) (r : Int32) : WfV (u + 1) (cRate V r).2.2 := by
  unfold cRate
  by_cases h1 : rng r 0 9
  · rw [if_neg (not_not_intro h1)]
    obtain ⟨r9, a1, a2, rfl, hr9⟩ := rng_to h1 (by decide) (by decide)
    show WfV (u + 1) (rateV V _)
    rw [hr9]
    exact (WfW.rate h a2).mono (by omega) (by omega) (by omega) (by omega)
  · rw [if_pos h1]; exact h.mono (by omega)
theorem cCmd_wf {u : Nat} {V : kV} (h : WfV u V) (k : Nat) (a b c : Int32) : WfV (u + 1) (cCmd V k a b c).2.2 := by
  unfold cCmd
  split
  · exact cAdd_wf h a b c
  · split
    · exact cDrop_wf h a
    · split
      · exact cTurn_wf h a b
      · split
        · exact cShine_wf h a b
        · split
          · exact cDay_wf h a
          · split
            · exact cVac_wf h a b
            · exact cRate_wf h a
theorem cCmd0 (V : kV) (a b c : Int32) : cCmd V 0 a b c = cAdd V a b c := by unfold cCmd; simp
theorem cCmd1 (V : kV) (a b c : Int32) : cCmd V 1 a b c = cDrop V a := by unfold cCmd; simp
theorem cCmd2 (V : kV) (a b c : Int32) : cCmd V 2 a b c = cTurn V a b := by unfold cCmd; simp
theorem cCmd3 (V : kV) (a b c : Int32) : cCmd V 3 a b c = cShine V a b := by unfold cCmd; simp
theorem cCmd4 (V : kV) (a b c : Int32) : cCmd V 4 a b c = cDay V a := by unfold cCmd; simp
theorem cCmd5 (V : kV) (a b c : Int32) : cCmd V 5 a b c = cVac V a b := by unfold cCmd; simp
theorem cCmd6 (V : kV) (a b c : Int32) : cCmd V 6 a b c = cRate V a := by unfold cCmd; simp
/-- a command's end: whether it could, the sky behind -/
def pC (x : Nat) (g : qG) (m : qM) (r : kA) : Option Value → qG → qM → Prop := fun v g' m' => v = some (.int (if r.1 = 0 then 1 else 0)) ∧ g' = g ∧ SkyQ g m' (x + 1) r.2.2 ∧ Outs (x + 1) 10 m m'
theorem pC_no {x : Nat} {g : qG} {m : qM} {V : kV} {r : kA} (h : SkyQ g m (x + 1) V) {k : Nat} (e : r = (k + 1, 0, V)) : pC x g m r (some (.int 0)) g m := by
  subst e
  exact ⟨rfl, rfl, h, Outs.rf _ _ m⟩
theorem pC_ok {x : Nat} {g : qG} {m m' : qM} {V' : kV} {r : kA} {v : Int32} (h : SkyQ g m' (x + 1) V') (ho : Outs (x + 1) 10 m m') (e : r = (0, v, V')) : pC x g m r (some (.int 1)) g m' := by
  subst e
  exact ⟨rfl, rfl, h, ho⟩
set_option maxRecDepth 20000 in
set_option maxHeartbeats 4000000 in
theorem s_X7_turn (E : qE) (g : qG) (m : qM) (x : Nat) (V : kV) (hx : gAt g x (.inl 10)) (hq : qR m x 0 = some (x + 1)) (hS : SkyQ g m (x + 1) V) (u : Nat) (hw : WfV u V) (hu : u ≤ 6160) (c p : Int32) : Sp E yX7_turn cX7_turn 4 (some .boolean) 2 0 0 [.ref x, .int c, .int p] g m (pC x g m (cTurn V c p)) := by
  refine Sp.of (by decide) [some (.ref x), some (.int c), some (.int p), none] rfl rfl (Nat.le_of_ble_eq_true rfl) (fun X hX => ?_)
  obtain ⟨S, ⟨hs, ad, hr, hV⟩, hR⟩ := id hS
  have hl : V.1.length ≤ 6 := hw.1
  have hday : V.2.1 2 ≤ 369600 := by have := hw.2.2.2.2.1; omega
  have hdu : V.2.1 3 + ds V.2.2 0 12 ≤ 46200020 := by have := hw.2.2.2.2.2.1; omega
  have hN : qI m (x + 1) 2 = nI V.1.length := (hV.1 0 (by decide)).trans hR.1
  have hp : slotF (fun i => qI m (ad i) 0) c 0 V.1.length = plV V.1 c := slotF_congr _ 0 (fun j _ hj => (hV.2.1 j 0 (by omega) (by decide)).trans (hR.2.2.1 j 0 (by omega) (by decide)))
  refine r_aload_n hX dX7_turn_0 rfl ?_
  refine r_getR hX dX7_turn_1 hx fl_X7_10 hq ?_
  refine r_iload_n hX dX7_turn_4 rfl ?_
  refine r_callV hX dX7_turn_5 (s_X5_find E g m (x + 1) c hs ad hr V.1.length ⟨hN, hl⟩) ml_X7_390 rfl rfl hs.1 rfl ⟨Nat.le_of_ble_eq_true rfl, Nat.le_of_ble_eq_true rfl⟩ ⟨Nat.le_of_ble_eq_true rfl, Nat.le_of_ble_eq_true rfl, rfl, Nat.le_of_ble_eq_true rfl⟩ (fun v5 g5 m5 hp => ?_)
  obtain ⟨hv, hg, hm⟩ := hp
  subst v5
  subst g5
  subst m5
  rw [hp]
  rcases hi : plV V.1 c with _ | i
  · refine r_astore_nN hX dX7_turn_8 (Nat.le_of_ble_eq_true rfl) rfl ?_
    refine r_aload_nN hX dX7_turn_9 rfl ?_
    refine r_ifnullN (tgt := 20) hX dX7_turn_10 (by decide) ?_
    refine r_iconst (v := 0) hX dX7_turn_20 (by decide) ?_
    exact r_zret hX dX7_turn_21 rfl (pC_no hS (cTurn_n hi)) ⟨Nat.le_of_ble_eq_true rfl, Nat.le_of_ble_eq_true rfl⟩
  · have hil := (plV_lt hi).1
    skip
    refine r_astore_n hX dX7_turn_8 (Nat.le_of_ble_eq_true rfl) rfl ?_
    refine r_aload_n hX dX7_turn_9 rfl ?_
    refine r_ifnull hX dX7_turn_10 ?_
    refine r_iload_n hX dX7_turn_13 rfl ?_
    refine r_callS hX dX7_turn_14 (s_X7_isPeriod E g m p) ml_X7_105 rfl rfl ⟨Nat.le_of_ble_eq_true rfl, Nat.le_of_ble_eq_true rfl⟩ ⟨Nat.le_of_ble_eq_true rfl, Nat.le_of_ble_eq_true rfl, rfl, Nat.le_of_ble_eq_true rfl⟩ (fun v14 g14 m14 hp => ?_)
    obtain ⟨hv, hg, hm⟩ := hp
    subst v14
    subst g14
    subst m14
    refine r_if_ne (tgt := 22) hX dX7_turn_17 (by decide) (fun c17 => ?_) (fun c17 => ?_)
    · have hrg : rng p 2 60 := Classical.byContradiction (fun h => c17 (by rw [if_neg h]))
      obtain ⟨p9, -, -, rfl, hp9⟩ := rng_to hrg (by decide) (by decide)
      refine r_aload_n hX dX7_turn_22 rfl ?_
      refine r_iload_n hX dX7_turn_23 rfl ?_
      refine r_putI hX dX7_turn_24 (adAt hs hr (by omega)) fl_X7_110 ?_
      obtain ⟨hS2, -, -, hO2⟩ := sky_wC (g := g) (k := 1) (v := nI p9) hs hr hV (show i < 6 by omega)
      refine r_iconst (v := 1) hX dX7_turn_27 (by decide) ?_
      exact r_zret hX dX7_turn_28 rfl (pC_ok ⟨_, hS2, hR.set hil⟩ hO2 (by rw [cTurn_s hi, if_neg (not_not_intro hrg), hp9]; rfl)) ⟨Nat.le_of_ble_eq_true rfl, Nat.le_of_ble_eq_true rfl⟩
    · refine r_iconst (v := 0) hX dX7_turn_20 (by decide) ?_
      exact r_zret hX dX7_turn_21 rfl (pC_no hS (k := 1) (by rw [cTurn_s hi, if_pos (fun h => absurd c17 (by rw [if_pos h]; decide))])) ⟨Nat.le_of_ble_eq_true rfl, Nat.le_of_ble_eq_true rfl⟩
set_option maxRecDepth 20000 in
set_option maxHeartbeats 4000000 in
theorem s_X7_shine (E : qE) (g : qG) (m : qM) (x : Nat) (V : kV) (hx : gAt g x (.inl 10)) (hq : qR m x 0 = some (x + 1)) (hS : SkyQ g m (x + 1) V) (u : Nat) (hw : WfV u V) (hu : u ≤ 6160) (c a : Int32) : Sp E yX7_shine cX7_shine 4 (some .boolean) 2 0 0 [.ref x, .int c, .int a] g m (pC x g m (cShine V c a)) := by
  refine Sp.of (by decide) [some (.ref x), some (.int c), some (.int a), none] rfl rfl (Nat.le_of_ble_eq_true rfl) (fun X hX => ?_)
  obtain ⟨S, ⟨hs, ad, hr, hV⟩, hR⟩ := id hS
  have hl : V.1.length ≤ 6 := hw.1
  have hday : V.2.1 2 ≤ 369600 := by have := hw.2.2.2.2.1; omega
  have hdu : V.2.1 3 + ds V.2.2 0 12 ≤ 46200020 := by have := hw.2.2.2.2.2.1; omega
  have hN : qI m (x + 1) 2 = nI V.1.length := (hV.1 0 (by decide)).trans hR.1
  have hp : slotF (fun i => qI m (ad i) 0) c 0 V.1.length = plV V.1 c := slotF_congr _ 0 (fun j _ hj => (hV.2.1 j 0 (by omega) (by decide)).trans (hR.2.2.1 j 0 (by omega) (by decide)))
  have hC : ∀ i k, i < V.1.length → i < 6 → k < 5 → qI m (ad i) k = nI (cAt V.1 i k) := fun i k h1 h6 h2 => (hV.2.1 i k h6 h2).trans (hR.2.2.1 i k h1 h2)
  have hH : ∀ k, 1 ≤ k → k < 7 → qI m (x + 1) (k + 2) = nI (V.2.1 k) := fun k h1 h2 => (hV.1 k h2).trans (hR.2.1 k h1 h2)
  refine r_aload_n hX dX7_shine_0 rfl ?_
  refine r_getR hX dX7_shine_1 hx fl_X7_10 hq ?_
  refine r_iload_n hX dX7_shine_4 rfl ?_
  refine r_callV hX dX7_shine_5 (s_X5_find E g m (x + 1) c hs ad hr V.1.length ⟨hN, hl⟩) ml_X7_390 rfl rfl hs.1 rfl ⟨Nat.le_of_ble_eq_true rfl, Nat.le_of_ble_eq_true rfl⟩ ⟨Nat.le_of_ble_eq_true rfl, Nat.le_of_ble_eq_true rfl, rfl, Nat.le_of_ble_eq_true rfl⟩ (fun v5 g5 m5 hp => ?_)
  obtain ⟨hv, hg, hm⟩ := hp
  subst v5
  subst g5
  subst m5
  rw [hp]
  rcases hi : plV V.1 c with _ | i
  · refine r_astore_nN hX dX7_shine_8 (Nat.le_of_ble_eq_true rfl) rfl ?_
    refine r_aload_nN hX dX7_shine_9 rfl ?_
    refine r_ifnullN (tgt := 39) hX dX7_shine_10 (by decide) ?_
    refine r_iconst (v := 0) hX dX7_shine_39 (by decide) ?_
    exact r_zret hX dX7_shine_40 rfl (pC_no hS (cShine_n hi)) ⟨Nat.le_of_ble_eq_true rfl, Nat.le_of_ble_eq_true rfl⟩
  · have hil := (plV_lt hi).1
    skip
    refine r_astore_n hX dX7_shine_8 (Nat.le_of_ble_eq_true rfl) rfl ?_
    refine r_aload_n hX dX7_shine_9 rfl ?_
    refine r_ifnull hX dX7_shine_10 ?_
    refine r_iload_n hX dX7_shine_13 rfl ?_
    refine r_callS hX dX7_shine_14 (s_X7_isAmount E g m a) ml_X7_113 rfl rfl ⟨Nat.le_of_ble_eq_true rfl, Nat.le_of_ble_eq_true rfl⟩ ⟨Nat.le_of_ble_eq_true rfl, Nat.le_of_ble_eq_true rfl, rfl, Nat.le_of_ble_eq_true rfl⟩ (fun v14 g14 m14 hp => ?_)
    obtain ⟨hv, hg, hm⟩ := hp
    subst v14
    subst g14
    subst m14
    refine r_if_eq (tgt := 39) hX dX7_shine_17 (by decide) (fun c17 => ?_) (fun c17 => ?_)
    · refine r_iconst (v := 0) hX dX7_shine_39 (by decide) ?_
      exact r_zret hX dX7_shine_40 rfl (pC_no hS (k := 1) (by rw [cShine_s hi, if_pos (fun h => absurd c17 (by rw [if_pos h]; decide))])) ⟨Nat.le_of_ble_eq_true rfl, Nat.le_of_ble_eq_true rfl⟩
    · have hrg : rng a 1 19 := Classical.byContradiction (fun h => c17 (by rw [if_neg h]))
      obtain ⟨a9, ha1, ha19, rfl, ha9⟩ := rng_to hrg (by decide) (by decide)
      obtain ⟨q1, q2, q3, q4, -, -, -, -⟩ := WfW.at hw hil
      refine r_aload_n hX dX7_shine_20 rfl ?_
      refine r_iload_n hX dX7_shine_21 rfl ?_
      refine r_callV hX dX7_shine_22 (s_X0_canTake E g m (ad i) (nI a9) (adAt hs hr (by omega))) ml_X7_118 rfl rfl (adAt hs hr (by omega)) rfl ⟨Nat.le_of_ble_eq_true rfl, Nat.le_of_ble_eq_true rfl⟩ ⟨Nat.le_of_ble_eq_true rfl, Nat.le_of_ble_eq_true rfl, rfl, Nat.le_of_ble_eq_true rfl⟩ (fun v22 g22 m22 hp => ?_)
      obtain ⟨hv, hg, hm⟩ := hp
      subst v22
      subst g22
      subst m22
      rw [hC i 2 hil (by omega) (by decide), nI_add]
      refine r_if_eq (tgt := 39) hX dX7_shine_25 (by decide) (fun c25 => ?_) (fun c25 => ?_)
      · have h20 : 20 < cAt V.1 i 2 + a9 := Nat.lt_of_not_le (fun h => absurd c25 (by rw [if_neg (show ¬ (20 : Int32) < nI (cAt V.1 i 2 + a9) from nI_nlt (b := cAt V.1 i 2 + a9) (a := 20) h (by decide))]; decide))
        refine r_iconst (v := 0) hX dX7_shine_39 (by decide) ?_
        exact r_zret hX dX7_shine_40 rfl (pC_no hS (k := 2) (by rw [cShine_s hi, if_neg (not_not_intro hrg), ha9, if_pos h20])) ⟨Nat.le_of_ble_eq_true rfl, Nat.le_of_ble_eq_true rfl⟩
      · have h20 : cAt V.1 i 2 + a9 ≤ 20 := Nat.le_of_not_lt (fun h => c25 (if_pos (nI_lt (a := 20) h (by omega))))
        refine r_aload_n hX dX7_shine_28 rfl ?_
        refine r_getR hX dX7_shine_29 hx fl_X7_10 hq ?_
        refine r_iload_n hX dX7_shine_32 rfl ?_
        refine r_callV hX dX7_shine_33 (s_X5_canBuy E g m (x + 1) (nI a9) hs) ml_X7_123 rfl rfl hs.1 rfl ⟨Nat.le_of_ble_eq_true rfl, Nat.le_of_ble_eq_true rfl⟩ ⟨Nat.le_of_ble_eq_true rfl, Nat.le_of_ble_eq_true rfl, rfl, Nat.le_of_ble_eq_true rfl⟩ (fun v33 g33 m33 hp => ?_)
        obtain ⟨hv, hg, hm⟩ := hp
        subst v33
        subst g33
        subst m33
        rw [hH 3 (by decide) (by decide), show (3 : Int32) * nI a9 = nI (3 * a9) from pk_mul 3 a9]
        refine r_if_ne (tgt := 41) hX dX7_shine_36 (by decide) (fun c36 => ?_) (fun c36 => ?_)
        · have h3 : 3 * a9 ≤ V.2.1 3 := Nat.le_of_not_lt (fun h => c36 (if_pos (nI_lt h (by omega))))
          refine r_aload_n hX dX7_shine_41 rfl ?_
          refine r_getR hX dX7_shine_42 hx fl_X7_10 hq ?_
          refine r_aload_n hX dX7_shine_45 rfl ?_
          refine r_iload_n hX dX7_shine_46 rfl ?_
          refine r_callV hX dX7_shine_47 (s_X5_buy E g m (x + 1) (ad i) (nI a9) hs (adAt hs hr (by omega))) ml_X7_131 rfl rfl hs.1 rfl ⟨Nat.le_of_ble_eq_true rfl, Nat.le_of_ble_eq_true rfl⟩ ⟨Nat.le_of_ble_eq_true rfl, Nat.le_of_ble_eq_true rfl, rfl, Nat.le_of_ble_eq_true rfl⟩ (fun v47 g47 m47 hp => ?_)
          obtain ⟨hv, hg, hm⟩ := hp
          subst v47
          subst g47
          subst m47
          obtain ⟨hS2, hr2, hV2, hO2⟩ := sky_wH (g := g) (k := 3) (v := nI (V.2.1 3 - 3 * a9)) hs hr hV
          obtain ⟨hS4, -, -, hO4⟩ := sky_wC (g := g) (i := i) (k := 2) (v := nI (cAt V.1 i 2 + a9)) hs hr2 hV2 (by omega)
          rw [show qI m (x + 1) 5 - 3 * nI a9 = nI (V.2.1 3 - 3 * a9) by rw [hH 3 (by decide) (by decide), show (3 : Int32) * nI a9 = nI (3 * a9) from pk_mul 3 a9, pk_sub h3], show qI m (ad i) 2 + nI a9 = nI (cAt V.1 i 2 + a9) by rw [hC i 2 hil (by omega) (by decide), nI_add]]
          have hR9 : RepS (setS (hdS S 3 (nI (V.2.1 3 - 3 * a9))) i 2 (nI (cAt V.1 i 2 + a9))) (shineV V i a9) := (hR.hdE (j := 3) (v := V.2.1 3 - 3 * a9) (by decide)).set (V := (V.1, updH V.2.1 3 (V.2.1 3 - 3 * a9), V.2.2)) (k := 2) (v := cAt V.1 i 2 + a9) hil
          refine r_iconst (v := 1) hX dX7_shine_50 (by decide) ?_
          exact r_zret hX dX7_shine_51 rfl (pC_ok ⟨_, hS4, hR9⟩ (hO2.tr hO4) (by rw [cShine_s hi, if_neg (not_not_intro hrg), ha9, if_neg (by omega), if_neg (by omega)])) ⟨Nat.le_of_ble_eq_true rfl, Nat.le_of_ble_eq_true rfl⟩
        · have h3 : V.2.1 3 < 3 * a9 := Nat.lt_of_not_le (fun h => absurd c36 (by rw [if_neg (nI_nlt h (by omega))]; decide))
          refine r_iconst (v := 0) hX dX7_shine_39 (by decide) ?_
          exact r_zret hX dX7_shine_40 rfl (pC_no hS (k := 3) (by rw [cShine_s hi, if_neg (not_not_intro hrg), ha9, if_neg (by omega), if_pos h3])) ⟨Nat.le_of_ble_eq_true rfl, Nat.le_of_ble_eq_true rfl⟩
set_option maxRecDepth 20000 in
set_option maxHeartbeats 4000000 in
theorem s_X7_car0 (E : qE) (g : qG) (m : qM) (x : Nat) (V : kV) (hx : gAt g x (.inl 10)) (hq : qR m x 0 = some (x + 1)) (hS : SkyQ g m (x + 1) V) (u : Nat) (hw : WfV u V) (hu : u ≤ 6160) (a b c : Int32) : Sp E yX7_carryOut cX7_carryOut 5 (some .boolean) 6 0 0 [.ref x, .int 0, .int a, .int b, .int c] g m (pC x g m (cAdd V a b c)) := by
  refine Sp.of (by decide) [some (.ref x), some (.int 0), some (.int a), some (.int b), some (.int c)] rfl rfl (Nat.le_of_ble_eq_true rfl) (fun X hX => ?_)
  obtain ⟨S, ⟨hs, ad, hr, hV⟩, hR⟩ := id hS
  have hl : V.1.length ≤ 6 := hw.1
  have hday : V.2.1 2 ≤ 369600 := by have := hw.2.2.2.2.1; omega
  have hdu : V.2.1 3 + ds V.2.2 0 12 ≤ 46200020 := by have := hw.2.2.2.2.2.1; omega
  have hN : qI m (x + 1) 2 = nI V.1.length := (hV.1 0 (by decide)).trans hR.1
  refine r_iload_n hX dX7_carryOut_0 rfl ?_
  refine r_tableIn (off := 43) (tgt := 44) hX dX7_carryOut_1 (by decide) (by decide) (by decide) (by decide) ?_
  refine r_iload_n hX dX7_carryOut_44 rfl ?_
  refine r_iload_n hX dX7_carryOut_45 rfl ?_
  refine r_iload hX dX7_carryOut_46 rfl ?_
  refine r_callS hX dX7_carryOut_48 (s_X7_isNewComet E g m a b c) ml_X7_61 rfl rfl ⟨Nat.le_of_ble_eq_true rfl, Nat.le_of_ble_eq_true rfl⟩ ⟨Nat.le_of_ble_eq_true rfl, Nat.le_of_ble_eq_true rfl, rfl, Nat.le_of_ble_eq_true rfl⟩ (fun v48 g48 m48 hp => ?_)
  obtain ⟨hv, hg, hm⟩ := hp
  subst v48
  subst g48
  subst m48
  refine r_if_eq (tgt := 64) hX dX7_carryOut_51 (by decide) (fun c51 => ?_) (fun c51 => ?_)
  · refine r_iconst (v := 0) hX dX7_carryOut_64 (by decide) ?_
    exact r_zret hX dX7_carryOut_65 rfl (pC_no hS (k := 1) (if_pos (fun h => absurd c51 (by rw [if_pos h]; decide)))) ⟨Nat.le_of_ble_eq_true rfl, Nat.le_of_ble_eq_true rfl⟩
  · have hnc : (rng a 2 60 ∧ rng b 1 60 ∧ rng c 1 20) := Classical.byContradiction (fun h => c51 (by rw [if_neg h]))
    refine r_aload_n hX dX7_carryOut_54 rfl ?_
    refine r_getR hX dX7_carryOut_55 hx fl_X7_10 hq ?_
    refine r_callV hX dX7_carryOut_58 (s_X5_hasRoom E g m (x + 1) hs) ml_X7_72 rfl rfl hs.1 rfl ⟨Nat.le_of_ble_eq_true rfl, Nat.le_of_ble_eq_true rfl⟩ ⟨Nat.le_of_ble_eq_true rfl, Nat.le_of_ble_eq_true rfl, rfl, Nat.le_of_ble_eq_true rfl⟩ (fun v58 g58 m58 hp => ?_)
    obtain ⟨hv, hg, hm⟩ := hp
    subst v58
    subst g58
    subst m58
    rw [hN]
    refine r_if_ne (tgt := 66) hX dX7_carryOut_61 (by decide) (fun c61 => ?_) (fun c61 => ?_)
    · have h6 : V.1.length < 6 := Nat.lt_of_not_le (fun h => c61 (by rw [if_pos (show (6 : Int32) ≤ nI V.1.length from nI_le (a := 6) (by omega) (by omega))]))
      obtain ⟨p9, -, -, rfl, hp9⟩ := rng_to hnc.1 (by decide) (by decide)
      obtain ⟨d9, -, -, rfl, hd9⟩ := rng_to hnc.2.1 (by decide) (by decide)
      obtain ⟨b9, -, -, rfl, hb9⟩ := rng_to hnc.2.2 (by decide) (by decide)
      refine r_aload_n hX dX7_carryOut_66 rfl ?_
      refine r_getR hX dX7_carryOut_67 hx fl_X7_10 hq ?_
      refine r_iload_n hX dX7_carryOut_70 rfl ?_
      refine r_iload_n hX dX7_carryOut_71 rfl ?_
      refine r_iload hX dX7_carryOut_72 rfl ?_
      refine r_callV hX dX7_carryOut_74 (s_X5_add E g m (x + 1) (nI p9) (nI d9) (nI b9) S ⟨hs, ad, hr, hV⟩ V.1.length hR.1 h6) ml_X7_85 rfl rfl hs.1 rfl ⟨Nat.le_of_ble_eq_true rfl, Nat.le_of_ble_eq_true rfl⟩ ⟨Nat.le_of_ble_eq_true rfl, Nat.le_of_ble_eq_true rfl, rfl, Nat.le_of_ble_eq_true rfl⟩ (fun v74 g74 m74 hp => ?_)
      obtain ⟨hv, hg, hS2, hO2⟩ := hp
      subst v74
      subst g74
      refine r_pop hX dX7_carryOut_77 rfl ?_
      refine r_iconst (v := 1) hX dX7_carryOut_78 (by decide) ?_
      exact r_zret hX dX7_carryOut_79 rfl (pC_ok ⟨_, hS2, hR.add rfl⟩ hO2 (by unfold cAdd; rw [if_neg (not_not_intro hnc), if_neg (by omega), hp9, hd9, hb9])) ⟨Nat.le_of_ble_eq_true rfl, Nat.le_of_ble_eq_true rfl⟩
    · have h6 : V.1.length = 6 := Classical.byContradiction (fun h => absurd c61 (by rw [if_neg (show ¬ (6 : Int32) ≤ nI V.1.length from nI_ge (b := 6) (by omega) (by decide))]; decide))
      refine r_iconst (v := 0) hX dX7_carryOut_64 (by decide) ?_
      exact r_zret hX dX7_carryOut_65 rfl (pC_no hS (k := 2) (by unfold cAdd; rw [if_neg (not_not_intro hnc), if_pos h6])) ⟨Nat.le_of_ble_eq_true rfl, Nat.le_of_ble_eq_true rfl⟩
set_option maxRecDepth 20000 in
set_option maxHeartbeats 4000000 in
theorem s_X7_car1 (E : qE) (g : qG) (m : qM) (x : Nat) (V : kV) (hx : gAt g x (.inl 10)) (hq : qR m x 0 = some (x + 1)) (hS : SkyQ g m (x + 1) V) (u : Nat) (hw : WfV u V) (hu : u ≤ 6160) (a b c : Int32) : Sp E yX7_carryOut cX7_carryOut 5 (some .boolean) 6 0 0 [.ref x, .int 1, .int a, .int b, .int c] g m (pC x g m (cDrop V a)) := by
  refine Sp.of (by decide) [some (.ref x), some (.int 1), some (.int a), some (.int b), some (.int c)] rfl rfl (Nat.le_of_ble_eq_true rfl) (fun X hX => ?_)
  obtain ⟨S, ⟨hs, ad, hr, hV⟩, hR⟩ := id hS
  have hl : V.1.length ≤ 6 := hw.1
  have hday : V.2.1 2 ≤ 369600 := by have := hw.2.2.2.2.1; omega
  have hdu : V.2.1 3 + ds V.2.2 0 12 ≤ 46200020 := by have := hw.2.2.2.2.2.1; omega
  refine r_iload_n hX dX7_carryOut_0 rfl ?_
  refine r_tableIn (off := 79) (tgt := 80) hX dX7_carryOut_1 (by decide) (by decide) (by decide) (by decide) ?_
  rcases hi : plV V.1 a with _ | i
  · skip
    refine r_aload_n hX dX7_carryOut_80 rfl ?_
    refine r_getR hX dX7_carryOut_81 hx fl_X7_10 hq ?_
    refine r_iload_n hX dX7_carryOut_84 rfl ?_
    refine r_callV hX dX7_carryOut_85 (s_X5_sell0 E g m (x + 1) a S ⟨hs, ad, hr, hV⟩ V.1.length ⟨hR.1, hl⟩ ((hR.plc a rfl).trans hi)) ml_X7_98 rfl rfl hs.1 rfl ⟨Nat.le_of_ble_eq_true rfl, Nat.le_of_ble_eq_true rfl⟩ ⟨Nat.le_of_ble_eq_true rfl, Nat.le_of_ble_eq_true rfl, rfl, Nat.le_of_ble_eq_true rfl⟩ (fun v85 g85 m85 hp => ?_)
    obtain ⟨hv, hg, hm⟩ := hp
    subst v85
    subst g85
    subst m85
    exact r_zret hX dX7_carryOut_88 rfl (pC_no hS (cDrop_n hi)) ⟨Nat.le_of_ble_eq_true rfl, Nat.le_of_ble_eq_true rfl⟩
  · skip
    refine r_aload_n hX dX7_carryOut_80 rfl ?_
    refine r_getR hX dX7_carryOut_81 hx fl_X7_10 hq ?_
    refine r_iload_n hX dX7_carryOut_84 rfl ?_
    refine r_callV hX dX7_carryOut_85 (s_X5_sell1 E g m (x + 1) a S ⟨hs, ad, hr, hV⟩ V.1.length ⟨hR.1, hl⟩ i ((hR.plc a rfl).trans hi)) ml_X7_98 rfl rfl hs.1 rfl ⟨Nat.le_of_ble_eq_true rfl, Nat.le_of_ble_eq_true rfl⟩ ⟨Nat.le_of_ble_eq_true rfl, Nat.le_of_ble_eq_true rfl, rfl, Nat.le_of_ble_eq_true rfl⟩ (fun v85 g85 m85 hp => ?_)
    obtain ⟨hv, hg, hS2, hO2⟩ := hp
    subst v85
    subst g85
    exact r_zret hX dX7_carryOut_88 rfl (pC_ok ⟨_, hS2, hR.sell rfl (plV_lt hi).1⟩ hO2 (cDrop_s hi)) ⟨Nat.le_of_ble_eq_true rfl, Nat.le_of_ble_eq_true rfl⟩
set_option maxRecDepth 20000 in
set_option maxHeartbeats 4000000 in
theorem s_X7_car2 (E : qE) (g : qG) (m : qM) (x : Nat) (V : kV) (hx : gAt g x (.inl 10)) (hq : qR m x 0 = some (x + 1)) (hS : SkyQ g m (x + 1) V) (u : Nat) (hw : WfV u V) (hu : u ≤ 6160) (a b c : Int32) : Sp E yX7_carryOut cX7_carryOut 5 (some .boolean) 6 0 0 [.ref x, .int 2, .int a, .int b, .int c] g m (pC x g m (cTurn V a b)) := by
  refine Sp.of (by decide) [some (.ref x), some (.int 2), some (.int a), some (.int b), some (.int c)] rfl rfl (Nat.le_of_ble_eq_true rfl) (fun X hX => ?_)
  obtain ⟨S, ⟨hs, ad, hr, hV⟩, hR⟩ := id hS
  have hl : V.1.length ≤ 6 := hw.1
  have hday : V.2.1 2 ≤ 369600 := by have := hw.2.2.2.2.1; omega
  have hdu : V.2.1 3 + ds V.2.2 0 12 ≤ 46200020 := by have := hw.2.2.2.2.2.1; omega
  refine r_iload_n hX dX7_carryOut_0 rfl ?_
  refine r_tableIn (off := 88) (tgt := 89) hX dX7_carryOut_1 (by decide) (by decide) (by decide) (by decide) ?_
  refine r_aload_n hX dX7_carryOut_89 rfl ?_
  refine r_iload_n hX dX7_carryOut_90 rfl ?_
  refine r_iload_n hX dX7_carryOut_91 rfl ?_
  refine r_callV hX dX7_carryOut_92 (s_X7_turn E g m x V hx hq hS u hw hu a b) ml_X7_395 rfl rfl hx rfl ⟨Nat.le_of_ble_eq_true rfl, Nat.le_of_ble_eq_true rfl⟩ ⟨Nat.le_of_ble_eq_true rfl, Nat.le_of_ble_eq_true rfl, rfl, Nat.le_of_ble_eq_true rfl⟩ (fun v92 g92 m92 hp => ?_)
  obtain ⟨hv, hg, hS2, hO2⟩ := hp
  subst v92
  subst g92
  exact r_zret hX dX7_carryOut_95 (by split <;> rfl) ⟨rfl, rfl, hS2, hO2⟩ ⟨Nat.le_of_ble_eq_true rfl, Nat.le_of_ble_eq_true rfl⟩
set_option maxRecDepth 20000 in
set_option maxHeartbeats 4000000 in
theorem s_X7_car3 (E : qE) (g : qG) (m : qM) (x : Nat) (V : kV) (hx : gAt g x (.inl 10)) (hq : qR m x 0 = some (x + 1)) (hS : SkyQ g m (x + 1) V) (u : Nat) (hw : WfV u V) (hu : u ≤ 6160) (a b c : Int32) : Sp E yX7_carryOut cX7_carryOut 5 (some .boolean) 6 0 0 [.ref x, .int 3, .int a, .int b, .int c] g m (pC x g m (cShine V a b)) := by
  refine Sp.of (by decide) [some (.ref x), some (.int 3), some (.int a), some (.int b), some (.int c)] rfl rfl (Nat.le_of_ble_eq_true rfl) (fun X hX => ?_)
  obtain ⟨S, ⟨hs, ad, hr, hV⟩, hR⟩ := id hS
  have hl : V.1.length ≤ 6 := hw.1
  have hday : V.2.1 2 ≤ 369600 := by have := hw.2.2.2.2.1; omega
  have hdu : V.2.1 3 + ds V.2.2 0 12 ≤ 46200020 := by have := hw.2.2.2.2.2.1; omega
  refine r_iload_n hX dX7_carryOut_0 rfl ?_
  refine r_tableIn (off := 95) (tgt := 96) hX dX7_carryOut_1 (by decide) (by decide) (by decide) (by decide) ?_
  refine r_aload_n hX dX7_carryOut_96 rfl ?_
  refine r_iload_n hX dX7_carryOut_97 rfl ?_
  refine r_iload_n hX dX7_carryOut_98 rfl ?_
  refine r_callV hX dX7_carryOut_99 (s_X7_shine E g m x V hx hq hS u hw hu a b) ml_X7_398 rfl rfl hx rfl ⟨Nat.le_of_ble_eq_true rfl, Nat.le_of_ble_eq_true rfl⟩ ⟨Nat.le_of_ble_eq_true rfl, Nat.le_of_ble_eq_true rfl, rfl, Nat.le_of_ble_eq_true rfl⟩ (fun v99 g99 m99 hp => ?_)
  obtain ⟨hv, hg, hS2, hO2⟩ := hp
  subst v99
  subst g99
  exact r_zret hX dX7_carryOut_102 (by split <;> rfl) ⟨rfl, rfl, hS2, hO2⟩ ⟨Nat.le_of_ble_eq_true rfl, Nat.le_of_ble_eq_true rfl⟩
set_option maxRecDepth 20000 in
set_option maxHeartbeats 4000000 in
theorem s_X7_car4 (E : qE) (g : qG) (m : qM) (x : Nat) (V : kV) (hx : gAt g x (.inl 10)) (hq : qR m x 0 = some (x + 1)) (hS : SkyQ g m (x + 1) V) (u : Nat) (hw : WfV u V) (hu : u ≤ 6160) (a b c : Int32) : Sp E yX7_carryOut cX7_carryOut 5 (some .boolean) 6 0 0 [.ref x, .int 4, .int a, .int b, .int c] g m (pC x g m (cDay V a)) := by
  refine Sp.of (by decide) [some (.ref x), some (.int 4), some (.int a), some (.int b), some (.int c)] rfl rfl (Nat.le_of_ble_eq_true rfl) (fun X hX => ?_)
  obtain ⟨S, ⟨hs, ad, hr, hV⟩, hR⟩ := id hS
  have hl : V.1.length ≤ 6 := hw.1
  have hday : V.2.1 2 ≤ 369600 := by have := hw.2.2.2.2.1; omega
  have hdu : V.2.1 3 + ds V.2.2 0 12 ≤ 46200020 := by have := hw.2.2.2.2.2.1; omega
  refine r_iload_n hX dX7_carryOut_0 rfl ?_
  refine r_tableIn (off := 102) (tgt := 103) hX dX7_carryOut_1 (by decide) (by decide) (by decide) (by decide) ?_
  refine r_iload_n hX dX7_carryOut_103 rfl ?_
  refine r_callS hX dX7_carryOut_104 (s_X7_isSpanOfDays E g m a) ml_X7_138 rfl rfl ⟨Nat.le_of_ble_eq_true rfl, Nat.le_of_ble_eq_true rfl⟩ ⟨Nat.le_of_ble_eq_true rfl, Nat.le_of_ble_eq_true rfl, rfl, Nat.le_of_ble_eq_true rfl⟩ (fun v104 g104 m104 hp => ?_)
  obtain ⟨hv, hg, hm⟩ := hp
  subst v104
  subst g104
  subst m104
  refine r_if_ne (tgt := 112) hX dX7_carryOut_107 (by decide) (fun c107 => ?_) (fun c107 => ?_)
  · have hrg : rng a 1 60 := Classical.byContradiction (fun h => c107 (by rw [if_neg h]))
    obtain ⟨d9, -, hd60, rfl, hd9⟩ := rng_to hrg (by decide) (by decide)
    have hRd : RepS (itS d9 S) (daysV d9 V) := hR.days d9 hw (by omega)
    refine r_aload_n hX dX7_carryOut_112 rfl ?_
    refine r_getR hX dX7_carryOut_113 hx fl_X7_10 hq ?_
    refine r_iload_n hX dX7_carryOut_116 rfl ?_
    refine r_callV hX dX7_carryOut_117 (s_X5_letPass E g m (x + 1) S ⟨hs, ad, hr, hV⟩ V.1.length (V.2.1 2) d9 ⟨hR.1, hl⟩ ⟨hR.2.1 2 (by decide) (by decide), by omega⟩) ml_X7_143 rfl rfl hs.1 rfl ⟨Nat.le_of_ble_eq_true rfl, Nat.le_of_ble_eq_true rfl⟩ ⟨Nat.le_of_ble_eq_true rfl, Nat.le_of_ble_eq_true rfl, rfl, Nat.le_of_ble_eq_true rfl⟩ (fun v117 g117 m117 hp => ?_)
    obtain ⟨hv, hg, hS2, hO2⟩ := hp
    subst v117
    subst g117
    refine r_pop hX dX7_carryOut_120 rfl ?_
    refine r_iconst (v := 1) hX dX7_carryOut_121 (by decide) ?_
    exact r_zret hX dX7_carryOut_122 rfl (pC_ok ⟨_, hS2, hRd⟩ hO2 (by unfold cDay; rw [if_neg (not_not_intro hrg), hd9])) ⟨Nat.le_of_ble_eq_true rfl, Nat.le_of_ble_eq_true rfl⟩
  · refine r_iconst (v := 0) hX dX7_carryOut_110 (by decide) ?_
    exact r_zret hX dX7_carryOut_111 rfl (pC_no hS (k := 1) (if_pos (fun h => absurd c107 (by rw [if_pos h]; decide)))) ⟨Nat.le_of_ble_eq_true rfl, Nat.le_of_ble_eq_true rfl⟩
set_option maxRecDepth 20000 in
set_option maxHeartbeats 4000000 in
theorem s_X7_car5 (E : qE) (g : qG) (m : qM) (x : Nat) (V : kV) (hx : gAt g x (.inl 10)) (hq : qR m x 0 = some (x + 1)) (hS : SkyQ g m (x + 1) V) (u : Nat) (hw : WfV u V) (hu : u ≤ 6160) (a b c : Int32) : Sp E yX7_carryOut cX7_carryOut 5 (some .boolean) 6 0 0 [.ref x, .int 5, .int a, .int b, .int c] g m (pC x g m (cVac V a b)) := by
  refine Sp.of (by decide) [some (.ref x), some (.int 5), some (.int a), some (.int b), some (.int c)] rfl rfl (Nat.le_of_ble_eq_true rfl) (fun X hX => ?_)
  obtain ⟨S, ⟨hs, ad, hr, hV⟩, hR⟩ := id hS
  have hl : V.1.length ≤ 6 := hw.1
  have hday : V.2.1 2 ≤ 369600 := by have := hw.2.2.2.2.1; omega
  have hdu : V.2.1 3 + ds V.2.2 0 12 ≤ 46200020 := by have := hw.2.2.2.2.2.1; omega
  refine r_iload_n hX dX7_carryOut_0 rfl ?_
  refine r_tableIn (off := 122) (tgt := 123) hX dX7_carryOut_1 (by decide) (by decide) (by decide) (by decide) ?_
  refine r_iload_n hX dX7_carryOut_123 rfl ?_
  refine r_callS hX dX7_carryOut_124 (s_X7_isPlace E g m a) ml_X7_147 rfl rfl ⟨Nat.le_of_ble_eq_true rfl, Nat.le_of_ble_eq_true rfl⟩ ⟨Nat.le_of_ble_eq_true rfl, Nat.le_of_ble_eq_true rfl, rfl, Nat.le_of_ble_eq_true rfl⟩ (fun v124 g124 m124 hp => ?_)
  obtain ⟨hv, hg, hm⟩ := hp
  subst v124
  subst g124
  subst m124
  refine r_if_eq (tgt := 149) hX dX7_carryOut_127 (by decide) (fun c127 => ?_) (fun c127 => ?_)
  · refine r_iconst (v := 0) hX dX7_carryOut_149 (by decide) ?_
    exact r_zret hX dX7_carryOut_150 rfl (pC_no hS (k := 0) (if_pos (fun h => absurd c127 (by rw [if_pos h]; decide)))) ⟨Nat.le_of_ble_eq_true rfl, Nat.le_of_ble_eq_true rfl⟩
  · have hr9 : rng a 0 11 := Classical.byContradiction (fun h => c127 (by rw [if_neg h]))
    refine r_iload_n hX dX7_carryOut_130 rfl ?_
    refine r_callS hX dX7_carryOut_131 (s_X7_isLengthOfArc E g m b) ml_X7_155 rfl rfl ⟨Nat.le_of_ble_eq_true rfl, Nat.le_of_ble_eq_true rfl⟩ ⟨Nat.le_of_ble_eq_true rfl, Nat.le_of_ble_eq_true rfl, rfl, Nat.le_of_ble_eq_true rfl⟩ (fun v131 g131 m131 hp => ?_)
    obtain ⟨hv, hg, hm⟩ := hp
    subst v131
    subst g131
    subst m131
    refine r_if_eq (tgt := 149) hX dX7_carryOut_134 (by decide) (fun c134 => ?_) (fun c134 => ?_)
    · refine r_iconst (v := 0) hX dX7_carryOut_149 (by decide) ?_
      exact r_zret hX dX7_carryOut_150 rfl (pC_no hS (k := 1) (by unfold cVac; rw [if_neg (not_not_intro hr9), if_pos (fun h => absurd c134 (by rw [if_pos h]; decide))])) ⟨Nat.le_of_ble_eq_true rfl, Nat.le_of_ble_eq_true rfl⟩
    · have hr8 : rng b 1 12 := Classical.byContradiction (fun h => c134 (by rw [if_neg h]))
      obtain ⟨a9, -, ha11, rfl, ha9⟩ := rng_to hr9 (by decide) (by decide)
      obtain ⟨n9, -, hn12, rfl, hn9⟩ := rng_to hr8 (by decide) (by decide)
      have hrt : V.2.1 4 * n9 < 2 ^ 30 := by
        have := Nat.mul_le_mul hw.2.2.2.2.2.2.1 hn12
        omega
      have hds := ds_le V.2.2 a9 n9 hn12
      refine r_aload_n hX dX7_carryOut_137 rfl ?_
      refine r_getR hX dX7_carryOut_138 hx fl_X7_10 hq ?_
      refine r_iload_n hX dX7_carryOut_141 rfl ?_
      refine r_iload_n hX dX7_carryOut_142 rfl ?_
      refine r_callV hX dX7_carryOut_143 (s_X5_canSweep E g m (x + 1) S ⟨hs, ad, hr, hV⟩ a9 n9 (by omega) hn12) ml_X7_160 rfl rfl hs.1 rfl ⟨Nat.le_of_ble_eq_true rfl, Nat.le_of_ble_eq_true rfl⟩ ⟨Nat.le_of_ble_eq_true rfl, Nat.le_of_ble_eq_true rfl, rfl, Nat.le_of_ble_eq_true rfl⟩ (fun v143 g143 m143 hp => ?_)
      obtain ⟨hv, hg, hm⟩ := hp
      subst v143
      subst g143
      subst m143
      refine r_if_ne (tgt := 151) hX dX7_carryOut_146 (by decide) (fun c146 => ?_) (fun c146 => ?_)
      · have hc : V.2.1 4 * n9 ≤ V.2.1 3 + ds V.2.2 a9 n9 := Classical.byContradiction (fun h => c146 (if_pos (hR.gain_f h hrt)))
        refine r_aload_n hX dX7_carryOut_151 rfl ?_
        refine r_getR hX dX7_carryOut_152 hx fl_X7_10 hq ?_
        refine r_iload_n hX dX7_carryOut_155 rfl ?_
        refine r_iload_n hX dX7_carryOut_156 rfl ?_
        refine r_callV hX dX7_carryOut_157 (s_X5_sweep E g m (x + 1) S ⟨hs, ad, hr, hV⟩ a9 n9 (by omega) hn12) ml_X7_164 rfl rfl hs.1 rfl ⟨Nat.le_of_ble_eq_true rfl, Nat.le_of_ble_eq_true rfl⟩ ⟨Nat.le_of_ble_eq_true rfl, Nat.le_of_ble_eq_true rfl, rfl, Nat.le_of_ble_eq_true rfl⟩ (fun v157 g157 m157 hp => ?_)
        obtain ⟨hv, hg, hS2, hO2⟩ := hp
        subst v157
        subst g157
        refine r_pop hX dX7_carryOut_160 rfl ?_
        refine r_iconst (v := 1) hX dX7_carryOut_161 (by decide) ?_
        exact r_zret hX dX7_carryOut_162 rfl (pC_ok ⟨_, hS2, hR.sweep hn12 hc⟩ hO2 (by unfold cVac; rw [if_neg (not_not_intro hr9), if_neg (not_not_intro hr8), ha9, hn9, if_neg (by omega)])) ⟨Nat.le_of_ble_eq_true rfl, Nat.le_of_ble_eq_true rfl⟩
      · have hc : V.2.1 3 + ds V.2.2 a9 n9 < V.2.1 4 * n9 := Nat.lt_of_not_le (fun h => absurd c146 (by
          rw [if_neg (by rw [hR.gain_t h]; exact nI_pos (by omega))]; decide))
        refine r_iconst (v := 0) hX dX7_carryOut_149 (by decide) ?_
        exact r_zret hX dX7_carryOut_150 rfl (pC_no hS (k := 2) (by unfold cVac; rw [if_neg (not_not_intro hr9), if_neg (not_not_intro hr8), ha9, hn9, if_pos hc])) ⟨Nat.le_of_ble_eq_true rfl, Nat.le_of_ble_eq_true rfl⟩
set_option maxRecDepth 20000 in
set_option maxHeartbeats 4000000 in
theorem s_X7_car6 (E : qE) (g : qG) (m : qM) (x : Nat) (V : kV) (hx : gAt g x (.inl 10)) (hq : qR m x 0 = some (x + 1)) (hS : SkyQ g m (x + 1) V) (u : Nat) (hw : WfV u V) (hu : u ≤ 6160) (a b c : Int32) : Sp E yX7_carryOut cX7_carryOut 5 (some .boolean) 6 0 0 [.ref x, .int 6, .int a, .int b, .int c] g m (pC x g m (cRate V a)) := by
  refine Sp.of (by decide) [some (.ref x), some (.int 6), some (.int a), some (.int b), some (.int c)] rfl rfl (Nat.le_of_ble_eq_true rfl) (fun X hX => ?_)
  obtain ⟨S, ⟨hs, ad, hr, hV⟩, hR⟩ := id hS
  have hl : V.1.length ≤ 6 := hw.1
  have hday : V.2.1 2 ≤ 369600 := by have := hw.2.2.2.2.1; omega
  have hdu : V.2.1 3 + ds V.2.2 0 12 ≤ 46200020 := by have := hw.2.2.2.2.2.1; omega
  refine r_iload_n hX dX7_carryOut_0 rfl ?_
  refine r_tableIn (off := 162) (tgt := 163) hX dX7_carryOut_1 (by decide) (by decide) (by decide) (by decide) ?_
  refine r_iload_n hX dX7_carryOut_163 rfl ?_
  refine r_callS hX dX7_carryOut_164 (s_X7_isRate E g m a) ml_X7_168 rfl rfl ⟨Nat.le_of_ble_eq_true rfl, Nat.le_of_ble_eq_true rfl⟩ ⟨Nat.le_of_ble_eq_true rfl, Nat.le_of_ble_eq_true rfl, rfl, Nat.le_of_ble_eq_true rfl⟩ (fun v164 g164 m164 hp => ?_)
  obtain ⟨hv, hg, hm⟩ := hp
  subst v164
  subst g164
  subst m164
  refine r_if_ne (tgt := 172) hX dX7_carryOut_167 (by decide) (fun c167 => ?_) (fun c167 => ?_)
  · have hrg : rng a 0 9 := Classical.byContradiction (fun h => c167 (by rw [if_neg h]))
    obtain ⟨r9, -, -, rfl, hr9⟩ := rng_to hrg (by decide) (by decide)
    refine r_aload_n hX dX7_carryOut_172 rfl ?_
    refine r_getR hX dX7_carryOut_173 hx fl_X7_10 hq ?_
    refine r_iload_n hX dX7_carryOut_176 rfl ?_
    refine r_putI hX dX7_carryOut_177 hs.1 fl_X7_173 ?_
    obtain ⟨hS2, -, -, hO2⟩ := sky_wH (g := g) (k := 4) (v := nI r9) hs hr hV
    refine r_iconst (v := 1) hX dX7_carryOut_180 (by decide) ?_
    exact r_zret hX dX7_carryOut_181 rfl (pC_ok ⟨_, hS2, hR.hdE (by decide)⟩ hO2 (by unfold cRate; rw [if_neg (not_not_intro hrg), hr9]; rfl)) ⟨Nat.le_of_ble_eq_true rfl, Nat.le_of_ble_eq_true rfl⟩
  · refine r_iconst (v := 0) hX dX7_carryOut_170 (by decide) ?_
    exact r_zret hX dX7_carryOut_171 rfl (pC_no hS (k := 1) (if_pos (fun h => absurd c167 (by rw [if_pos h]; decide)))) ⟨Nat.le_of_ble_eq_true rfl, Nat.le_of_ble_eq_true rfl⟩
set_option maxRecDepth 20000 in
theorem s_X7_carryOut (E : qE) (g : qG) (m : qM) (x : Nat) (V : kV) (hx : gAt g x (.inl 10)) (hq : qR m x 0 = some (x + 1)) (hS : SkyQ g m (x + 1) V) (u : Nat) (hw : WfV u V) (hu : u ≤ 6160) (k : Nat) (hk : k < 7) (a b c : Int32) : Sp E yX7_carryOut cX7_carryOut 5 (some .boolean) 6 0 0 [.ref x, .int (nI k), .int a, .int b, .int c] g m (pC x g m (cCmd V k a b c)) := by
  obtain rfl | rfl | rfl | rfl | rfl | rfl | rfl : k = 0 ∨ k = 1 ∨ k = 2 ∨ k = 3 ∨ k = 4 ∨ k = 5 ∨ k = 6 := by omega
  · rw [cCmd0 V a b c]; exact s_X7_car0 E g m x V hx hq hS u hw hu a b c
  · rw [cCmd1 V a b c]; exact s_X7_car1 E g m x V hx hq hS u hw hu a b c
  · rw [cCmd2 V a b c]; exact s_X7_car2 E g m x V hx hq hS u hw hu a b c
  · rw [cCmd3 V a b c]; exact s_X7_car3 E g m x V hx hq hS u hw hu a b c
  · rw [cCmd4 V a b c]; exact s_X7_car4 E g m x V hx hq hS u hw hu a b c
  · rw [cCmd5 V a b c]; exact s_X7_car5 E g m x V hx hq hS u hw hu a b c
  · rw [cCmd6 V a b c]; exact s_X7_car6 E g m x V hx hq hS u hw hu a b c
