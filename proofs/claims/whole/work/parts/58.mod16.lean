/-! ===== CometObservatoryModel: the best plans ===== -/
def mWor (O : kO) (d : Int32) : kR := if rng d 0 60 then (0, nI (if d.toNatClampNeg = 0 then 0 else (plM O.1.1 (O.1.2.1 2) d.toNatClampNeg d.toNatClampNeg 1).1), O) else (1, 0, O)
def mFew (O : kO) (d : Int32) : kR := if rng d 0 60 then (0, nI (if d.toNatClampNeg = 0 then 0 else (plM O.1.1 (O.1.2.1 2) d.toNatClampNeg d.toNatClampNeg 1).2), O) else (1, 0, O)
theorem ModV.pl {g : qG} {m m' : qM} {y : Nat} {O : kO} (h : ModV g m y O) (hM : MF (fun a _ => a = y + 2 ∨ a = y + 3) m m') : ModV g m' y O := h.mf hM (fun a j hb hq => by unfold PB at hb; omega)
set_option maxRecDepth 20000 in
set_option maxHeartbeats 4000000 in
theorem s_X8_bestWorth (E : qE) (g : qG) (m : qM) (y : Nat) (O : kO) (hO : ModV g m y O) (u : Nat) (hw : WfO u O) (hu : u ≤ 6144) (d : Int32) : Sp E yX8_bestWorth cX8_bestWorth 2 (some .int) 3 0 0 [.ref y, .int d] g m (fun v g' m' => pU y g m (mWor O d) v g' m' ∧ (rng d 0 60 → 0 < d.toNatClampNeg → qI m' (y + 3) 1 = nI (plM O.1.1 (O.1.2.1 2) d.toNatClampNeg d.toNatClampNeg 1).2)) := by
  refine Sp.of (by decide) [some (.ref y), some (.int d)] rfl rfl (Nat.le_of_ble_eq_true rfl) (fun X hX => ?_)
  refine r_aload_n hX dX8_bestWorth_0 rfl ?_
  refine r_iload_n hX dX8_bestWorth_1 rfl ?_
  refine r_iconst (v := 0) hX dX8_bestWorth_2 (by decide) ?_
  refine r_bipush (v := 60) hX dX8_bestWorth_3 (by decide) ?_
  refine r_callS hX dX8_bestWorth_5 (s_X8_in E g m d 0 60 (by decide) (by decide)) ml_X8_69 rfl rfl ⟨Nat.le_of_ble_eq_true rfl, Nat.le_of_ble_eq_true rfl⟩ ⟨Nat.le_of_ble_eq_true rfl, Nat.le_of_ble_eq_true rfl, rfl, Nat.le_of_ble_eq_true rfl⟩ (fun v5 g5 m5 hp => ?_)
  obtain ⟨hv, hg, hm⟩ := hp
  subst v5
  subst g5
  subst m5
  refine r_callV hX dX8_bestWorth_8 (s_X8_fine E g m y (hO.1.1) (rng d 0 60)) ml_X8_115 rfl rfl hO.1.1.1.1 rfl ⟨Nat.le_of_ble_eq_true rfl, Nat.le_of_ble_eq_true rfl⟩ ⟨Nat.le_of_ble_eq_true rfl, Nat.le_of_ble_eq_true rfl, rfl, Nat.le_of_ble_eq_true rfl⟩ (fun v8 g8 m8 hp => ?_)
  obtain ⟨hv, hg, hm⟩ := hp
  subst v8
  subst g8
  subst m8
  refine r_if_ne (tgt := 16) hX dX8_bestWorth_11 (by decide) (fun c11 => ?_) (fun c11 => ?_)
  · have hn : rng d 0 60 := Classical.byContradiction (fun h => c11 (by rw [if_neg h]))
    obtain ⟨D, -, hD, rfl, hcl⟩ := rng_to hn (by decide) (by decide)
    rw [show (if rng (nI D) 0 60 then (0 : Int32) else 1) = 0 from if_pos hn, hcl]
    refine r_aload_n hX dX8_bestWorth_16 rfl ?_
    refine r_iload_n hX dX8_bestWorth_17 rfl ?_
    refine r_callV hX dX8_bestWorth_18 (s_X8_plans E g _ y (by exact hO.1.1.to rfl) O.1 (by exact (hO.thr 0).2.2) (hw.cF hu) D hD) ml_X8_144 rfl rfl hO.1.1.1.1 rfl ⟨Nat.le_of_ble_eq_true rfl, Nat.le_of_ble_eq_true rfl⟩ ⟨Nat.le_of_ble_eq_true rfl, Nat.le_of_ble_eq_true rfl, rfl, Nat.le_of_ble_eq_true rfl⟩ (fun v18 g18 m18 hp => ?_)
    obtain ⟨hv, hg, hW, hM⟩ := hp
    subst v18
    subst g18
    have hV1 := (hO.thr 0).pl hM
    have hm2 : m18.2 = m.2 := hM.2
    have h00 : qI m18 y 0 = 0 := by rw [hM.1 _ _ (by omega), qI_wI_s]
    have hF : MF (PM y) m m18 := (mf_thr y m 0).tr (hM.mono (fun a j h => ⟨by omega, by omega⟩))
    refine r_iload_n hX dX8_bestWorth_21 rfl ?_
    refine r_if_ne (tgt := 29) hX dX8_bestWorth_22 (by decide) (fun c22 => ?_) (fun c22 => ?_)
    · have h0 : ¬ D = 0 := fun h => c22 (by rw [h]; rfl)
      refine r_aload_n hX dX8_bestWorth_29 rfl ?_
      refine r_getR hX dX8_bestWorth_30 hO.1.1.1.1 fl_X8_13 (hO.1.1.to hm2).2.2.1 ?_
      refine r_iconst (v := 1) hX dX8_bestWorth_33 (by decide) ?_
      refine r_ialoadN hX dX8_bestWorth_34 hO.1.1.1.2.2.1 (show 1 < 62 by decide) (by decide) ?_
      rw [(hW 1 (by decide) (by omega)).1]
      exact r_iret hX dX8_bestWorth_35 ⟨by rw [show mWor O (nI D) = (0, nI (if D = 0 then 0 else (plM O.1.1 (O.1.2.1 2) D D 1).1), O) by unfold mWor; rw [if_pos hn, hcl]]; exact ⟨⟨_, rfl, fun _ => by rw [if_neg h0]⟩, rfl, h00, hV1, hF⟩, fun _ _ => (hW 1 (by decide) (by omega)).2⟩ ⟨Nat.le_of_ble_eq_true rfl, Nat.le_of_ble_eq_true rfl⟩
    · have h0 : D = 0 := (nI_eq (b := 0) (by omega) (by decide)).mp c22
      refine r_iconst (v := 0) hX dX8_bestWorth_25 (by decide) ?_
      refine r_goto (tgt := 35) hX dX8_bestWorth_26 (by decide) ?_
      exact r_iret hX dX8_bestWorth_35 ⟨by rw [show mWor O (nI D) = (0, nI (if D = 0 then 0 else (plM O.1.1 (O.1.2.1 2) D D 1).1), O) by unfold mWor; rw [if_pos hn, hcl]]; exact ⟨⟨_, rfl, fun _ => by rw [if_pos h0]; rfl⟩, rfl, h00, hV1, hF⟩, fun _ h => absurd h (by omega)⟩ ⟨Nat.le_of_ble_eq_true rfl, Nat.le_of_ble_eq_true rfl⟩
  · have hn : ¬ rng d 0 60 := fun h => absurd c11 (by rw [if_pos h]; decide)
    refine r_iconst (v := 0) hX dX8_bestWorth_14 (by decide) ?_
    exact r_iret hX dX8_bestWorth_15 ⟨by rw [show mWor O d = (1, 0, O) from if_neg hn, if_neg hn]; exact hO.no (by decide) rfl, fun h => absurd h hn⟩ ⟨Nat.le_of_ble_eq_true rfl, Nat.le_of_ble_eq_true rfl⟩
set_option maxRecDepth 20000 in
set_option maxHeartbeats 4000000 in
theorem s_X8_bestWorthByDays (E : qE) (g : qG) (m : qM) (y : Nat) (O : kO) (hO : ModV g m y O) (u : Nat) (hw : WfO u O) (hu : u ≤ 6144) (d : Int32) : Sp E yX8_bestWorthByDays cX8_bestWorthByDays 2 (some .int) 4 0 0 [.ref y, .int d] g m (pU y g m (mWor O d)) := by
  refine Sp.of (by decide) [some (.ref y), some (.int d)] rfl rfl (Nat.le_of_ble_eq_true rfl) (fun X hX => ?_)
  have hR := hO.2.2
  refine r_aload_n hX dX8_bestWorthByDays_0 rfl ?_
  refine r_iload_n hX dX8_bestWorthByDays_1 rfl ?_
  refine r_callV hX dX8_bestWorthByDays_2 (s_X8_bestWorth E g m y O hO u hw hu d) ml_X8_147 rfl rfl hO.1.1.1.1 rfl ⟨Nat.le_of_ble_eq_true rfl, Nat.le_of_ble_eq_true rfl⟩ ⟨Nat.le_of_ble_eq_true rfl, Nat.le_of_ble_eq_true rfl, rfl, Nat.le_of_ble_eq_true rfl⟩ (fun v2 g2 m2 hp => ?_)
  obtain ⟨⟨⟨w, hv, hw9⟩, hg, hP⟩, -⟩ := hp
  subst v2
  subst g2
  exact r_iret hX dX8_bestWorthByDays_5 ⟨⟨w, rfl, hw9⟩, rfl, hP⟩ ⟨Nat.le_of_ble_eq_true rfl, Nat.le_of_ble_eq_true rfl⟩
set_option maxRecDepth 20000 in
set_option maxHeartbeats 4000000 in
theorem s_X8_fewestPasses (E : qE) (g : qG) (m : qM) (y : Nat) (O : kO) (hO : ModV g m y O) (u : Nat) (hw : WfO u O) (hu : u ≤ 6144) (d : Int32) : Sp E yX8_fewestPasses cX8_fewestPasses 3 (some .int) 4 0 0 [.ref y, .int d] g m (pU y g m (mFew O d)) := by
  refine Sp.of (by decide) [some (.ref y), some (.int d), none] rfl rfl (Nat.le_of_ble_eq_true rfl) (fun X hX => ?_)
  refine r_aload_n hX dX8_fewestPasses_0 rfl ?_
  refine r_iload_n hX dX8_fewestPasses_1 rfl ?_
  refine r_callV hX dX8_fewestPasses_2 (s_X8_bestWorth E g m y O hO u hw hu d) ml_X8_147 rfl rfl hO.1.1.1.1 rfl ⟨Nat.le_of_ble_eq_true rfl, Nat.le_of_ble_eq_true rfl⟩ ⟨Nat.le_of_ble_eq_true rfl, Nat.le_of_ble_eq_true rfl, rfl, Nat.le_of_ble_eq_true rfl⟩ (fun v2 g2 m2 hp => ?_)
  obtain ⟨⟨⟨w, hv, hw9⟩, hg, h0, hV, hM⟩, hW⟩ := hp
  subst v2
  subst g2
  refine r_istore_n hX dX8_fewestPasses_5 (Nat.le_of_ble_eq_true rfl) rfl ?_
  refine r_aload_n hX dX8_fewestPasses_6 rfl ?_
  refine r_getI hX dX8_fewestPasses_7 hO.1.1.1.1 fl_X8_36 ?_
  rw [h0]
  refine r_if_ne (tgt := 26) hX dX8_fewestPasses_10 (by decide) (fun c10 => ?_) (fun c10 => ?_)
  · have hn : ¬ rng d 0 60 := fun h => absurd (show nI (mWor O d).1 = 0 by unfold mWor; rw [if_pos h]; rfl) c10
    rw [show mWor O d = (1, 0, O) from if_neg hn] at h0 hV
    refine r_iconst (v := 0) hX dX8_fewestPasses_26 (by decide) ?_
    exact r_iret hX dX8_fewestPasses_27 (by rw [show mFew O d = (1, 0, O) from if_neg hn]; exact ⟨⟨0, rfl, fun _ => rfl⟩, rfl, h0, hV, hM⟩) ⟨Nat.le_of_ble_eq_true rfl, Nat.le_of_ble_eq_true rfl⟩
  · have hn : rng d 0 60 := Classical.byContradiction (fun h => absurd c10 (by unfold mWor; rw [if_neg h]; show ¬ nI 1 = 0; decide))
    obtain ⟨D, -, hD, rfl, hcl⟩ := rng_to hn (by decide) (by decide)
    rw [show mWor O (nI D) = (0, nI (if D = 0 then 0 else (plM O.1.1 (O.1.2.1 2) D D 1).1), O) by unfold mWor; rw [if_pos hn, hcl]] at h0 hV
    have hW := hW hn
    rw [hcl] at hW
    have eR : mFew O (nI D) = (0, nI (if D = 0 then 0 else (plM O.1.1 (O.1.2.1 2) D D 1).2), O) := by unfold mFew; rw [if_pos hn, hcl]
    refine r_iload_n hX dX8_fewestPasses_13 rfl ?_
    refine r_if_le (tgt := 26) hX dX8_fewestPasses_14 (by decide) (fun c14 => ?_) (fun c14 => ?_)
    · have hd0 : D = 0 := Classical.byContradiction (fun h => nI_nle (by omega) (by omega) c14)
      refine r_iconst (v := 0) hX dX8_fewestPasses_26 (by decide) ?_
      exact r_iret hX dX8_fewestPasses_27 (by rw [eR]; exact ⟨⟨0, rfl, fun _ => by rw [if_pos hd0]; rfl⟩, rfl, h0, hV, hM⟩) ⟨Nat.le_of_ble_eq_true rfl, Nat.le_of_ble_eq_true rfl⟩
    · have hd0 : 0 < D := Nat.pos_of_ne_zero (fun h => c14 (by rw [h]; decide))
      refine r_aload_n hX dX8_fewestPasses_17 rfl ?_
      refine r_getR hX dX8_fewestPasses_18 hO.1.1.1.1 fl_X8_16 hV.1.1.2.2.2.1 ?_
      refine r_iconst (v := 1) hX dX8_fewestPasses_21 (by decide) ?_
      refine r_ialoadN hX dX8_fewestPasses_22 hO.1.1.1.2.2.2.1 (show 1 < 62 by decide) (by decide) ?_
      rw [hW hd0]
      refine r_goto (tgt := 27) hX dX8_fewestPasses_23 (by decide) ?_
      exact r_iret hX dX8_fewestPasses_27 (by rw [eR]; exact ⟨⟨_, rfl, fun _ => by rw [if_neg (by omega)]⟩, rfl, h0, hV, hM⟩) ⟨Nat.le_of_ble_eq_true rfl, Nat.le_of_ble_eq_true rfl⟩
