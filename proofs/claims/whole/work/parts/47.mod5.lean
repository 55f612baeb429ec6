/-! ===== CometObservatoryModel: drops, turns, shines, cleans, rates ===== -/
set_option maxRecDepth 20000 in
set_option maxHeartbeats 4000000 in
theorem s_X8_drops (E : qE) (g : qG) (m : qM) (y : Nat) (hs : ModS g m y) (V : kV) (hR : RepF (rowF m y 0) V) (u : Nat) (hw : WfV u V) (hu : u ≤ 10000) (x : Int32) : Sp E yX8_drops cX8_drops 2 (some .int) 3 0 0 [.ref y, .int x] g m (pM y g m (cDrop V x)) := by
  refine Sp.of (by decide) [some (.ref y), some (.int x)] rfl rfl (Nat.le_of_ble_eq_true rfl) (fun X hX => ?_)
  refine r_aload_n hX dX8_drops_0 rfl ?_
  refine r_iload_n hX dX8_drops_1 rfl ?_
  refine r_callV hX dX8_drops_2 (s_X8_isThere E g m y hs x V hR hw.1) ml_X8_84 rfl rfl hs.1.1 rfl ⟨Nat.le_of_ble_eq_true rfl, Nat.le_of_ble_eq_true rfl⟩ ⟨Nat.le_of_ble_eq_true rfl, Nat.le_of_ble_eq_true rfl, rfl, Nat.le_of_ble_eq_true rfl⟩ (fun v2 g2 m2 hp => ?_)
  obtain ⟨hv, hg, hm⟩ := hp
  subst v2
  subst g2
  subst m2
  refine r_if_ne (tgt := 10) hX dX8_drops_5 (by decide) (fun c5 => ?_) (fun c5 => ?_)
  · obtain ⟨i, hi⟩ : ∃ i, plV V.1 x = some i := by
      cases hq : plV V.1 x with
      | none => exact absurd (show (if (none : Option Nat).isSome = true then (1 : Int32) else 0) = 0 from rfl) (by rw [← hq]; exact c5)
      | some i => exact ⟨i, rfl⟩
    have hil := (plV_lt hi).1
    have hl6 := hw.1
    refine r_aload_n hX dX8_drops_10 rfl ?_
    refine r_getR hX dX8_drops_11 hs.1.1 fl_X8_9 hs.2.1 ?_
    refine r_iconst (v := 3) hX dX8_drops_14 (by decide) ?_
    refine r_dup2 hX dX8_drops_15 rfl rfl ?_
    refine r_ialoadN hX dX8_drops_16 hs.1.2.1 (show 3 < 539 by decide) (by decide) ?_
    rw [hR.rH (k := 3) (by decide) (by decide)]
    refine r_aload_n hX dX8_drops_17 rfl ?_
    refine r_aload_n hX dX8_drops_18 rfl ?_
    refine r_iload_n hX dX8_drops_19 rfl ?_
    refine r_callV hX dX8_drops_20 (s_X8_place E g m y hs x V hR hw.1) ml_X8_53 rfl rfl hs.1.1 rfl ⟨Nat.le_of_ble_eq_true rfl, Nat.le_of_ble_eq_true rfl⟩ ⟨Nat.le_of_ble_eq_true rfl, Nat.le_of_ble_eq_true rfl, rfl, Nat.le_of_ble_eq_true rfl⟩ (fun v20 g20 m20 hp => ?_)
    obtain ⟨hv, hg, hm⟩ := hp
    subst v20
    subst g20
    subst m20
    rw [show plV _ x = some i from hi]
    refine r_iconst (v := 2) hX dX8_drops_23 (by decide) ?_
    refine r_callV hX dX8_drops_24 (s_X8_c E g m y hs i 2 (by omega)) ml_X8_49 rfl rfl hs.1.1 rfl ⟨Nat.le_of_ble_eq_true rfl, Nat.le_of_ble_eq_true rfl⟩ ⟨Nat.le_of_ble_eq_true rfl, Nat.le_of_ble_eq_true rfl, rfl, Nat.le_of_ble_eq_true rfl⟩ (fun v24 g24 m24 hp => ?_)
    obtain ⟨hv, hg, hm⟩ := hp
    subst v24
    subst g24
    subst m24
    rw [hR.rC hil (by decide)]
    refine r_iadd hX dX8_drops_27 ?_
    rw [nI_add]
    refine r_iastoreN hX dX8_drops_28 hs.1.2.1 (show 3 < 539 by decide) (by decide) ?_
    have hR1 := hR.wH (k := 3) (v := V.2.1 3 + cAt V.1 i 2) (by decide)
    refine r_aload_n hX dX8_drops_29 rfl ?_
    refine r_aload_n hX dX8_drops_30 rfl ?_
    refine r_iload_n hX dX8_drops_31 rfl ?_
    refine r_callV hX dX8_drops_32 (s_X8_place E g _ y (by exact hs.to rfl) x (V.1, updH V.2.1 3 (V.2.1 3 + cAt V.1 i 2), V.2.2) (by exact hR1) hw.1) ml_X8_53 rfl rfl hs.1.1 rfl ⟨Nat.le_of_ble_eq_true rfl, Nat.le_of_ble_eq_true rfl⟩ ⟨Nat.le_of_ble_eq_true rfl, Nat.le_of_ble_eq_true rfl, rfl, Nat.le_of_ble_eq_true rfl⟩ (fun v32 g32 m32 hp => ?_)
    obtain ⟨hv, hg, hm⟩ := hp
    subst v32
    subst g32
    subst m32
    rw [show plV _ x = some i from hi]
    refine r_callV hX dX8_drops_35 (s_X8_goes E g _ y (by exact hs.to rfl) (V.1, updH V.2.1 3 (V.2.1 3 + cAt V.1 i 2), V.2.2) (by exact hR1) hw.1 i hil) ml_X8_65 rfl rfl hs.1.1 rfl ⟨Nat.le_of_ble_eq_true rfl, Nat.le_of_ble_eq_true rfl⟩ ⟨Nat.le_of_ble_eq_true rfl, Nat.le_of_ble_eq_true rfl, rfl, Nat.le_of_ble_eq_true rfl⟩ (fun v35 g35 m35 hp => ?_)
    obtain ⟨hv, hg, hR2, hM2⟩ := hp
    subst v35
    subst g35
    have hM3 := ((MF.rf (P0 y) m).wI (a := y + 1) (k := 3) (v := nI (V.2.1 3 + cAt V.1 i 2)) (Or.inl ⟨rfl, by decide⟩)).tr (PR_0 hM2)
    refine r_aload_n hX dX8_drops_38 rfl ?_
    refine r_aload_n hX dX8_drops_39 rfl ?_
    refine r_getR hX dX8_drops_40 hs.1.1 fl_X8_9 (hs.to hM3.2).2.1 ?_
    refine r_iconst (v := 3) hX dX8_drops_43 (by decide) ?_
    refine r_ialoadN hX dX8_drops_44 hs.1.2.1 (show 3 < 539 by decide) (by decide) ?_
    rw [hR2.rH (k := 3) (by decide) (by decide)]
    refine r_putI hX dX8_drops_45 hs.1.1 fl_X8_46 ?_
    refine r_iconst (v := 0) hX dX8_drops_48 (by decide) ?_
    have eR : cDrop V x = (0, nI (V.2.1 3 + cAt V.1 i 2), dropV V i) := cDrop_s hi
    exact r_iret hX dX8_drops_49 (by rw [eR]; exact pM.yes hR2.w4 (by rw [qI_wI, if_pos ⟨rfl, rfl⟩]; rfl) (hM3.wI (Or.inr ⟨rfl, rfl⟩))) ⟨Nat.le_of_ble_eq_true rfl, Nat.le_of_ble_eq_true rfl⟩
  · have hq : plV V.1 x = none := by
      cases hq : plV V.1 x with
      | none => rfl
      | some i => exact absurd c5 (by rw [hq]; show ¬ (1 : Int32) = 0; decide)
    have eR : cDrop V x = (1, 0, V) := cDrop_n hq
    refine r_iconst (v := 1) hX dX8_drops_8 (by decide) ?_
    exact r_iret hX dX8_drops_9 (by rw [eR]; exact pM.no hR (by decide) rfl) ⟨Nat.le_of_ble_eq_true rfl, Nat.le_of_ble_eq_true rfl⟩
set_option maxRecDepth 20000 in
set_option maxHeartbeats 4000000 in
theorem s_X8_turns (E : qE) (g : qG) (m : qM) (y : Nat) (hs : ModS g m y) (V : kV) (hR : RepF (rowF m y 0) V) (u : Nat) (hw : WfV u V) (hu : u ≤ 10000) (x p : Int32) : Sp E yX8_turns cX8_turns 3 (some .int) 3 0 0 [.ref y, .int x, .int p] g m (pM y g m (cTurn V x p)) := by
  refine Sp.of (by decide) [some (.ref y), some (.int x), some (.int p)] rfl rfl (Nat.le_of_ble_eq_true rfl) (fun X hX => ?_)
  refine r_aload_n hX dX8_turns_0 rfl ?_
  refine r_iload_n hX dX8_turns_1 rfl ?_
  refine r_callV hX dX8_turns_2 (s_X8_isThere E g m y hs x V hR hw.1) ml_X8_84 rfl rfl hs.1.1 rfl ⟨Nat.le_of_ble_eq_true rfl, Nat.le_of_ble_eq_true rfl⟩ ⟨Nat.le_of_ble_eq_true rfl, Nat.le_of_ble_eq_true rfl, rfl, Nat.le_of_ble_eq_true rfl⟩ (fun v2 g2 m2 hp => ?_)
  obtain ⟨hv, hg, hm⟩ := hp
  subst v2
  subst g2
  subst m2
  refine r_if_ne (tgt := 10) hX dX8_turns_5 (by decide) (fun c5 => ?_) (fun c5 => ?_)
  · obtain ⟨i, hi⟩ : ∃ i, plV V.1 x = some i := by
      cases hq : plV V.1 x with
      | none => exact absurd (show (if (none : Option Nat).isSome = true then (1 : Int32) else 0) = 0 from rfl) (by rw [← hq]; exact c5)
      | some i => exact ⟨i, rfl⟩
    have hil := (plV_lt hi).1
    have hl6 := hw.1
    refine r_iload_n hX dX8_turns_10 rfl ?_
    refine r_iconst (v := 2) hX dX8_turns_11 (by decide) ?_
    refine r_bipush (v := 60) hX dX8_turns_12 (by decide) ?_
    refine r_callS hX dX8_turns_14 (s_X8_in E g m p 2 60 (by decide) (by decide)) ml_X8_69 rfl rfl ⟨Nat.le_of_ble_eq_true rfl, Nat.le_of_ble_eq_true rfl⟩ ⟨Nat.le_of_ble_eq_true rfl, Nat.le_of_ble_eq_true rfl, rfl, Nat.le_of_ble_eq_true rfl⟩ (fun v14 g14 m14 hp => ?_)
    obtain ⟨hv, hg, hm⟩ := hp
    subst v14
    subst g14
    subst m14
    refine r_if_ne (tgt := 22) hX dX8_turns_17 (by decide) (fun c17 => ?_) (fun c17 => ?_)
    · have hn : rng p 2 60 := Classical.byContradiction (fun h => c17 (by rw [if_neg h]))
      obtain ⟨p9, -, -, rfl, hp9⟩ := rng_to hn (by decide) (by decide)
      refine r_aload_n hX dX8_turns_22 rfl ?_
      refine r_aload_n hX dX8_turns_23 rfl ?_
      refine r_aload_n hX dX8_turns_24 rfl ?_
      refine r_iload_n hX dX8_turns_25 rfl ?_
      refine r_callV hX dX8_turns_26 (s_X8_place E g m y hs x V hR hw.1) ml_X8_53 rfl rfl hs.1.1 rfl ⟨Nat.le_of_ble_eq_true rfl, Nat.le_of_ble_eq_true rfl⟩ ⟨Nat.le_of_ble_eq_true rfl, Nat.le_of_ble_eq_true rfl, rfl, Nat.le_of_ble_eq_true rfl⟩ (fun v26 g26 m26 hp => ?_)
      obtain ⟨hv, hg, hm⟩ := hp
      subst v26
      subst g26
      subst m26
      rw [show plV _ x = some i from hi]
      refine r_iconst (v := 1) hX dX8_turns_29 (by decide) ?_
      refine r_callV hX dX8_turns_30 (s_X8_c E g m y hs i 1 (by omega)) ml_X8_49 rfl rfl hs.1.1 rfl ⟨Nat.le_of_ble_eq_true rfl, Nat.le_of_ble_eq_true rfl⟩ ⟨Nat.le_of_ble_eq_true rfl, Nat.le_of_ble_eq_true rfl, rfl, Nat.le_of_ble_eq_true rfl⟩ (fun v30 g30 m30 hp => ?_)
      obtain ⟨hv, hg, hm⟩ := hp
      subst v30
      subst g30
      subst m30
      rw [hR.rC hil (by decide)]
      refine r_putI hX dX8_turns_33 hs.1.1 fl_X8_46 ?_
      refine r_aload_n hX dX8_turns_36 rfl ?_
      refine r_aload_n hX dX8_turns_37 rfl ?_
      refine r_iload_n hX dX8_turns_38 rfl ?_
      refine r_callV hX dX8_turns_39 (s_X8_place E g _ y (by exact hs.to rfl) x V hR.w4 hw.1) ml_X8_53 rfl rfl hs.1.1 rfl ⟨Nat.le_of_ble_eq_true rfl, Nat.le_of_ble_eq_true rfl⟩ ⟨Nat.le_of_ble_eq_true rfl, Nat.le_of_ble_eq_true rfl, rfl, Nat.le_of_ble_eq_true rfl⟩ (fun v39 g39 m39 hp => ?_)
      obtain ⟨hv, hg, hm⟩ := hp
      subst v39
      subst g39
      subst m39
      rw [show plV _ x = some i from hi]
      refine r_iconst (v := 1) hX dX8_turns_42 (by decide) ?_
      refine r_iload_n hX dX8_turns_43 rfl ?_
      refine r_callV hX dX8_turns_44 (s_X8_set E g _ y (by exact hs.to rfl) i 1 (by omega) (nI p9)) ml_X8_57 rfl rfl hs.1.1 rfl ⟨Nat.le_of_ble_eq_true rfl, Nat.le_of_ble_eq_true rfl⟩ ⟨Nat.le_of_ble_eq_true rfl, Nat.le_of_ble_eq_true rfl, rfl, Nat.le_of_ble_eq_true rfl⟩ (fun v44 g44 m44 hp => ?_)
      obtain ⟨hv, hg, hm⟩ := hp
      subst v44
      subst g44
      subst m44
      refine r_iconst (v := 0) hX dX8_turns_47 (by decide) ?_
      have eR : cTurn V x (nI p9) = (0, nI (cAt V.1 i 1), turnV V i p9) := by rw [cTurn_s hi, if_neg (not_not_intro hn), hp9]
      exact r_iret hX dX8_turns_48 (by rw [eR]; exact pM.yes (hR.w4.wC hil (by decide) hl6) (by rw [qI_wI, if_neg (by omega), qI_wI, if_pos ⟨rfl, rfl⟩]) (((MF.rf _ _).wI (Or.inr ⟨rfl, rfl⟩)).wI (Or.inl ⟨rfl, by omega⟩))) ⟨Nat.le_of_ble_eq_true rfl, Nat.le_of_ble_eq_true rfl⟩
    · have hn : ¬ rng p 2 60 := fun h => absurd c17 (by rw [if_pos h]; decide)
      have eR : cTurn V x p = (2, 0, V) := by rw [cTurn_s hi, if_pos hn]
      refine r_iconst (v := 2) hX dX8_turns_20 (by decide) ?_
      exact r_iret hX dX8_turns_21 (by rw [eR]; exact pM.no hR (by decide) rfl) ⟨Nat.le_of_ble_eq_true rfl, Nat.le_of_ble_eq_true rfl⟩
  · have hq : plV V.1 x = none := by
      cases hq : plV V.1 x with
      | none => rfl
      | some i => exact absurd c5 (by rw [hq]; show ¬ (1 : Int32) = 0; decide)
    have eR : cTurn V x p = (1, 0, V) := cTurn_n hq
    refine r_iconst (v := 1) hX dX8_turns_8 (by decide) ?_
    exact r_iret hX dX8_turns_9 (by rw [eR]; exact pM.no hR (by decide) rfl) ⟨Nat.le_of_ble_eq_true rfl, Nat.le_of_ble_eq_true rfl⟩
set_option maxRecDepth 20000 in
set_option maxHeartbeats 4000000 in
theorem s_X8_shines (E : qE) (g : qG) (m : qM) (y : Nat) (hs : ModS g m y) (V : kV) (hR : RepF (rowF m y 0) V) (u : Nat) (hw : WfV u V) (hu : u ≤ 10000) (x a : Int32) : Sp E yX8_shines cX8_shines 4 (some .int) 3 0 0 [.ref y, .int x, .int a] g m (pM y g m (cShine V x a)) := by
  refine Sp.of (by decide) [some (.ref y), some (.int x), some (.int a), none] rfl rfl (Nat.le_of_ble_eq_true rfl) (fun X hX => ?_)
  refine r_aload_n hX dX8_shines_0 rfl ?_
  refine r_iload_n hX dX8_shines_1 rfl ?_
  refine r_callV hX dX8_shines_2 (s_X8_isThere E g m y hs x V hR hw.1) ml_X8_84 rfl rfl hs.1.1 rfl ⟨Nat.le_of_ble_eq_true rfl, Nat.le_of_ble_eq_true rfl⟩ ⟨Nat.le_of_ble_eq_true rfl, Nat.le_of_ble_eq_true rfl, rfl, Nat.le_of_ble_eq_true rfl⟩ (fun v2 g2 m2 hp => ?_)
  obtain ⟨hv, hg, hm⟩ := hp
  subst v2
  subst g2
  subst m2
  refine r_if_ne (tgt := 10) hX dX8_shines_5 (by decide) (fun c5 => ?_) (fun c5 => ?_)
  · obtain ⟨i, hi⟩ : ∃ i, plV V.1 x = some i := by
      cases hq : plV V.1 x with
      | none => exact absurd (show (if (none : Option Nat).isSome = true then (1 : Int32) else 0) = 0 from rfl) (by rw [← hq]; exact c5)
      | some i => exact ⟨i, rfl⟩
    have hil := (plV_lt hi).1
    have hl6 := hw.1
    refine r_iload_n hX dX8_shines_10 rfl ?_
    refine r_iconst (v := 1) hX dX8_shines_11 (by decide) ?_
    refine r_bipush (v := 19) hX dX8_shines_12 (by decide) ?_
    refine r_callS hX dX8_shines_14 (s_X8_in E g m a 1 19 (by decide) (by decide)) ml_X8_69 rfl rfl ⟨Nat.le_of_ble_eq_true rfl, Nat.le_of_ble_eq_true rfl⟩ ⟨Nat.le_of_ble_eq_true rfl, Nat.le_of_ble_eq_true rfl, rfl, Nat.le_of_ble_eq_true rfl⟩ (fun v14 g14 m14 hp => ?_)
    obtain ⟨hv, hg, hm⟩ := hp
    subst v14
    subst g14
    subst m14
    refine r_if_ne (tgt := 22) hX dX8_shines_17 (by decide) (fun c17 => ?_) (fun c17 => ?_)
    · have hn : rng a 1 19 := Classical.byContradiction (fun h => c17 (by rw [if_neg h]))
      obtain ⟨a9, ha1, ha2, rfl, ha9⟩ := rng_to hn (by decide) (by decide)
      obtain ⟨w1, w2, w3, w4, w5, w6, w7, w8⟩ := hw.2.1 _ (cAt_mem hil)
      have hk := hw.2.2.2.2.2.1
      refine r_aload_n hX dX8_shines_22 rfl ?_
      refine r_aload_n hX dX8_shines_23 rfl ?_
      refine r_iload_n hX dX8_shines_24 rfl ?_
      refine r_callV hX dX8_shines_25 (s_X8_place E g m y hs x V hR hw.1) ml_X8_53 rfl rfl hs.1.1 rfl ⟨Nat.le_of_ble_eq_true rfl, Nat.le_of_ble_eq_true rfl⟩ ⟨Nat.le_of_ble_eq_true rfl, Nat.le_of_ble_eq_true rfl, rfl, Nat.le_of_ble_eq_true rfl⟩ (fun v25 g25 m25 hp => ?_)
      obtain ⟨hv, hg, hm⟩ := hp
      subst v25
      subst g25
      subst m25
      rw [show plV _ x = some i from hi]
      refine r_iconst (v := 2) hX dX8_shines_28 (by decide) ?_
      refine r_callV hX dX8_shines_29 (s_X8_c E g m y hs i 2 (by omega)) ml_X8_49 rfl rfl hs.1.1 rfl ⟨Nat.le_of_ble_eq_true rfl, Nat.le_of_ble_eq_true rfl⟩ ⟨Nat.le_of_ble_eq_true rfl, Nat.le_of_ble_eq_true rfl, rfl, Nat.le_of_ble_eq_true rfl⟩ (fun v29 g29 m29 hp => ?_)
      obtain ⟨hv, hg, hm⟩ := hp
      subst v29
      subst g29
      subst m29
      rw [hR.rC hil (by decide)]
      refine r_iload_n hX dX8_shines_32 rfl ?_
      refine r_iadd hX dX8_shines_33 ?_
      rw [nI_add]
      refine r_istore_n hX dX8_shines_34 (Nat.le_of_ble_eq_true rfl) rfl ?_
      refine r_iload_n hX dX8_shines_35 rfl ?_
      refine r_bipush (v := 20) hX dX8_shines_36 (by decide) ?_
      refine r_icmp_le (tgt := 43) hX dX8_shines_38 (by decide) (fun c38 => ?_) (fun c38 => ?_)
      · have h20 : ¬ 20 < cAt V.1 i 2 + a9 := Nat.not_lt_of_le ((nI_leI (b := 20) (by omega) (by decide)).mp c38)
        refine r_aload_n hX dX8_shines_43 rfl ?_
        refine r_getR hX dX8_shines_44 hs.1.1 fl_X8_9 hs.2.1 ?_
        refine r_iconst (v := 3) hX dX8_shines_47 (by decide) ?_
        refine r_ialoadN hX dX8_shines_48 hs.1.2.1 (show 3 < 539 by decide) (by decide) ?_
        rw [hR.rH (k := 3) (by decide) (by decide)]
        refine r_iconst (v := 3) hX dX8_shines_49 (by decide) ?_
        refine r_iload_n hX dX8_shines_50 rfl ?_
        refine r_imul hX dX8_shines_51 ?_
        rw [show (3 : Int32) * nI a9 = nI (3 * a9) from pk_mul 3 a9]
        refine r_icmp_ge (tgt := 57) hX dX8_shines_52 (by decide) (fun c52 => ?_) (fun c52 => ?_)
        · have h3 : 3 * a9 ≤ V.2.1 3 := (nI_leI (by omega) (by omega)).mp c52
          refine r_aload_n hX dX8_shines_57 rfl ?_
          refine r_getR hX dX8_shines_58 hs.1.1 fl_X8_9 hs.2.1 ?_
          refine r_iconst (v := 3) hX dX8_shines_61 (by decide) ?_
          refine r_dup2 hX dX8_shines_62 rfl rfl ?_
          refine r_ialoadN hX dX8_shines_63 hs.1.2.1 (show 3 < 539 by decide) (by decide) ?_
          rw [hR.rH (k := 3) (by decide) (by decide)]
          refine r_iconst (v := 3) hX dX8_shines_64 (by decide) ?_
          refine r_iload_n hX dX8_shines_65 rfl ?_
          refine r_imul hX dX8_shines_66 ?_
          rw [show (3 : Int32) * nI a9 = nI (3 * a9) from pk_mul 3 a9]
          refine r_isub hX dX8_shines_67 ?_
          rw [show nI (V.2.1 3) - nI (3 * a9) = nI (V.2.1 3 - 3 * a9) from pk_sub h3]
          refine r_iastoreN hX dX8_shines_68 hs.1.2.1 (show 3 < 539 by decide) (by decide) ?_
          have hR1 := hR.wH (k := 3) (v := V.2.1 3 - 3 * a9) (by decide)
          refine r_aload_n hX dX8_shines_69 rfl ?_
          refine r_aload_n hX dX8_shines_70 rfl ?_
          refine r_iload_n hX dX8_shines_71 rfl ?_
          refine r_callV hX dX8_shines_72 (s_X8_place E g _ y (by exact hs.to rfl) x (V.1, updH V.2.1 3 (V.2.1 3 - 3 * a9), V.2.2) (by exact hR1) hw.1) ml_X8_53 rfl rfl hs.1.1 rfl ⟨Nat.le_of_ble_eq_true rfl, Nat.le_of_ble_eq_true rfl⟩ ⟨Nat.le_of_ble_eq_true rfl, Nat.le_of_ble_eq_true rfl, rfl, Nat.le_of_ble_eq_true rfl⟩ (fun v72 g72 m72 hp => ?_)
          obtain ⟨hv, hg, hm⟩ := hp
          subst v72
          subst g72
          subst m72
          rw [show plV _ x = some i from hi]
          refine r_iconst (v := 2) hX dX8_shines_75 (by decide) ?_
          refine r_iload_n hX dX8_shines_76 rfl ?_
          refine r_callV hX dX8_shines_77 (s_X8_set E g _ y (by exact hs.to rfl) i 2 (by omega) (nI (cAt V.1 i 2 + a9))) ml_X8_57 rfl rfl hs.1.1 rfl ⟨Nat.le_of_ble_eq_true rfl, Nat.le_of_ble_eq_true rfl⟩ ⟨Nat.le_of_ble_eq_true rfl, Nat.le_of_ble_eq_true rfl, rfl, Nat.le_of_ble_eq_true rfl⟩ (fun v77 g77 m77 hp => ?_)
          obtain ⟨hv, hg, hm⟩ := hp
          subst v77
          subst g77
          subst m77
          refine r_aload_n hX dX8_shines_80 rfl ?_
          refine r_iload_n hX dX8_shines_81 rfl ?_
          refine r_putI hX dX8_shines_82 hs.1.1 fl_X8_46 ?_
          refine r_iconst (v := 0) hX dX8_shines_85 (by decide) ?_
          have eR : cShine V x (nI a9) = (0, nI (cAt V.1 i 2 + a9), shineV V i a9) := by rw [cShine_s hi, if_neg (not_not_intro hn), ha9, if_neg h20, if_neg (Nat.not_lt_of_le h3)]
          exact r_iret hX dX8_shines_86 (by rw [eR]; exact pM.yes (hR1.wC (i := i) hil (by decide) hl6).w4 (by rw [qI_wI, if_pos ⟨rfl, rfl⟩]) ((((MF.rf _ _).wI (Or.inl ⟨rfl, by decide⟩)).wI (Or.inl ⟨rfl, by omega⟩)).wI (Or.inr ⟨rfl, rfl⟩))) ⟨Nat.le_of_ble_eq_true rfl, Nat.le_of_ble_eq_true rfl⟩
        · have h3 : V.2.1 3 < 3 * a9 := Nat.lt_of_not_le (fun h => c52 ((nI_leI (by omega) (by omega)).mpr h))
          have eR : cShine V x (nI a9) = (4, 0, V) := by rw [cShine_s hi, if_neg (not_not_intro hn), ha9, if_neg h20, if_pos h3]
          refine r_iconst (v := 4) hX dX8_shines_55 (by decide) ?_
          exact r_iret hX dX8_shines_56 (by rw [eR]; exact pM.no hR (by decide) rfl) ⟨Nat.le_of_ble_eq_true rfl, Nat.le_of_ble_eq_true rfl⟩
      · have h20 : 20 < cAt V.1 i 2 + a9 := Nat.lt_of_not_le (fun h => c38 ((nI_leI (b := 20) (by omega) (by decide)).mpr h))
        have eR : cShine V x (nI a9) = (3, 0, V) := by rw [cShine_s hi, if_neg (not_not_intro hn), ha9, if_pos h20]
        refine r_iconst (v := 3) hX dX8_shines_41 (by decide) ?_
        exact r_iret hX dX8_shines_42 (by rw [eR]; exact pM.no hR (by decide) rfl) ⟨Nat.le_of_ble_eq_true rfl, Nat.le_of_ble_eq_true rfl⟩
    · have hn : ¬ rng a 1 19 := fun h => absurd c17 (by rw [if_pos h]; decide)
      have eR : cShine V x a = (2, 0, V) := by rw [cShine_s hi, if_pos hn]
      refine r_iconst (v := 2) hX dX8_shines_20 (by decide) ?_
      exact r_iret hX dX8_shines_21 (by rw [eR]; exact pM.no hR (by decide) rfl) ⟨Nat.le_of_ble_eq_true rfl, Nat.le_of_ble_eq_true rfl⟩
  · have hq : plV V.1 x = none := by
      cases hq : plV V.1 x with
      | none => rfl
      | some i => exact absurd c5 (by rw [hq]; show ¬ (1 : Int32) = 0; decide)
    have eR : cShine V x a = (1, 0, V) := cShine_n hq
    refine r_iconst (v := 1) hX dX8_shines_8 (by decide) ?_
    exact r_iret hX dX8_shines_9 (by rw [eR]; exact pM.no hR (by decide) rfl) ⟨Nat.le_of_ble_eq_true rfl, Nat.le_of_ble_eq_true rfl⟩
set_option maxRecDepth 20000 in
set_option maxHeartbeats 4000000 in
theorem s_X8_dustOf_l {E : qE} {X : qX} {Q : State → Prop} {g : qG} {m : qM} (hX : MC E yX8_dustOf cX8_dustOf 5 (some .int) 0 0 0 [] X) {y : Nat} (hs : ModS g m y) {V : kV} (hR : RepF (rowF m y 0) V) {a b : Nat} (ha : a < 2 ^ 30) (hb : b < 2 ^ 30) : ∀ (n k : Nat), k + n = b → (∀ j : Int32, WS E X 0 0 Q g m 35 [some (.ref y), some (.int (nI a)), some (.int (nI b)), some (.int (nI (ds V.2.2 a b))), some (.int j)] []) → WS E X 0 0 Q g m 5 [some (.ref y), some (.int (nI a)), some (.int (nI b)), some (.int (nI (ds V.2.2 a k))), some (.int (nI k))] [] := by
  intro n
  induction n with
  | zero =>
    intro k hk K
    have hib : k = b := by omega
    subst hib
    refine r_iload hX dX8_dustOf_5 rfl ?_
    refine r_iload_n hX dX8_dustOf_7 rfl ?_
    refine r_icmp_ge (tgt := 35) hX dX8_dustOf_8 (by decide) (fun c8 => ?_) (fun c8 => ?_)
    · exact K _
    · exact absurd (Int32.le_refl _) c8
  | succ n ih =>
    intro k hk K
    have hm : (a + k) % 12 < 12 := Nat.mod_lt _ (by decide)
    refine r_iload hX dX8_dustOf_5 rfl ?_
    refine r_iload_n hX dX8_dustOf_7 rfl ?_
    refine r_icmp_ge (tgt := 35) hX dX8_dustOf_8 (by decide) (fun c8 => ?_) (fun c8 => ?_)
    · exact absurd c8 (nI_ge (by omega) (by omega))
    · refine r_iload_n hX dX8_dustOf_11 rfl ?_
      refine r_aload_n hX dX8_dustOf_12 rfl ?_
      refine r_getR hX dX8_dustOf_13 hs.1.1 fl_X8_9 hs.2.1 ?_
      refine r_bipush (v := 37) hX dX8_dustOf_16 (by decide) ?_
      refine r_iload_n hX dX8_dustOf_18 rfl ?_
      refine r_iload hX dX8_dustOf_19 rfl ?_
      refine r_iadd hX dX8_dustOf_21 ?_
      rw [nI_add]
      refine r_bipush (v := 12) hX dX8_dustOf_22 (by decide) ?_
      refine r_irem hX dX8_dustOf_24 (by decide) ?_
      rw [show nI (a + k) - nI (a + k) / 12 * 12 = nI ((a + k) % 12) from pk_rem (d := 12) (by omega) (by decide) (by decide)]
      refine r_iadd hX dX8_dustOf_25 ?_
      rw [show (37 : Int32) + nI ((a + k) % 12) = nI (37 + (a + k) % 12) from nI_add 37 _]
      refine r_ialoadN hX dX8_dustOf_26 hs.1.2.1 (show 37 + (a + k) % 12 < 539 by omega) (by decide) ?_
      rw [hR.rD hm]
      refine r_iadd hX dX8_dustOf_27 ?_
      rw [nI_add]
      refine r_istore_n hX dX8_dustOf_28 (Nat.le_of_ble_eq_true rfl) rfl ?_
      refine r_iinc (v := nI (k + 1)) hX dX8_dustOf_29 rfl (ii1 k) rfl ?_
      refine r_goto (tgt := 5) hX dX8_dustOf_32 (by decide) ?_
      exact ih (k + 1) (by omega) K
set_option maxRecDepth 20000 in
set_option maxHeartbeats 4000000 in
theorem s_X8_dustOf (E : qE) (g : qG) (m : qM) (y : Nat) (hs : ModS g m y) (V : kV) (hR : RepF (rowF m y 0) V) (a b : Nat) (ha : a < 2 ^ 30) (hb : b < 2 ^ 30) : Sp E yX8_dustOf cX8_dustOf 5 (some .int) 0 0 0 [.ref y, .int (nI a), .int (nI b)] g m (fun v g' m' => v = some (.int (nI (ds V.2.2 a b))) ∧ g' = g ∧ m' = m) := by
  refine Sp.of (by decide) [some (.ref y), some (.int (nI a)), some (.int (nI b)), none, none] rfl rfl (Nat.le_of_ble_eq_true rfl) (fun X hX => ?_)
  refine r_iconst (v := 0) hX dX8_dustOf_0 (by decide) ?_
  refine r_istore_n hX dX8_dustOf_1 (Nat.le_of_ble_eq_true rfl) rfl ?_
  refine r_iconst (v := 0) hX dX8_dustOf_2 (by decide) ?_
  refine r_istore hX dX8_dustOf_3 (Nat.le_of_ble_eq_true rfl) rfl ?_
  refine s_X8_dustOf_l hX hs hR ha hb b 0 (by omega) (fun j => ?_)
  refine r_iload_n hX dX8_dustOf_35 rfl ?_
  exact r_iret hX dX8_dustOf_36 ⟨rfl, rfl, rfl⟩ ⟨Nat.le_of_ble_eq_true rfl, Nat.le_of_ble_eq_true rfl⟩
set_option maxRecDepth 20000 in
set_option maxHeartbeats 4000000 in
theorem s_X8_cleans_l {E : qE} {X : qX} {Q : State → Prop} {g : qG} {m : qM} (hX : MC E yX8_cleans cX8_cleans 5 (some .int) 1 0 0 [] X) {y : Nat} (hs : ModS g m y) {V : kV} (hl : V.1.length ≤ 6) {a b : Nat} {r : Int32} (ha : a < 2 ^ 30) (hb : b < 2 ^ 30) : ∀ (n k : Nat) (m1 : qM), k + n = b → RepF (rowF m1 y 0) (V.1, V.2.1, fun j => if inArc a k j = true then 0 else V.2.2 j) → MF (P0 y) m m1 → (∀ (j : Int32) (m2 : qM), RepF (rowF m2 y 0) (V.1, V.2.1, fun j => if inArc a b j = true then 0 else V.2.2 j) → MF (P0 y) m m2 → WS E X 0 0 Q g m2 103 [some (.ref y), some (.int (nI a)), some (.int (nI b)), some (.int r), some (.int j)] []) → WS E X 0 0 Q g m1 75 [some (.ref y), some (.int (nI a)), some (.int (nI b)), some (.int r), some (.int (nI k))] [] := by
  intro n
  induction n with
  | zero =>
    intro k m1 hk hR hM K
    have hib : k = b := by omega
    subst hib
    refine r_iload hX dX8_cleans_75 rfl ?_
    refine r_iload_n hX dX8_cleans_77 rfl ?_
    refine r_icmp_ge (tgt := 103) hX dX8_cleans_78 (by decide) (fun c78 => ?_) (fun c78 => ?_)
    · exact K _ m1 hR hM
    · exact absurd (Int32.le_refl _) c78
  | succ n ih =>
    intro k m1 hk hR hM K
    have hm : (a + k) % 12 < 12 := Nat.mod_lt _ (by decide)
    refine r_iload hX dX8_cleans_75 rfl ?_
    refine r_iload_n hX dX8_cleans_77 rfl ?_
    refine r_icmp_ge (tgt := 103) hX dX8_cleans_78 (by decide) (fun c78 => ?_) (fun c78 => ?_)
    · exact absurd c78 (nI_ge (by omega) (by omega))
    · refine r_aload_n hX dX8_cleans_81 rfl ?_
      refine r_getR hX dX8_cleans_82 hs.1.1 fl_X8_9 (hs.to hM.2).2.1 ?_
      refine r_bipush (v := 37) hX dX8_cleans_85 (by decide) ?_
      refine r_iload_n hX dX8_cleans_87 rfl ?_
      refine r_iload hX dX8_cleans_88 rfl ?_
      refine r_iadd hX dX8_cleans_90 ?_
      rw [nI_add]
      refine r_bipush (v := 12) hX dX8_cleans_91 (by decide) ?_
      refine r_irem hX dX8_cleans_93 (by decide) ?_
      rw [show nI (a + k) - nI (a + k) / 12 * 12 = nI ((a + k) % 12) from pk_rem (d := 12) (by omega) (by decide) (by decide)]
      refine r_iadd hX dX8_cleans_94 ?_
      rw [show (37 : Int32) + nI ((a + k) % 12) = nI (37 + (a + k) % 12) from nI_add 37 _]
      refine r_iconst (v := 0) hX dX8_cleans_95 (by decide) ?_
      refine r_iastoreN hX dX8_cleans_96 hs.1.2.1 (show 37 + (a + k) % 12 < 539 by omega) (by decide) ?_
      refine r_iinc (v := nI (k + 1)) hX dX8_cleans_97 rfl (ii1 k) rfl ?_
      refine r_goto (tgt := 75) hX dX8_cleans_100 (by decide) ?_
      refine ih (k + 1) _ (by omega) ((hR.wD (v := 0) hm hl).eq ?_) (hM.wI (Or.inl ⟨rfl, by omega⟩)) K
      refine congr (congrArg Prod.mk rfl) (congr (congrArg Prod.mk rfl) (funext fun j => ?_))
      show (if j = (a + k) % 12 then 0 else if inArc a k j = true then 0 else V.2.2 j) = if inArc a (k + 1) j = true then 0 else V.2.2 j
      rw [inArc_s]
      by_cases h1 : j = (a + k) % 12
      · rw [if_pos h1, if_pos (by rw [h1]; simp)]
      · rw [if_neg h1]
        have : ((a + k) % 12 == j) = false := by simpa using fun h => h1 h.symm
        rw [this, Bool.or_false]
set_option maxRecDepth 20000 in
set_option maxHeartbeats 4000000 in
theorem s_X8_cleans (E : qE) (g : qG) (m : qM) (y : Nat) (hs : ModS g m y) (V : kV) (hR : RepF (rowF m y 0) V) (u : Nat) (hw : WfV u V) (hu : u ≤ 10000) (x n : Int32) : Sp E yX8_cleans cX8_cleans 5 (some .int) 1 0 0 [.ref y, .int x, .int n] g m (pM y g m (cVac V x n)) := by
  refine Sp.of (by decide) [some (.ref y), some (.int x), some (.int n), none, none] rfl rfl (Nat.le_of_ble_eq_true rfl) (fun X hX => ?_)
  refine r_iload_n hX dX8_cleans_0 rfl ?_
  refine r_iconst (v := 0) hX dX8_cleans_1 (by decide) ?_
  refine r_bipush (v := 11) hX dX8_cleans_2 (by decide) ?_
  refine r_callS hX dX8_cleans_4 (s_X8_in E g m x 0 11 (by decide) (by decide)) ml_X8_69 rfl rfl ⟨Nat.le_of_ble_eq_true rfl, Nat.le_of_ble_eq_true rfl⟩ ⟨Nat.le_of_ble_eq_true rfl, Nat.le_of_ble_eq_true rfl, rfl, Nat.le_of_ble_eq_true rfl⟩ (fun v4 g4 m4 hp => ?_)
  obtain ⟨hv, hg, hm⟩ := hp
  subst v4
  subst g4
  subst m4
  refine r_if_ne (tgt := 12) hX dX8_cleans_7 (by decide) (fun c7 => ?_) (fun c7 => ?_)
  · refine r_iload_n hX dX8_cleans_12 rfl ?_
    refine r_iconst (v := 1) hX dX8_cleans_13 (by decide) ?_
    refine r_bipush (v := 12) hX dX8_cleans_14 (by decide) ?_
    refine r_callS hX dX8_cleans_16 (s_X8_in E g m n 1 12 (by decide) (by decide)) ml_X8_69 rfl rfl ⟨Nat.le_of_ble_eq_true rfl, Nat.le_of_ble_eq_true rfl⟩ ⟨Nat.le_of_ble_eq_true rfl, Nat.le_of_ble_eq_true rfl, rfl, Nat.le_of_ble_eq_true rfl⟩ (fun v16 g16 m16 hp => ?_)
    obtain ⟨hv, hg, hm⟩ := hp
    subst v16
    subst g16
    subst m16
    refine r_if_ne (tgt := 24) hX dX8_cleans_19 (by decide) (fun c19 => ?_) (fun c19 => ?_)
    · have hx : rng x 0 11 := Classical.byContradiction (fun h => c7 (by rw [if_neg h]))
      have hn : rng n 1 12 := Classical.byContradiction (fun h => c19 (by rw [if_neg h]))
      obtain ⟨a, -, ha, rfl, ha9⟩ := rng_to hx (by decide) (by decide)
      obtain ⟨b, hb1, hb, rfl, hb9⟩ := rng_to hn (by decide) (by decide)
      have hk := hw.2.2.2.2.2.1
      have hr9 := hw.2.2.2.2.2.2.1
      have hds := ds_le V.2.2 a b hb
      have hrb : V.2.1 4 * b ≤ 9 * 12 := Nat.mul_le_mul hr9 hb
      refine r_aload_n hX dX8_cleans_24 rfl ?_
      refine r_iload_n hX dX8_cleans_25 rfl ?_
      refine r_iload_n hX dX8_cleans_26 rfl ?_
      refine r_callV hX dX8_cleans_27 (s_X8_dustOf E g m y hs V hR a b (by omega) (by omega)) ml_X8_103 rfl rfl hs.1.1 rfl ⟨Nat.le_of_ble_eq_true rfl, Nat.le_of_ble_eq_true rfl⟩ ⟨Nat.le_of_ble_eq_true rfl, Nat.le_of_ble_eq_true rfl, rfl, Nat.le_of_ble_eq_true rfl⟩ (fun v27 g27 m27 hp => ?_)
      obtain ⟨hv, hg, hm⟩ := hp
      subst v27
      subst g27
      subst m27
      refine r_istore_n hX dX8_cleans_30 (Nat.le_of_ble_eq_true rfl) rfl ?_
      refine r_aload_n hX dX8_cleans_31 rfl ?_
      refine r_getR hX dX8_cleans_32 hs.1.1 fl_X8_9 hs.2.1 ?_
      refine r_iconst (v := 3) hX dX8_cleans_35 (by decide) ?_
      refine r_ialoadN hX dX8_cleans_36 hs.1.2.1 (show 3 < 539 by decide) (by decide) ?_
      rw [hR.rH (k := 3) (by decide) (by decide)]
      refine r_iload_n hX dX8_cleans_37 rfl ?_
      refine r_iadd hX dX8_cleans_38 ?_
      rw [nI_add]
      refine r_aload_n hX dX8_cleans_39 rfl ?_
      refine r_getR hX dX8_cleans_40 hs.1.1 fl_X8_9 hs.2.1 ?_
      refine r_iconst (v := 4) hX dX8_cleans_43 (by decide) ?_
      refine r_ialoadN hX dX8_cleans_44 hs.1.2.1 (show 4 < 539 by decide) (by decide) ?_
      rw [hR.rH (k := 4) (by decide) (by decide)]
      refine r_iload_n hX dX8_cleans_45 rfl ?_
      refine r_imul hX dX8_cleans_46 ?_
      rw [pk_mul]
      refine r_isub hX dX8_cleans_47 ?_
      refine r_if_ge (tgt := 53) hX dX8_cleans_48 (by decide) (fun c48 => ?_) (fun c48 => ?_)
      · have hge : V.2.1 4 * b ≤ V.2.1 3 + ds V.2.2 a b := Nat.le_of_not_lt (fun h => absurd (pk_sneg (by omega) h) (by simpa using c48))
        refine r_aload_n hX dX8_cleans_53 rfl ?_
        refine r_getR hX dX8_cleans_54 hs.1.1 fl_X8_9 hs.2.1 ?_
        refine r_iconst (v := 3) hX dX8_cleans_57 (by decide) ?_
        refine r_dup2 hX dX8_cleans_58 rfl rfl ?_
        refine r_ialoadN hX dX8_cleans_59 hs.1.2.1 (show 3 < 539 by decide) (by decide) ?_
        rw [hR.rH (k := 3) (by decide) (by decide)]
        refine r_iload_n hX dX8_cleans_60 rfl ?_
        refine r_aload_n hX dX8_cleans_61 rfl ?_
        refine r_getR hX dX8_cleans_62 hs.1.1 fl_X8_9 hs.2.1 ?_
        refine r_iconst (v := 4) hX dX8_cleans_65 (by decide) ?_
        refine r_ialoadN hX dX8_cleans_66 hs.1.2.1 (show 4 < 539 by decide) (by decide) ?_
        rw [hR.rH (k := 4) (by decide) (by decide)]
        refine r_iload_n hX dX8_cleans_67 rfl ?_
        refine r_imul hX dX8_cleans_68 ?_
        rw [pk_mul]
        refine r_isub hX dX8_cleans_69 ?_
        refine r_iadd hX dX8_cleans_70 ?_
        rw [show nI (V.2.1 3) + (nI (ds V.2.2 a b) - nI (V.2.1 4 * b)) = nI (V.2.1 3 + ds V.2.2 a b - V.2.1 4 * b) by rw [i32_as, nI_add, pk_sub hge]]
        refine r_iastoreN hX dX8_cleans_71 hs.1.2.1 (show 3 < 539 by decide) (by decide) ?_
        have hR1 := hR.wH (k := 3) (v := V.2.1 3 + ds V.2.2 a b - V.2.1 4 * b) (by decide)
        refine r_iconst (v := 0) hX dX8_cleans_72 (by decide) ?_
        refine r_istore hX dX8_cleans_73 (Nat.le_of_ble_eq_true rfl) rfl ?_
        refine s_X8_cleans_l (g := g) (m := m) hX hs (V := (V.1, updH V.2.1 3 (V.2.1 3 + ds V.2.2 a b - V.2.1 4 * b), V.2.2)) hw.1 (a := a) (b := b) (by omega) (by omega) b 0 _ (by omega) (hR1.eq ?_) ((MF.rf _ _).wI (Or.inl ⟨rfl, by decide⟩)) (fun j m2 hR2 hM2 => ?_)
        · refine congr (congrArg Prod.mk rfl) (congr (congrArg Prod.mk rfl) (funext fun j => ?_))
          rw [if_neg (by rw [inArc_0]; decide)]
        · refine r_aload_n hX dX8_cleans_103 rfl ?_
          refine r_iload_n hX dX8_cleans_104 rfl ?_
          refine r_putI hX dX8_cleans_105 hs.1.1 fl_X8_46 ?_
          refine r_iconst (v := 0) hX dX8_cleans_108 (by decide) ?_
          have eR : cVac V (nI a) (nI b) = (0, nI (ds V.2.2 a b), vacV V a b) := by unfold cVac; rw [if_neg (not_not_intro hx), if_neg (not_not_intro hn), ha9, hb9, if_neg (Nat.not_lt_of_le hge)]
          exact r_iret hX dX8_cleans_109 (by rw [eR]; exact pM.yes hR2.w4 (by rw [qI_wI, if_pos ⟨rfl, rfl⟩]) (hM2.wI (Or.inr ⟨rfl, rfl⟩))) ⟨Nat.le_of_ble_eq_true rfl, Nat.le_of_ble_eq_true rfl⟩
      · have hlt : V.2.1 3 + ds V.2.2 a b < V.2.1 4 * b := Nat.lt_of_not_le (fun h => c48 (by rw [pk_sub h]; exact nI_pos' (by omega)))
        have eR : cVac V (nI a) (nI b) = (3, 0, V) := by unfold cVac; rw [if_neg (not_not_intro hx), if_neg (not_not_intro hn), ha9, hb9, if_pos hlt]
        refine r_iconst (v := 3) hX dX8_cleans_51 (by decide) ?_
        exact r_iret hX dX8_cleans_52 (by rw [eR]; exact pM.no hR (by decide) rfl) ⟨Nat.le_of_ble_eq_true rfl, Nat.le_of_ble_eq_true rfl⟩
    · have hx : rng x 0 11 := Classical.byContradiction (fun h => c7 (by rw [if_neg h]))
      have hn : ¬ rng n 1 12 := fun h => absurd c19 (by rw [if_pos h]; decide)
      have eR : cVac V x n = (2, 0, V) := by unfold cVac; rw [if_neg (not_not_intro hx), if_pos hn]
      refine r_iconst (v := 2) hX dX8_cleans_22 (by decide) ?_
      exact r_iret hX dX8_cleans_23 (by rw [eR]; exact pM.no hR (by decide) rfl) ⟨Nat.le_of_ble_eq_true rfl, Nat.le_of_ble_eq_true rfl⟩
  · have hn : ¬ rng x 0 11 := fun h => absurd c7 (by rw [if_pos h]; decide)
    have eR : cVac V x n = (1, 0, V) := if_pos hn
    refine r_iconst (v := 1) hX dX8_cleans_10 (by decide) ?_
    exact r_iret hX dX8_cleans_11 (by rw [eR]; exact pM.no hR (by decide) rfl) ⟨Nat.le_of_ble_eq_true rfl, Nat.le_of_ble_eq_true rfl⟩
set_option maxRecDepth 20000 in
set_option maxHeartbeats 4000000 in
theorem s_X8_rates (E : qE) (g : qG) (m : qM) (y : Nat) (hs : ModS g m y) (V : kV) (hR : RepF (rowF m y 0) V) (u : Nat) (hw : WfV u V) (hu : u ≤ 10000) (x : Int32) : Sp E yX8_rates cX8_rates 2 (some .int) 1 0 0 [.ref y, .int x] g m (pM y g m (cRate V x)) := by
  refine Sp.of (by decide) [some (.ref y), some (.int x)] rfl rfl (Nat.le_of_ble_eq_true rfl) (fun X hX => ?_)
  refine r_iload_n hX dX8_rates_0 rfl ?_
  refine r_iconst (v := 0) hX dX8_rates_1 (by decide) ?_
  refine r_bipush (v := 9) hX dX8_rates_2 (by decide) ?_
  refine r_callS hX dX8_rates_4 (s_X8_in E g m x 0 9 (by decide) (by decide)) ml_X8_69 rfl rfl ⟨Nat.le_of_ble_eq_true rfl, Nat.le_of_ble_eq_true rfl⟩ ⟨Nat.le_of_ble_eq_true rfl, Nat.le_of_ble_eq_true rfl, rfl, Nat.le_of_ble_eq_true rfl⟩ (fun v4 g4 m4 hp => ?_)
  obtain ⟨hv, hg, hm⟩ := hp
  subst v4
  subst g4
  subst m4
  refine r_if_ne (tgt := 12) hX dX8_rates_7 (by decide) (fun c7 => ?_) (fun c7 => ?_)
  · have hn : rng x 0 9 := Classical.byContradiction (fun h => c7 (by rw [if_neg h]))
    obtain ⟨p9, -, -, rfl, hp9⟩ := rng_to hn (by decide) (by decide)
    refine r_aload_n hX dX8_rates_12 rfl ?_
    refine r_aload_n hX dX8_rates_13 rfl ?_
    refine r_getR hX dX8_rates_14 hs.1.1 fl_X8_9 hs.2.1 ?_
    refine r_iconst (v := 4) hX dX8_rates_17 (by decide) ?_
    refine r_ialoadN hX dX8_rates_18 hs.1.2.1 (show 4 < 539 by decide) (by decide) ?_
    rw [hR.rH (k := 4) (by decide) (by decide)]
    refine r_putI hX dX8_rates_19 hs.1.1 fl_X8_46 ?_
    refine r_aload_n hX dX8_rates_22 rfl ?_
    refine r_getR hX dX8_rates_23 hs.1.1 fl_X8_9 hs.2.1 ?_
    refine r_iconst (v := 4) hX dX8_rates_26 (by decide) ?_
    refine r_iload_n hX dX8_rates_27 rfl ?_
    refine r_iastoreN hX dX8_rates_28 hs.1.2.1 (show 4 < 539 by decide) (by decide) ?_
    refine r_iconst (v := 0) hX dX8_rates_29 (by decide) ?_
    have eR : cRate V (nI p9) = (0, nI (V.2.1 4), rateV V p9) := by unfold cRate; rw [if_neg (not_not_intro hn), hp9]
    exact r_iret hX dX8_rates_30 (by rw [eR]; exact pM.yes (hR.w4.wH (k := 4) (v := p9) (by decide)) (by rw [qI_wI, if_neg (by omega), qI_wI, if_pos ⟨rfl, rfl⟩]) (((MF.rf _ _).wI (Or.inr ⟨rfl, rfl⟩)).wI (Or.inl ⟨rfl, by decide⟩))) ⟨Nat.le_of_ble_eq_true rfl, Nat.le_of_ble_eq_true rfl⟩
  · have hn : ¬ rng x 0 9 := fun h => absurd c7 (by rw [if_pos h]; decide)
    have eR : cRate V x = (2, 0, V) := if_pos hn
    refine r_iconst (v := 2) hX dX8_rates_10 (by decide) ?_
    exact r_iret hX dX8_rates_11 (by rw [eR]; exact pM.no hR (by decide) rfl) ⟨Nat.le_of_ble_eq_true rfl, Nat.le_of_ble_eq_true rfl⟩
