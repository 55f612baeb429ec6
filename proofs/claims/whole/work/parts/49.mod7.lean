/-! ===== CometObservatoryModel: the end of a changing call; the changing calls ===== -/
set_option maxRecDepth 20000 in
set_option maxHeartbeats 4000000 in
theorem s_X8_ends (E : qE) (g : qG) (m0 m : qM) (y : Nat) (O : kO) (hB : ModB g m y O) (hl : O.1.1.length ≤ 6) (hA : RepF (rowF m y 10) O.1) (hM : MF (PM y) m0 m) (R : kA) (hR : R.1 = 0 → RepF (rowF m y 0) R.2.2 ∧ qI m y 4 = R.2.1 ∧ R.2.2.1.length ≤ 6) (hk : R.1 < 5) (a b s u : Nat) (hab : a < 5 ∧ b < 5 ∧ s < 5 ∧ u < 5) (hc1 : R.1 = 1 → a ≠ 0) (hc2 : R.1 = 2 → b ≠ 0) (hc3 : R.1 = 3 → s ≠ 0) (hc4 : R.1 = 4 → u ≠ 0) : Sp E yX8_ends cX8_ends 7 (some .int) 1 0 0 [.ref y, .int (nI R.1), .int (nI a), .int (nI b), .int (nI s), .int (nI u)] g m (pU y g m0 (chg O R a b s u)) := by
  refine Sp.of (by decide) [some (.ref y), some (.int (nI R.1)), some (.int (nI a)), some (.int (nI b)), some (.int (nI s)), some (.int (nI u)), none] rfl rfl (Nat.le_of_ble_eq_true rfl) (fun X hX => ?_)
  have hs := hB.1
  refine r_aload_n hX dX8_ends_0 rfl ?_
  refine r_iload_n hX dX8_ends_1 rfl ?_
  refine r_iconst (v := 1) hX dX8_ends_2 (by decide) ?_
  refine r_icmp_ne (tgt := 10) hX dX8_ends_3 (by decide) (fun c3 => ?_) (fun c3 => ?_)
  · refine r_iload_n hX dX8_ends_10 rfl ?_
    refine r_iconst (v := 2) hX dX8_ends_11 (by decide) ?_
    refine r_icmp_ne (tgt := 19) hX dX8_ends_12 (by decide) (fun c12 => ?_) (fun c12 => ?_)
    · refine r_iload_n hX dX8_ends_19 rfl ?_
      refine r_iconst (v := 3) hX dX8_ends_20 (by decide) ?_
      refine r_icmp_ne (tgt := 29) hX dX8_ends_21 (by decide) (fun c21 => ?_) (fun c21 => ?_)
      · refine r_iload_n hX dX8_ends_29 rfl ?_
        refine r_iconst (v := 4) hX dX8_ends_30 (by decide) ?_
        refine r_icmp_ne (tgt := 39) hX dX8_ends_31 (by decide) (fun c31 => ?_) (fun c31 => ?_)
        · have e0 : R.1 = 0 := by
            have n1 : R.1 ≠ 1 := fun h => c3 (congrArg nI h)
            have n2 : R.1 ≠ 2 := fun h => c12 (congrArg nI h)
            have n3 : R.1 ≠ 3 := fun h => c21 (congrArg nI h)
            have n4 : R.1 ≠ 4 := fun h => c31 (congrArg nI h)
            omega
          obtain ⟨hR, h4, hl2⟩ := hR e0
          have hr0 : ∀ w k, rowF (wI m y 0 0) y w k = rowF m y w k := fun w k => by unfold rowF; rw [qI_wI, if_neg (by omega)]
          have hq : ∀ a j, ¬ (a = y ∧ j = 0) → qI (wI m y 0 0) a j = qI m a j := fun a j h => by rw [qI_wI, if_neg h]
          have h2 := hB.2.1.1
          have hl8 := hB.2.1.2.1
          rw [chg_0 e0]
          refine r_iconst (v := 0) hX dX8_ends_39 (by decide) ?_
          refine r_putI hX dX8_ends_40 hs.1.1 fl_X8_36 ?_
          refine r_aload_n hX dX8_ends_43 rfl ?_
          refine r_getI hX dX8_ends_44 hs.1.1 fl_X8_36 ?_
          rw [show qI (wI m y 0 0) y 0 = 0 by rw [qI_wI, if_pos ⟨rfl, rfl⟩]]
          refine r_if_eq (tgt := 59) hX dX8_ends_47 (by decide) (fun c47 => ?_) (fun c47 => ?_)
          · refine r_aload_n hX dX8_ends_59 rfl ?_
            refine r_getI hX dX8_ends_60 hs.1.1 fl_X8_43 ?_
            rw [hq _ _ (by omega), h2]
            refine r_bipush (v := 8) hX dX8_ends_63 (by decide) ?_
            refine r_icmp_ne (tgt := 104) hX dX8_ends_65 (by decide) (fun c65 => ?_) (fun c65 => ?_)
            · have h8 : ¬ (oHi O).length = 8 := fun h => c65 (congrArg nI h)
              refine s_X8_ends_104 (m1 := wI m y 0 0) hX (hB.1.to rfl) hB hl hA (hM.wI ⟨by omega, by omega⟩) (by rw [qI_wI, if_pos ⟨rfl, rfl⟩]) (r := R.2.1) (by rw [hq _ _ (by omega)]; exact h4) (V' := R.2.2) hl2 (hR.congr (fun k hk => hr0 0 k) hl2) (fun a j h1 h9 => hq a j (by unfold PB at h1; omega)) (fun w h k hk => hr0 w k) (n := (oHi O).length) (by rw [hq _ _ (by omega)]; exact h2) (by rw [if_pos (by omega)]) (fun w h1 h9 k hk => ?_) _ _ _ _ _ _
              rw [if_pos (by omega)]
              exact hr0 w k
            · have h8 : (oHi O).length = 8 := (nI_eq (b := 8) (by omega) (by decide)).mp c65
              refine r_iconst (v := 1) hX dX8_ends_68 (by decide) ?_
              refine r_istore hX dX8_ends_69 (Nat.le_of_ble_eq_true rfl) rfl ?_
              refine s_X8_ends_l (g := g) (m := wI m y 0 0) hX (hB.1.to rfl) _ _ _ _ _ 7 1 _ (by omega) (by omega) ⟨fun a j => by rw [if_neg (by omega)], rfl⟩ (fun j m2 hm2 => ?_)
              have hs2 : ModS g m2 y := hB.1.to hm2.2
              have e2 : qI m2 y 2 = nI 8 := by rw [hm2.1, if_neg (by omega), hq _ _ (by omega), h2]; exact congrArg nI h8
              have eo : ∀ a j, a ≠ y + 1 → qI m2 a j = qI (wI m y 0 0) a j := fun a j h => by rw [hm2.1, if_neg (fun q => h q.1)]
              have er : ∀ w, (w = 0 ∨ 8 ≤ w) → ∀ k, k < 49 → rowF (wI m2 y 2 (nI 7)) y w k = rowF m y w k := fun w h k hk => by
                rw [← hr0]
                unfold rowF
                rw [qI_wI, if_neg (by omega), hm2.1, if_neg (by omega)]
              refine r_aload_n hX dX8_ends_94 rfl ?_
              refine r_dup hX dX8_ends_95 rfl ?_
              refine r_getI hX dX8_ends_96 hs.1.1 fl_X8_43 ?_
              rw [e2]
              refine r_iconst (v := 1) hX dX8_ends_99 (by decide) ?_
              refine r_isub hX dX8_ends_100 ?_
              rw [show nI 8 - (1 : Int32) = nI 7 from by decide]
              refine r_putI hX dX8_ends_101 hs.1.1 fl_X8_43 ?_
              refine s_X8_ends_104 (m1 := wI m2 y 2 (nI 7)) hX (hs2.to rfl) hB hl hA ?_ ?_ (r := R.2.1) ?_ (V' := R.2.2) hl2 (hR.congr (fun k hk => er 0 (Or.inl rfl) k hk) hl2) (fun a j h1 h9 => ?_) (fun w h k hk => er w (Or.inr (by omega)) k hk) (n := 7) ?_ ?_ (fun w h1 h9 k hk => ?_) _ _ _ _ _ _
              · refine ((hM.wI (a := y) (k := 0) (v := 0) ⟨by omega, by omega⟩).tr ⟨fun a j hn => ?_, hm2.2⟩).wI ⟨by omega, by omega⟩
                rw [hm2.1, if_neg (fun q => hn ⟨by omega, by omega⟩)]
              · rw [qI_wI, if_neg (by omega), eo _ _ (by omega), qI_wI, if_pos ⟨rfl, rfl⟩]
              · rw [qI_wI, if_neg (by omega), eo _ _ (by omega), hq _ _ (by omega)]; exact h4
              · rw [qI_wI, if_neg h9.2, eo _ _ h9.1]
                exact hq a j (by unfold PB at h1; omega)
              · rw [qI_wI, if_pos ⟨rfl, rfl⟩]
              · rw [if_neg (by omega)]
              · rw [if_neg (by omega), ← hr0]
                unfold rowF
                rw [qI_wI, if_neg (by omega), hm2.1, if_pos ⟨rfl, by omega, by omega⟩]
                congr 1
                omega
          · exact absurd rfl c47
        · have e : R.1 = 4 := (nI_eq (b := 4) (by omega) (by decide)).mp c31
          refine r_iload hX dX8_ends_34 rfl ?_
          refine r_goto (tgt := 40) hX dX8_ends_36 (by decide) ?_
          rw [chg_4 e]
          exact s_X8_ends_t hX hB.1 hB hl hA hM (hc4 e) (by omega) _ _ _ _ _
      · have e : R.1 = 3 := (nI_eq (b := 3) (by omega) (by decide)).mp c21
        refine r_iload hX dX8_ends_24 rfl ?_
        refine r_goto (tgt := 40) hX dX8_ends_26 (by decide) ?_
        rw [chg_3 e]
        exact s_X8_ends_t hX hB.1 hB hl hA hM (hc3 e) (by omega) _ _ _ _ _
    · have e : R.1 = 2 := (nI_eq (b := 2) (by omega) (by decide)).mp c12
      refine r_iload_n hX dX8_ends_15 rfl ?_
      refine r_goto (tgt := 40) hX dX8_ends_16 (by decide) ?_
      rw [chg_2 e]
      exact s_X8_ends_t hX hB.1 hB hl hA hM (hc2 e) (by omega) _ _ _ _ _
  · have e : R.1 = 1 := (nI_eq (b := 1) (by omega) (by decide)).mp c3
    refine r_iload_n hX dX8_ends_6 rfl ?_
    refine r_goto (tgt := 40) hX dX8_ends_7 (by decide) ?_
    rw [chg_1 e]
    exact s_X8_ends_t hX hB.1 hB hl hA hM (hc1 e) (by omega) _ _ _ _ _
theorem ModV.s {g : qG} {m : qM} {y : Nat} {O : kO} (h : ModV g m y O) : ModS g m y := h.1.1
theorem cpy_in {y : Nat} {m m' : qM} {O : kO} {g : qG} (h : ModV g m y O) (hC : CPY y 0 10 m m') : ModV g m' y O ∧ RepF (rowF m' y 10) O.1 ∧ MF (PM y) m m' := ⟨h.mf hC.mf (fun a j hb hq => by unfold PB at hb; omega), h.2.2.congr hC.row h.2.1, hC.mf.mono (fun a j hq => ⟨by omega, by omega⟩)⟩
/-- behind a command, ahead of the end -/
theorem cmd_in {y : Nat} {g : qG} {m m1 m2 : qM} {O : kO} {u : Nat} {R : kA} (hV : ModV g m1 y O) (hA : RepF (rowF m1 y 10) O.1) (hM : MF (PM y) m m1) (hR : RepF (rowF m2 y 0) R.2.2) (h4 : R.1 = 0 → qI m2 y 4 = R.2.1) (h2 : MF (P0 y) m1 m2) (hw : WfV u R.2.2) : ModB g m2 y O ∧ RepF (rowF m2 y 10) O.1 ∧ MF (PM y) m m2 ∧ (R.1 = 0 → RepF (rowF m2 y 0) R.2.2 ∧ qI m2 y 4 = R.2.1 ∧ R.2.2.1.length ≤ 6) := by
  refine ⟨hV.1.mf h2 (fun a j hb hq => ?_), hA.congr (fun k hk => h2.1 _ _ (fun hq => ?_)) hV.2.1, hM.tr (h2.mono (fun a j hq => ?_)), fun e => ⟨hR, h4 e, hw.1⟩⟩
  · unfold PB at hb
    unfold P0 at hq
    omega
  · unfold P0 at hq
    omega
  · unfold P0 at hq
    unfold PM
    omega
theorem cAdd_c (V : kV) (p d b : Int32) : (cAdd V p d b).1 < 5 ∧ (cAdd V p d b).1 ≠ 1 ∧ (cAdd V p d b).1 ≠ 4 := by
  unfold cAdd
  split
  · exact ⟨by simp, by simp, by simp⟩
  · split
    · exact ⟨by simp, by simp, by simp⟩
    · exact ⟨by simp, by simp, by simp⟩
theorem cDrop_c (V : kV) (c : Int32) : (cDrop V c).1 < 5 ∧ (cDrop V c).1 ≠ 2 ∧ (cDrop V c).1 ≠ 3 ∧ (cDrop V c).1 ≠ 4 := by
  rcases hp : plV V.1 c with _ | i
  · rw [cDrop_n hp]; exact ⟨by simp, by simp, by simp, by simp⟩
  · rw [cDrop_s hp]; exact ⟨by simp, by simp, by simp, by simp⟩
theorem cTurn_c (V : kV) (c p : Int32) : (cTurn V c p).1 < 5 ∧ (cTurn V c p).1 ≠ 3 ∧ (cTurn V c p).1 ≠ 4 := by
  rcases hp : plV V.1 c with _ | i
  · rw [cTurn_n hp]; exact ⟨by simp, by simp, by simp⟩
  · rw [cTurn_s hp]
    split
    · exact ⟨by simp, by simp, by simp⟩
    · exact ⟨by simp, by simp, by simp⟩
theorem cShine_c (V : kV) (c p : Int32) : (cShine V c p).1 < 5 := by
  rcases hp : plV V.1 c with _ | i
  · rw [cShine_n hp]; exact by simp
  · rw [cShine_s hp]
    split
    · exact by simp
    · split
      · exact by simp
      · split
        · exact by simp
        · exact by simp
theorem cDay_c (V : kV) (d : Int32) : (cDay V d).1 < 5 ∧ (cDay V d).1 ≠ 1 ∧ (cDay V d).1 ≠ 3 ∧ (cDay V d).1 ≠ 4 := by
  unfold cDay
  split
  · exact ⟨by simp, by simp, by simp, by simp⟩
  · exact ⟨by simp, by simp, by simp, by simp⟩
theorem cVac_c (V : kV) (a n : Int32) : (cVac V a n).1 < 5 ∧ (cVac V a n).1 ≠ 4 := by
  unfold cVac
  split
  · exact ⟨by simp, by simp⟩
  · split
    · exact ⟨by simp, by simp⟩
    · split
      · exact ⟨by simp, by simp⟩
      · exact ⟨by simp, by simp⟩
theorem cRate_c (V : kV) (d : Int32) : (cRate V d).1 < 5 ∧ (cRate V d).1 ≠ 1 ∧ (cRate V d).1 ≠ 3 ∧ (cRate V d).1 ≠ 4 := by
  unfold cRate
  split
  · exact ⟨by simp, by simp, by simp, by simp⟩
  · exact ⟨by simp, by simp, by simp, by simp⟩
set_option maxRecDepth 20000 in
set_option maxHeartbeats 4000000 in
theorem s_X8_addComet (E : qE) (g : qG) (m : qM) (y : Nat) (O : kO) (hO : ModV g m y O) (u : Nat) (hw : WfO u O) (hu : u ≤ 6144) (p d b : Int32) : Sp E yX8_addComet cX8_addComet 4 (some .int) 4 0 0 [.ref y, .int p, .int d, .int b] g m (pU y g m (addO O p d b)) := by
  refine Sp.of (by decide) [some (.ref y), some (.int p), some (.int d), some (.int b)] rfl rfl (Nat.le_of_ble_eq_true rfl) (fun X hX => ?_)
  refine r_aload_n hX dX8_addComet_0 rfl ?_
  refine r_callV hX dX8_addComet_1 (s_X8_begins E g m y hO.s) ml_X8_73 rfl rfl hO.1.1.1.1 rfl ⟨Nat.le_of_ble_eq_true rfl, Nat.le_of_ble_eq_true rfl⟩ ⟨Nat.le_of_ble_eq_true rfl, Nat.le_of_ble_eq_true rfl, rfl, Nat.le_of_ble_eq_true rfl⟩ (fun v1 g1 m1 hp => ?_)
  obtain ⟨hv, hg, hC⟩ := hp
  subst v1
  subst g1
  obtain ⟨hV1, hA1, hM1⟩ := cpy_in hO hC
  refine r_aload_n hX dX8_addComet_4 rfl ?_
  refine r_aload_n hX dX8_addComet_5 rfl ?_
  refine r_iload_n hX dX8_addComet_6 rfl ?_
  refine r_iload_n hX dX8_addComet_7 rfl ?_
  refine r_iload_n hX dX8_addComet_8 rfl ?_
  refine r_callV hX dX8_addComet_9 (s_X8_comes E g m1 y hV1.s O.1 hV1.2.2 u hw.1 (by omega) p d b) ml_X8_76 rfl rfl hO.1.1.1.1 rfl ⟨Nat.le_of_ble_eq_true rfl, Nat.le_of_ble_eq_true rfl⟩ ⟨Nat.le_of_ble_eq_true rfl, Nat.le_of_ble_eq_true rfl, rfl, Nat.le_of_ble_eq_true rfl⟩ (fun v9 g9 m9 hp => ?_)
  obtain ⟨hv, hg, hR2, h42, hM2⟩ := hp
  subst v9
  subst g9
  obtain ⟨hB3, hA3, hM3, hR3⟩ := cmd_in hV1 hA1 hM1 hR2 h42 hM2 (cAdd_wf hw.1 p d b)
  refine r_iconst (v := 0) hX dX8_addComet_12 (by decide) ?_
  refine r_iconst (v := 1) hX dX8_addComet_13 (by decide) ?_
  refine r_iconst (v := 2) hX dX8_addComet_14 (by decide) ?_
  refine r_iconst (v := 0) hX dX8_addComet_15 (by decide) ?_
  refine r_callV hX dX8_addComet_16 (s_X8_ends E g m m9 y O hB3 hO.2.1 hA3 hM3 (cAdd O.1 p d b) hR3 (cAdd_c O.1 p d b).1 0 1 2 0 (by decide) (fun h => absurd h (cAdd_c O.1 p d b).2.1) (fun _ => by decide) (fun _ => by decide) (fun h => absurd h (cAdd_c O.1 p d b).2.2)) ml_X8_80 rfl rfl hO.1.1.1.1 rfl ⟨Nat.le_of_ble_eq_true rfl, Nat.le_of_ble_eq_true rfl⟩ ⟨Nat.le_of_ble_eq_true rfl, Nat.le_of_ble_eq_true rfl, rfl, Nat.le_of_ble_eq_true rfl⟩ (fun v16 g16 m16 hp => ?_)
  obtain ⟨⟨w, hv, hw9⟩, hg, hP⟩ := hp
  subst v16
  subst g16
  exact r_iret hX dX8_addComet_19 ⟨⟨w, rfl, hw9⟩, rfl, hP⟩ ⟨Nat.le_of_ble_eq_true rfl, Nat.le_of_ble_eq_true rfl⟩
set_option maxRecDepth 20000 in
set_option maxHeartbeats 4000000 in
theorem s_X8_remove (E : qE) (g : qG) (m : qM) (y : Nat) (O : kO) (hO : ModV g m y O) (u : Nat) (hw : WfO u O) (hu : u ≤ 6144) (c : Int32) : Sp E yX8_remove cX8_remove 2 (some .int) 4 0 0 [.ref y, .int c] g m (pU y g m (dropO O c)) := by
  refine Sp.of (by decide) [some (.ref y), some (.int c)] rfl rfl (Nat.le_of_ble_eq_true rfl) (fun X hX => ?_)
  refine r_aload_n hX dX8_remove_0 rfl ?_
  refine r_callV hX dX8_remove_1 (s_X8_begins E g m y hO.s) ml_X8_73 rfl rfl hO.1.1.1.1 rfl ⟨Nat.le_of_ble_eq_true rfl, Nat.le_of_ble_eq_true rfl⟩ ⟨Nat.le_of_ble_eq_true rfl, Nat.le_of_ble_eq_true rfl, rfl, Nat.le_of_ble_eq_true rfl⟩ (fun v1 g1 m1 hp => ?_)
  obtain ⟨hv, hg, hC⟩ := hp
  subst v1
  subst g1
  obtain ⟨hV1, hA1, hM1⟩ := cpy_in hO hC
  refine r_aload_n hX dX8_remove_4 rfl ?_
  refine r_aload_n hX dX8_remove_5 rfl ?_
  refine r_iload_n hX dX8_remove_6 rfl ?_
  refine r_callV hX dX8_remove_7 (s_X8_drops E g m1 y hV1.s O.1 hV1.2.2 u hw.1 (by omega) c) ml_X8_87 rfl rfl hO.1.1.1.1 rfl ⟨Nat.le_of_ble_eq_true rfl, Nat.le_of_ble_eq_true rfl⟩ ⟨Nat.le_of_ble_eq_true rfl, Nat.le_of_ble_eq_true rfl, rfl, Nat.le_of_ble_eq_true rfl⟩ (fun v7 g7 m7 hp => ?_)
  obtain ⟨hv, hg, hR2, h42, hM2⟩ := hp
  subst v7
  subst g7
  obtain ⟨hB3, hA3, hM3, hR3⟩ := cmd_in hV1 hA1 hM1 hR2 h42 hM2 (cDrop_wf hw.1 c)
  refine r_iconst (v := 1) hX dX8_remove_10 (by decide) ?_
  refine r_iconst (v := 0) hX dX8_remove_11 (by decide) ?_
  refine r_iconst (v := 0) hX dX8_remove_12 (by decide) ?_
  refine r_iconst (v := 0) hX dX8_remove_13 (by decide) ?_
  refine r_callV hX dX8_remove_14 (s_X8_ends E g m m7 y O hB3 hO.2.1 hA3 hM3 (cDrop O.1 c) hR3 (cDrop_c O.1 c).1 1 0 0 0 (by decide) (fun _ => by decide) (fun h => absurd h (cDrop_c O.1 c).2.1) (fun h => absurd h (cDrop_c O.1 c).2.2.1) (fun h => absurd h (cDrop_c O.1 c).2.2.2)) ml_X8_80 rfl rfl hO.1.1.1.1 rfl ⟨Nat.le_of_ble_eq_true rfl, Nat.le_of_ble_eq_true rfl⟩ ⟨Nat.le_of_ble_eq_true rfl, Nat.le_of_ble_eq_true rfl, rfl, Nat.le_of_ble_eq_true rfl⟩ (fun v14 g14 m14 hp => ?_)
  obtain ⟨⟨w, hv, hw9⟩, hg, hP⟩ := hp
  subst v14
  subst g14
  exact r_iret hX dX8_remove_17 ⟨⟨w, rfl, hw9⟩, rfl, hP⟩ ⟨Nat.le_of_ble_eq_true rfl, Nat.le_of_ble_eq_true rfl⟩
set_option maxRecDepth 20000 in
set_option maxHeartbeats 4000000 in
theorem s_X8_setPeriod (E : qE) (g : qG) (m : qM) (y : Nat) (O : kO) (hO : ModV g m y O) (u : Nat) (hw : WfO u O) (hu : u ≤ 6144) (c p : Int32) : Sp E yX8_setPeriod cX8_setPeriod 3 (some .int) 4 0 0 [.ref y, .int c, .int p] g m (pU y g m (turnO O c p)) := by
  refine Sp.of (by decide) [some (.ref y), some (.int c), some (.int p)] rfl rfl (Nat.le_of_ble_eq_true rfl) (fun X hX => ?_)
  refine r_aload_n hX dX8_setPeriod_0 rfl ?_
  refine r_callV hX dX8_setPeriod_1 (s_X8_begins E g m y hO.s) ml_X8_73 rfl rfl hO.1.1.1.1 rfl ⟨Nat.le_of_ble_eq_true rfl, Nat.le_of_ble_eq_true rfl⟩ ⟨Nat.le_of_ble_eq_true rfl, Nat.le_of_ble_eq_true rfl, rfl, Nat.le_of_ble_eq_true rfl⟩ (fun v1 g1 m1 hp => ?_)
  obtain ⟨hv, hg, hC⟩ := hp
  subst v1
  subst g1
  obtain ⟨hV1, hA1, hM1⟩ := cpy_in hO hC
  refine r_aload_n hX dX8_setPeriod_4 rfl ?_
  refine r_aload_n hX dX8_setPeriod_5 rfl ?_
  refine r_iload_n hX dX8_setPeriod_6 rfl ?_
  refine r_iload_n hX dX8_setPeriod_7 rfl ?_
  refine r_callV hX dX8_setPeriod_8 (s_X8_turns E g m1 y hV1.s O.1 hV1.2.2 u hw.1 (by omega) c p) ml_X8_90 rfl rfl hO.1.1.1.1 rfl ⟨Nat.le_of_ble_eq_true rfl, Nat.le_of_ble_eq_true rfl⟩ ⟨Nat.le_of_ble_eq_true rfl, Nat.le_of_ble_eq_true rfl, rfl, Nat.le_of_ble_eq_true rfl⟩ (fun v8 g8 m8 hp => ?_)
  obtain ⟨hv, hg, hR2, h42, hM2⟩ := hp
  subst v8
  subst g8
  obtain ⟨hB3, hA3, hM3, hR3⟩ := cmd_in hV1 hA1 hM1 hR2 h42 hM2 (cTurn_wf hw.1 c p)
  refine r_iconst (v := 1) hX dX8_setPeriod_11 (by decide) ?_
  refine r_iconst (v := 2) hX dX8_setPeriod_12 (by decide) ?_
  refine r_iconst (v := 0) hX dX8_setPeriod_13 (by decide) ?_
  refine r_iconst (v := 0) hX dX8_setPeriod_14 (by decide) ?_
  refine r_callV hX dX8_setPeriod_15 (s_X8_ends E g m m8 y O hB3 hO.2.1 hA3 hM3 (cTurn O.1 c p) hR3 (cTurn_c O.1 c p).1 1 2 0 0 (by decide) (fun _ => by decide) (fun _ => by decide) (fun h => absurd h (cTurn_c O.1 c p).2.1) (fun h => absurd h (cTurn_c O.1 c p).2.2)) ml_X8_80 rfl rfl hO.1.1.1.1 rfl ⟨Nat.le_of_ble_eq_true rfl, Nat.le_of_ble_eq_true rfl⟩ ⟨Nat.le_of_ble_eq_true rfl, Nat.le_of_ble_eq_true rfl, rfl, Nat.le_of_ble_eq_true rfl⟩ (fun v15 g15 m15 hp => ?_)
  obtain ⟨⟨w, hv, hw9⟩, hg, hP⟩ := hp
  subst v15
  subst g15
  exact r_iret hX dX8_setPeriod_18 ⟨⟨w, rfl, hw9⟩, rfl, hP⟩ ⟨Nat.le_of_ble_eq_true rfl, Nat.le_of_ble_eq_true rfl⟩
set_option maxRecDepth 20000 in
set_option maxHeartbeats 4000000 in
theorem s_X8_brighten (E : qE) (g : qG) (m : qM) (y : Nat) (O : kO) (hO : ModV g m y O) (u : Nat) (hw : WfO u O) (hu : u ≤ 6144) (c a : Int32) : Sp E yX8_brighten cX8_brighten 3 (some .int) 4 0 0 [.ref y, .int c, .int a] g m (pU y g m (shineO O c a)) := by
  refine Sp.of (by decide) [some (.ref y), some (.int c), some (.int a)] rfl rfl (Nat.le_of_ble_eq_true rfl) (fun X hX => ?_)
  refine r_aload_n hX dX8_brighten_0 rfl ?_
  refine r_callV hX dX8_brighten_1 (s_X8_begins E g m y hO.s) ml_X8_73 rfl rfl hO.1.1.1.1 rfl ⟨Nat.le_of_ble_eq_true rfl, Nat.le_of_ble_eq_true rfl⟩ ⟨Nat.le_of_ble_eq_true rfl, Nat.le_of_ble_eq_true rfl, rfl, Nat.le_of_ble_eq_true rfl⟩ (fun v1 g1 m1 hp => ?_)
  obtain ⟨hv, hg, hC⟩ := hp
  subst v1
  subst g1
  obtain ⟨hV1, hA1, hM1⟩ := cpy_in hO hC
  refine r_aload_n hX dX8_brighten_4 rfl ?_
  refine r_aload_n hX dX8_brighten_5 rfl ?_
  refine r_iload_n hX dX8_brighten_6 rfl ?_
  refine r_iload_n hX dX8_brighten_7 rfl ?_
  refine r_callV hX dX8_brighten_8 (s_X8_shines E g m1 y hV1.s O.1 hV1.2.2 u hw.1 (by omega) c a) ml_X8_93 rfl rfl hO.1.1.1.1 rfl ⟨Nat.le_of_ble_eq_true rfl, Nat.le_of_ble_eq_true rfl⟩ ⟨Nat.le_of_ble_eq_true rfl, Nat.le_of_ble_eq_true rfl, rfl, Nat.le_of_ble_eq_true rfl⟩ (fun v8 g8 m8 hp => ?_)
  obtain ⟨hv, hg, hR2, h42, hM2⟩ := hp
  subst v8
  subst g8
  obtain ⟨hB3, hA3, hM3, hR3⟩ := cmd_in hV1 hA1 hM1 hR2 h42 hM2 (cShine_wf hw.1 c a)
  refine r_iconst (v := 1) hX dX8_brighten_11 (by decide) ?_
  refine r_iconst (v := 2) hX dX8_brighten_12 (by decide) ?_
  refine r_iconst (v := 3) hX dX8_brighten_13 (by decide) ?_
  refine r_iconst (v := 4) hX dX8_brighten_14 (by decide) ?_
  refine r_callV hX dX8_brighten_15 (s_X8_ends E g m m8 y O hB3 hO.2.1 hA3 hM3 (cShine O.1 c a) hR3 (cShine_c O.1 c a) 1 2 3 4 (by decide) (fun _ => by decide) (fun _ => by decide) (fun _ => by decide) (fun _ => by decide)) ml_X8_80 rfl rfl hO.1.1.1.1 rfl ⟨Nat.le_of_ble_eq_true rfl, Nat.le_of_ble_eq_true rfl⟩ ⟨Nat.le_of_ble_eq_true rfl, Nat.le_of_ble_eq_true rfl, rfl, Nat.le_of_ble_eq_true rfl⟩ (fun v15 g15 m15 hp => ?_)
  obtain ⟨⟨w, hv, hw9⟩, hg, hP⟩ := hp
  subst v15
  subst g15
  exact r_iret hX dX8_brighten_18 ⟨⟨w, rfl, hw9⟩, rfl, hP⟩ ⟨Nat.le_of_ble_eq_true rfl, Nat.le_of_ble_eq_true rfl⟩
set_option maxRecDepth 20000 in
set_option maxHeartbeats 4000000 in
theorem s_X8_passDays (E : qE) (g : qG) (m : qM) (y : Nat) (O : kO) (hO : ModV g m y O) (u : Nat) (hw : WfO u O) (hu : u ≤ 6144) (d : Int32) : Sp E yX8_passDays cX8_passDays 2 (some .int) 4 0 0 [.ref y, .int d] g m (pU y g m (dayO O d)) := by
  refine Sp.of (by decide) [some (.ref y), some (.int d)] rfl rfl (Nat.le_of_ble_eq_true rfl) (fun X hX => ?_)
  refine r_aload_n hX dX8_passDays_0 rfl ?_
  refine r_callV hX dX8_passDays_1 (s_X8_begins E g m y hO.s) ml_X8_73 rfl rfl hO.1.1.1.1 rfl ⟨Nat.le_of_ble_eq_true rfl, Nat.le_of_ble_eq_true rfl⟩ ⟨Nat.le_of_ble_eq_true rfl, Nat.le_of_ble_eq_true rfl, rfl, Nat.le_of_ble_eq_true rfl⟩ (fun v1 g1 m1 hp => ?_)
  obtain ⟨hv, hg, hC⟩ := hp
  subst v1
  subst g1
  obtain ⟨hV1, hA1, hM1⟩ := cpy_in hO hC
  refine r_aload_n hX dX8_passDays_4 rfl ?_
  refine r_aload_n hX dX8_passDays_5 rfl ?_
  refine r_iload_n hX dX8_passDays_6 rfl ?_
  refine r_callV hX dX8_passDays_7 (s_X8_goOn E g m1 y hV1.s O.1 hV1.2.2 u hw.1 (by omega) d) ml_X8_100 rfl rfl hO.1.1.1.1 rfl ⟨Nat.le_of_ble_eq_true rfl, Nat.le_of_ble_eq_true rfl⟩ ⟨Nat.le_of_ble_eq_true rfl, Nat.le_of_ble_eq_true rfl, rfl, Nat.le_of_ble_eq_true rfl⟩ (fun v7 g7 m7 hp => ?_)
  obtain ⟨hv, hg, hR2, h42, hM2⟩ := hp
  subst v7
  subst g7
  obtain ⟨hB3, hA3, hM3, hR3⟩ := cmd_in hV1 hA1 hM1 hR2 h42 hM2 (cDay_wf hw.1 d)
  refine r_iconst (v := 0) hX dX8_passDays_10 (by decide) ?_
  refine r_iconst (v := 1) hX dX8_passDays_11 (by decide) ?_
  refine r_iconst (v := 0) hX dX8_passDays_12 (by decide) ?_
  refine r_iconst (v := 0) hX dX8_passDays_13 (by decide) ?_
  refine r_callV hX dX8_passDays_14 (s_X8_ends E g m m7 y O hB3 hO.2.1 hA3 hM3 (cDay O.1 d) hR3 (cDay_c O.1 d).1 0 1 0 0 (by decide) (fun h => absurd h (cDay_c O.1 d).2.1) (fun _ => by decide) (fun h => absurd h (cDay_c O.1 d).2.2.1) (fun h => absurd h (cDay_c O.1 d).2.2.2)) ml_X8_80 rfl rfl hO.1.1.1.1 rfl ⟨Nat.le_of_ble_eq_true rfl, Nat.le_of_ble_eq_true rfl⟩ ⟨Nat.le_of_ble_eq_true rfl, Nat.le_of_ble_eq_true rfl, rfl, Nat.le_of_ble_eq_true rfl⟩ (fun v14 g14 m14 hp => ?_)
  obtain ⟨⟨w, hv, hw9⟩, hg, hP⟩ := hp
  subst v14
  subst g14
  exact r_iret hX dX8_passDays_17 ⟨⟨w, rfl, hw9⟩, rfl, hP⟩ ⟨Nat.le_of_ble_eq_true rfl, Nat.le_of_ble_eq_true rfl⟩
set_option maxRecDepth 20000 in
set_option maxHeartbeats 4000000 in
theorem s_X8_clean (E : qE) (g : qG) (m : qM) (y : Nat) (O : kO) (hO : ModV g m y O) (u : Nat) (hw : WfO u O) (hu : u ≤ 6144) (a n : Int32) : Sp E yX8_clean cX8_clean 3 (some .int) 4 0 0 [.ref y, .int a, .int n] g m (pU y g m (vacO O a n)) := by
  refine Sp.of (by decide) [some (.ref y), some (.int a), some (.int n)] rfl rfl (Nat.le_of_ble_eq_true rfl) (fun X hX => ?_)
  refine r_aload_n hX dX8_clean_0 rfl ?_
  refine r_callV hX dX8_clean_1 (s_X8_begins E g m y hO.s) ml_X8_73 rfl rfl hO.1.1.1.1 rfl ⟨Nat.le_of_ble_eq_true rfl, Nat.le_of_ble_eq_true rfl⟩ ⟨Nat.le_of_ble_eq_true rfl, Nat.le_of_ble_eq_true rfl, rfl, Nat.le_of_ble_eq_true rfl⟩ (fun v1 g1 m1 hp => ?_)
  obtain ⟨hv, hg, hC⟩ := hp
  subst v1
  subst g1
  obtain ⟨hV1, hA1, hM1⟩ := cpy_in hO hC
  refine r_aload_n hX dX8_clean_4 rfl ?_
  refine r_aload_n hX dX8_clean_5 rfl ?_
  refine r_iload_n hX dX8_clean_6 rfl ?_
  refine r_iload_n hX dX8_clean_7 rfl ?_
  refine r_callV hX dX8_clean_8 (s_X8_cleans E g m1 y hV1.s O.1 hV1.2.2 u hw.1 (by omega) a n) ml_X8_106 rfl rfl hO.1.1.1.1 rfl ⟨Nat.le_of_ble_eq_true rfl, Nat.le_of_ble_eq_true rfl⟩ ⟨Nat.le_of_ble_eq_true rfl, Nat.le_of_ble_eq_true rfl, rfl, Nat.le_of_ble_eq_true rfl⟩ (fun v8 g8 m8 hp => ?_)
  obtain ⟨hv, hg, hR2, h42, hM2⟩ := hp
  subst v8
  subst g8
  obtain ⟨hB3, hA3, hM3, hR3⟩ := cmd_in hV1 hA1 hM1 hR2 h42 hM2 (cVac_wf hw.1 a n)
  refine r_iconst (v := 1) hX dX8_clean_11 (by decide) ?_
  refine r_iconst (v := 2) hX dX8_clean_12 (by decide) ?_
  refine r_iconst (v := 3) hX dX8_clean_13 (by decide) ?_
  refine r_iconst (v := 0) hX dX8_clean_14 (by decide) ?_
  refine r_callV hX dX8_clean_15 (s_X8_ends E g m m8 y O hB3 hO.2.1 hA3 hM3 (cVac O.1 a n) hR3 (cVac_c O.1 a n).1 1 2 3 0 (by decide) (fun _ => by decide) (fun _ => by decide) (fun _ => by decide) (fun h => absurd h (cVac_c O.1 a n).2)) ml_X8_80 rfl rfl hO.1.1.1.1 rfl ⟨Nat.le_of_ble_eq_true rfl, Nat.le_of_ble_eq_true rfl⟩ ⟨Nat.le_of_ble_eq_true rfl, Nat.le_of_ble_eq_true rfl, rfl, Nat.le_of_ble_eq_true rfl⟩ (fun v15 g15 m15 hp => ?_)
  obtain ⟨⟨w, hv, hw9⟩, hg, hP⟩ := hp
  subst v15
  subst g15
  exact r_iret hX dX8_clean_18 ⟨⟨w, rfl, hw9⟩, rfl, hP⟩ ⟨Nat.le_of_ble_eq_true rfl, Nat.le_of_ble_eq_true rfl⟩
set_option maxRecDepth 20000 in
set_option maxHeartbeats 4000000 in
theorem s_X8_setRate (E : qE) (g : qG) (m : qM) (y : Nat) (O : kO) (hO : ModV g m y O) (u : Nat) (hw : WfO u O) (hu : u ≤ 6144) (r : Int32) : Sp E yX8_setRate cX8_setRate 2 (some .int) 4 0 0 [.ref y, .int r] g m (pU y g m (rateO O r)) := by
  refine Sp.of (by decide) [some (.ref y), some (.int r)] rfl rfl (Nat.le_of_ble_eq_true rfl) (fun X hX => ?_)
  refine r_aload_n hX dX8_setRate_0 rfl ?_
  refine r_callV hX dX8_setRate_1 (s_X8_begins E g m y hO.s) ml_X8_73 rfl rfl hO.1.1.1.1 rfl ⟨Nat.le_of_ble_eq_true rfl, Nat.le_of_ble_eq_true rfl⟩ ⟨Nat.le_of_ble_eq_true rfl, Nat.le_of_ble_eq_true rfl, rfl, Nat.le_of_ble_eq_true rfl⟩ (fun v1 g1 m1 hp => ?_)
  obtain ⟨hv, hg, hC⟩ := hp
  subst v1
  subst g1
  obtain ⟨hV1, hA1, hM1⟩ := cpy_in hO hC
  refine r_aload_n hX dX8_setRate_4 rfl ?_
  refine r_aload_n hX dX8_setRate_5 rfl ?_
  refine r_iload_n hX dX8_setRate_6 rfl ?_
  refine r_callV hX dX8_setRate_7 (s_X8_rates E g m1 y hV1.s O.1 hV1.2.2 u hw.1 (by omega) r) ml_X8_109 rfl rfl hO.1.1.1.1 rfl ⟨Nat.le_of_ble_eq_true rfl, Nat.le_of_ble_eq_true rfl⟩ ⟨Nat.le_of_ble_eq_true rfl, Nat.le_of_ble_eq_true rfl, rfl, Nat.le_of_ble_eq_true rfl⟩ (fun v7 g7 m7 hp => ?_)
  obtain ⟨hv, hg, hR2, h42, hM2⟩ := hp
  subst v7
  subst g7
  obtain ⟨hB3, hA3, hM3, hR3⟩ := cmd_in hV1 hA1 hM1 hR2 h42 hM2 (cRate_wf hw.1 r)
  refine r_iconst (v := 0) hX dX8_setRate_10 (by decide) ?_
  refine r_iconst (v := 1) hX dX8_setRate_11 (by decide) ?_
  refine r_iconst (v := 0) hX dX8_setRate_12 (by decide) ?_
  refine r_iconst (v := 0) hX dX8_setRate_13 (by decide) ?_
  refine r_callV hX dX8_setRate_14 (s_X8_ends E g m m7 y O hB3 hO.2.1 hA3 hM3 (cRate O.1 r) hR3 (cRate_c O.1 r).1 0 1 0 0 (by decide) (fun h => absurd h (cRate_c O.1 r).2.1) (fun _ => by decide) (fun h => absurd h (cRate_c O.1 r).2.2.1) (fun h => absurd h (cRate_c O.1 r).2.2.2)) ml_X8_80 rfl rfl hO.1.1.1.1 rfl ⟨Nat.le_of_ble_eq_true rfl, Nat.le_of_ble_eq_true rfl⟩ ⟨Nat.le_of_ble_eq_true rfl, Nat.le_of_ble_eq_true rfl, rfl, Nat.le_of_ble_eq_true rfl⟩ (fun v14 g14 m14 hp => ?_)
  obtain ⟨⟨w, hv, hw9⟩, hg, hP⟩ := hp
  subst v14
  subst g14
  exact r_iret hX dX8_setRate_17 ⟨⟨w, rfl, hw9⟩, rfl, hP⟩ ⟨Nat.le_of_ble_eq_true rfl, Nat.le_of_ble_eq_true rfl⟩
