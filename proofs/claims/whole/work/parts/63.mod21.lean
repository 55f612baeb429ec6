/-! ===== CometObservatoryModel: programs are read and run ===== -/
set_option maxRecDepth 20000 in
set_option maxHeartbeats 4000000 in
theorem s_X8_parse (E : qE) (g : qG) (m : qM) (y : Nat) (hs : ModS g m y) (n : Nat) (tx : Nat → Int32) (h8 : qI m y 8 = nI n) (hn : n ≤ 60) (ht : ∀ j, j < n → qI m (y + 4) j = tx j) : Sp E yX8_parse cX8_parse 1 none 5 0 0 [.ref y] g m (fun v g' m' => v = none ∧ g' = g ∧ RdM m' y n tx (parM tx n (n + 1) 0 0 (fun _ => (0, []))) ∧ MF (PP y) m m') := by
  refine Sp.of (by decide) [some (.ref y)] rfl rfl (Nat.le_of_ble_eq_true rfl) (fun X hX => ?_)
  refine r_aload_n hX dX8_parse_0 rfl ?_
  refine r_iconst (v := 0) hX dX8_parse_1 (by decide) ?_
  refine r_putI hX dX8_parse_2 hs.1.1 fl_X8_166 ?_
  refine r_aload_n hX dX8_parse_5 rfl ?_
  refine r_iconst (v := (-1)) hX dX8_parse_6 (by decide) ?_
  refine r_putI hX dX8_parse_7 hs.1.1 fl_X8_169 ?_
  refine r_aload_n hX dX8_parse_10 rfl ?_
  refine r_iconst (v := 0) hX dX8_parse_11 (by decide) ?_
  refine r_putI hX dX8_parse_12 hs.1.1 fl_X8_181 ?_
  refine r_aload_n hX dX8_parse_15 rfl ?_
  refine r_callV hX dX8_parse_16 (s_X8_command E g _ y (by exact hs.to rfl) n tx 0 0 (by exact ⟨(qI_wI_k _ _ _ _ (by decide)).trans ((qI_wI_k _ _ _ _ (by decide)).trans ((qI_wI_k _ _ _ _ (by decide)).trans h8)), hn, fun j hj => (qI_wI_a _ _ _ _ (by omega)).trans ((qI_wI_a _ _ _ _ (by omega)).trans ((qI_wI_a _ _ _ _ (by omega)).trans (ht j hj))), (qI_wI_k _ _ _ _ (by decide)).trans ((qI_wI_k _ _ _ _ (by decide)).trans (qI_wI_s _ _ _ _)), Nat.zero_le _, (qI_wI_k _ _ _ _ (by decide)).trans (qI_wI_s _ _ _ _), fun e he => absurd he (by simp)⟩) (by exact qI_wI_s _ _ _ _) (by omega)) ml_X8_190 rfl rfl hs.1.1 rfl ⟨Nat.le_of_ble_eq_true rfl, Nat.le_of_ble_eq_true rfl⟩ ⟨Nat.le_of_ble_eq_true rfl, Nat.le_of_ble_eq_true rfl, rfl, Nat.le_of_ble_eq_true rfl⟩ (fun v16 g16 m16 hp => ?_)
  obtain ⟨hv, hg, hp16, h16, hL16, hn16, hM16⟩ := hp
  subst v16
  subst g16
  have hM0 : MF (PP y) m (wI (wI (wI m y 9 0) y 10 (-1)) y 14 0) := (((MF.rf _ _).wI (Or.inr ⟨rfl, by omega⟩)).wI (Or.inr ⟨rfl, by omega⟩)).wI (Or.inr ⟨rfl, by omega⟩)
  refine s_X8_parse_l (g := g) (m := m) hX hs n 0 0 (fun _ => (0, [])) m16 (Nat.le_refl _) (by omega) (by omega) hp16 h16 (CoM.up (m := wI (wI (wI m y 9 0) y 10 (-1)) y 14 0) (fun i hi => absurd hi (Nat.not_lt_zero _)) hM16 hL16 hn16) (hM0.tr (PC_P hM16)) (fun m2 hr hm2 => ?_)
  exact r_vret hX dX8_parse_78 ⟨rfl, rfl, hr, hm2⟩ ⟨Nat.le_of_ble_eq_true rfl, Nat.le_of_ble_eq_true rfl⟩
def dC (V : kV) (L a b c : Int32) : kA := if L = 99 then cAdd V a b c else if L = 100 then cDrop V a else if L = 116 then cTurn V a b else if L = 115 then cShine V a b else if L = 121 then cDay V a else if L = 118 then cVac V a b else cRate V a
abbrev isL (L : Int32) : Prop := L = 99 ∨ L = 100 ∨ L = 116 ∨ L = 115 ∨ L = 121 ∨ L = 118 ∨ L = 114
theorem dC_wf {u : Nat} {V : kV} (h : WfV u V) (L a b c : Int32) : WfV (u + 1) (dC V L a b c).2.2 := by
  unfold dC
  split
  · exact cAdd_wf h _ _ _
  · split
    · exact cDrop_wf h _
    · split
      · exact cTurn_wf h _ _
      · split
        · exact cShine_wf h _ _
        · split
          · exact cDay_wf h _
          · split
            · exact cVac_wf h _ _
            · exact cRate_wf h _
theorem dC_c (V : kV) (L a b c : Int32) : (dC V L a b c).1 < 5 := by
  unfold dC
  split
  · exact (cAdd_c V _ _ _).1
  · split
    · exact (cDrop_c V _).1
    · split
      · exact (cTurn_c V _ _).1
      · split
        · exact cShine_c V _ _
        · split
          · exact (cDay_c V _).1
          · split
            · exact (cVac_c V _ _).1
            · exact (cRate_c V _).1
theorem dC_99 (V : kV) (a b c : Int32) : dC V 99 a b c = cAdd V a b c := by unfold dC; rw [if_pos rfl]
theorem dC_100 (V : kV) (a b c : Int32) : dC V 100 a b c = cDrop V a := by unfold dC; rw [if_neg (by decide), if_pos rfl]
theorem dC_116 (V : kV) (a b c : Int32) : dC V 116 a b c = cTurn V a b := by unfold dC; rw [if_neg (by decide), if_neg (by decide), if_pos rfl]
theorem dC_115 (V : kV) (a b c : Int32) : dC V 115 a b c = cShine V a b := by unfold dC; rw [if_neg (by decide), if_neg (by decide), if_neg (by decide), if_pos rfl]
theorem dC_121 (V : kV) (a b c : Int32) : dC V 121 a b c = cDay V a := by unfold dC; rw [if_neg (by decide), if_neg (by decide), if_neg (by decide), if_neg (by decide), if_pos rfl]
theorem dC_118 (V : kV) (a b c : Int32) : dC V 118 a b c = cVac V a b := by unfold dC; rw [if_neg (by decide), if_neg (by decide), if_neg (by decide), if_neg (by decide), if_neg (by decide), if_pos rfl]
theorem dC_114 (V : kV) (a b c : Int32) : dC V 114 a b c = cRate V a := by unfold dC; rw [if_neg (by decide), if_neg (by decide), if_neg (by decide), if_neg (by decide), if_neg (by decide), if_neg (by decide)]
set_option maxRecDepth 20000 in
set_option maxHeartbeats 4000000 in
theorem s_X8_does (E : qE) (g : qG) (m : qM) (y : Nat) (hs : ModS g m y) (V : kV) (hR : RepF (rowF m y 0) V) (u : Nat) (hw : WfV u V) (hu : u ≤ 10000) (t : Nat) (ht : t + 4 ≤ 244) (L a b c : Int32) (h0 : qI m (y + 5) t = L) (h1 : qI m (y + 5) (t + 1) = a) (h2 : qI m (y + 5) (t + 2) = b) (h3 : qI m (y + 5) (t + 3) = c) (hL : isL L) : Sp E yX8_does cX8_does 4 (some .int) 4 0 0 [.ref y, .int (nI t)] g m (pM y g m (dC V L a b c)) := by
  refine Sp.of (by decide) [some (.ref y), some (.int (nI t)), none, none] rfl rfl (Nat.le_of_ble_eq_true rfl) (fun X hX => ?_)
  rcases hL with rfl | rfl | rfl | rfl | rfl | rfl | rfl
  · refine r_aload_n hX dX8_does_0 rfl ?_
    refine r_getR hX dX8_does_1 hs.1.1 fl_X8_30 hs.2.2.2.2.2.1 ?_
    refine r_iload_n hX dX8_does_4 rfl ?_
    refine r_iconst (v := 1) hX dX8_does_5 (by decide) ?_
    refine r_iadd hX dX8_does_6 ?_
    rw [nI_1]
    refine r_ialoadN hX dX8_does_7 hs.1.2.2.2.2.2.1 (show t + 1 < 244 by omega) (by decide) ?_
    rw [h1]
    refine r_istore_n hX dX8_does_8 (Nat.le_of_ble_eq_true rfl) rfl ?_
    refine r_aload_n hX dX8_does_9 rfl ?_
    refine r_getR hX dX8_does_10 hs.1.1 fl_X8_30 hs.2.2.2.2.2.1 ?_
    refine r_iload_n hX dX8_does_13 rfl ?_
    refine r_iconst (v := 2) hX dX8_does_14 (by decide) ?_
    refine r_iadd hX dX8_does_15 ?_
    rw [show nI t + 2 = nI (t + 2) from nI_add t 2]
    refine r_ialoadN hX dX8_does_16 hs.1.2.2.2.2.2.1 (show t + 2 < 244 by omega) (by decide) ?_
    rw [h2]
    refine r_istore_n hX dX8_does_17 (Nat.le_of_ble_eq_true rfl) rfl ?_
    refine r_aload_n hX dX8_does_18 rfl ?_
    refine r_getR hX dX8_does_19 hs.1.1 fl_X8_30 hs.2.2.2.2.2.1 ?_
    refine r_iload_n hX dX8_does_22 rfl ?_
    refine r_ialoadN hX dX8_does_23 hs.1.2.2.2.2.2.1 (show t < 244 by omega) (by decide) ?_
    rw [h0]
    refine r_lookup (off := 60) (tgt := 84) hX dX8_does_24 (by decide) (by decide) (by decide) ?_
    refine r_aload_n hX dX8_does_84 rfl ?_
    refine r_iload_n hX dX8_does_85 rfl ?_
    refine r_iload_n hX dX8_does_86 rfl ?_
    refine r_aload_n hX dX8_does_87 rfl ?_
    refine r_getR hX dX8_does_88 hs.1.1 fl_X8_30 hs.2.2.2.2.2.1 ?_
    refine r_iload_n hX dX8_does_91 rfl ?_
    refine r_iconst (v := 3) hX dX8_does_92 (by decide) ?_
    refine r_iadd hX dX8_does_93 ?_
    rw [show nI t + 3 = nI (t + 3) from nI_add t 3]
    refine r_ialoadN hX dX8_does_94 hs.1.2.2.2.2.2.1 (show t + 3 < 244 by omega) (by decide) ?_
    rw [h3]
    refine r_callV hX dX8_does_95 (s_X8_comes E g m y hs V hR u hw hu a b c) ml_X8_76 rfl rfl hs.1.1 rfl ⟨Nat.le_of_ble_eq_true rfl, Nat.le_of_ble_eq_true rfl⟩ ⟨Nat.le_of_ble_eq_true rfl, Nat.le_of_ble_eq_true rfl, rfl, Nat.le_of_ble_eq_true rfl⟩ (fun v95 g95 m95 hp => ?_)
    obtain ⟨hv, hg, hR2, h42, hM2⟩ := hp
    subst v95
    subst g95
    exact r_iret hX dX8_does_98 (by rw [dC_99]; exact ⟨rfl, rfl, hR2, h42, hM2⟩) ⟨Nat.le_of_ble_eq_true rfl, Nat.le_of_ble_eq_true rfl⟩
  · refine r_aload_n hX dX8_does_0 rfl ?_
    refine r_getR hX dX8_does_1 hs.1.1 fl_X8_30 hs.2.2.2.2.2.1 ?_
    refine r_iload_n hX dX8_does_4 rfl ?_
    refine r_iconst (v := 1) hX dX8_does_5 (by decide) ?_
    refine r_iadd hX dX8_does_6 ?_
    rw [nI_1]
    refine r_ialoadN hX dX8_does_7 hs.1.2.2.2.2.2.1 (show t + 1 < 244 by omega) (by decide) ?_
    rw [h1]
    refine r_istore_n hX dX8_does_8 (Nat.le_of_ble_eq_true rfl) rfl ?_
    refine r_aload_n hX dX8_does_9 rfl ?_
    refine r_getR hX dX8_does_10 hs.1.1 fl_X8_30 hs.2.2.2.2.2.1 ?_
    refine r_iload_n hX dX8_does_13 rfl ?_
    refine r_iconst (v := 2) hX dX8_does_14 (by decide) ?_
    refine r_iadd hX dX8_does_15 ?_
    rw [show nI t + 2 = nI (t + 2) from nI_add t 2]
    refine r_ialoadN hX dX8_does_16 hs.1.2.2.2.2.2.1 (show t + 2 < 244 by omega) (by decide) ?_
    rw [h2]
    refine r_istore_n hX dX8_does_17 (Nat.le_of_ble_eq_true rfl) rfl ?_
    refine r_aload_n hX dX8_does_18 rfl ?_
    refine r_getR hX dX8_does_19 hs.1.1 fl_X8_30 hs.2.2.2.2.2.1 ?_
    refine r_iload_n hX dX8_does_22 rfl ?_
    refine r_ialoadN hX dX8_does_23 hs.1.2.2.2.2.2.1 (show t < 244 by omega) (by decide) ?_
    rw [h0]
    refine r_lookup (off := 75) (tgt := 99) hX dX8_does_24 (by decide) (by decide) (by decide) ?_
    refine r_aload_n hX dX8_does_99 rfl ?_
    refine r_iload_n hX dX8_does_100 rfl ?_
    refine r_callV hX dX8_does_101 (s_X8_drops E g m y hs V hR u hw hu a) ml_X8_87 rfl rfl hs.1.1 rfl ⟨Nat.le_of_ble_eq_true rfl, Nat.le_of_ble_eq_true rfl⟩ ⟨Nat.le_of_ble_eq_true rfl, Nat.le_of_ble_eq_true rfl, rfl, Nat.le_of_ble_eq_true rfl⟩ (fun v101 g101 m101 hp => ?_)
    obtain ⟨hv, hg, hR2, h42, hM2⟩ := hp
    subst v101
    subst g101
    exact r_iret hX dX8_does_104 (by rw [dC_100]; exact ⟨rfl, rfl, hR2, h42, hM2⟩) ⟨Nat.le_of_ble_eq_true rfl, Nat.le_of_ble_eq_true rfl⟩
  · refine r_aload_n hX dX8_does_0 rfl ?_
    refine r_getR hX dX8_does_1 hs.1.1 fl_X8_30 hs.2.2.2.2.2.1 ?_
    refine r_iload_n hX dX8_does_4 rfl ?_
    refine r_iconst (v := 1) hX dX8_does_5 (by decide) ?_
    refine r_iadd hX dX8_does_6 ?_
    rw [nI_1]
    refine r_ialoadN hX dX8_does_7 hs.1.2.2.2.2.2.1 (show t + 1 < 244 by omega) (by decide) ?_
    rw [h1]
    refine r_istore_n hX dX8_does_8 (Nat.le_of_ble_eq_true rfl) rfl ?_
    refine r_aload_n hX dX8_does_9 rfl ?_
    refine r_getR hX dX8_does_10 hs.1.1 fl_X8_30 hs.2.2.2.2.2.1 ?_
    refine r_iload_n hX dX8_does_13 rfl ?_
    refine r_iconst (v := 2) hX dX8_does_14 (by decide) ?_
    refine r_iadd hX dX8_does_15 ?_
    rw [show nI t + 2 = nI (t + 2) from nI_add t 2]
    refine r_ialoadN hX dX8_does_16 hs.1.2.2.2.2.2.1 (show t + 2 < 244 by omega) (by decide) ?_
    rw [h2]
    refine r_istore_n hX dX8_does_17 (Nat.le_of_ble_eq_true rfl) rfl ?_
    refine r_aload_n hX dX8_does_18 rfl ?_
    refine r_getR hX dX8_does_19 hs.1.1 fl_X8_30 hs.2.2.2.2.2.1 ?_
    refine r_iload_n hX dX8_does_22 rfl ?_
    refine r_ialoadN hX dX8_does_23 hs.1.2.2.2.2.2.1 (show t < 244 by omega) (by decide) ?_
    rw [h0]
    refine r_lookup (off := 81) (tgt := 105) hX dX8_does_24 (by decide) (by decide) (by decide) ?_
    refine r_aload_n hX dX8_does_105 rfl ?_
    refine r_iload_n hX dX8_does_106 rfl ?_
    refine r_iload_n hX dX8_does_107 rfl ?_
    refine r_callV hX dX8_does_108 (s_X8_turns E g m y hs V hR u hw hu a b) ml_X8_90 rfl rfl hs.1.1 rfl ⟨Nat.le_of_ble_eq_true rfl, Nat.le_of_ble_eq_true rfl⟩ ⟨Nat.le_of_ble_eq_true rfl, Nat.le_of_ble_eq_true rfl, rfl, Nat.le_of_ble_eq_true rfl⟩ (fun v108 g108 m108 hp => ?_)
    obtain ⟨hv, hg, hR2, h42, hM2⟩ := hp
    subst v108
    subst g108
    exact r_iret hX dX8_does_111 (by rw [dC_116]; exact ⟨rfl, rfl, hR2, h42, hM2⟩) ⟨Nat.le_of_ble_eq_true rfl, Nat.le_of_ble_eq_true rfl⟩
  · refine r_aload_n hX dX8_does_0 rfl ?_
    refine r_getR hX dX8_does_1 hs.1.1 fl_X8_30 hs.2.2.2.2.2.1 ?_
    refine r_iload_n hX dX8_does_4 rfl ?_
    refine r_iconst (v := 1) hX dX8_does_5 (by decide) ?_
    refine r_iadd hX dX8_does_6 ?_
    rw [nI_1]
    refine r_ialoadN hX dX8_does_7 hs.1.2.2.2.2.2.1 (show t + 1 < 244 by omega) (by decide) ?_
    rw [h1]
    refine r_istore_n hX dX8_does_8 (Nat.le_of_ble_eq_true rfl) rfl ?_
    refine r_aload_n hX dX8_does_9 rfl ?_
    refine r_getR hX dX8_does_10 hs.1.1 fl_X8_30 hs.2.2.2.2.2.1 ?_
    refine r_iload_n hX dX8_does_13 rfl ?_
    refine r_iconst (v := 2) hX dX8_does_14 (by decide) ?_
    refine r_iadd hX dX8_does_15 ?_
    rw [show nI t + 2 = nI (t + 2) from nI_add t 2]
    refine r_ialoadN hX dX8_does_16 hs.1.2.2.2.2.2.1 (show t + 2 < 244 by omega) (by decide) ?_
    rw [h2]
    refine r_istore_n hX dX8_does_17 (Nat.le_of_ble_eq_true rfl) rfl ?_
    refine r_aload_n hX dX8_does_18 rfl ?_
    refine r_getR hX dX8_does_19 hs.1.1 fl_X8_30 hs.2.2.2.2.2.1 ?_
    refine r_iload_n hX dX8_does_22 rfl ?_
    refine r_ialoadN hX dX8_does_23 hs.1.2.2.2.2.2.1 (show t < 244 by omega) (by decide) ?_
    rw [h0]
    refine r_lookup (off := 88) (tgt := 112) hX dX8_does_24 (by decide) (by decide) (by decide) ?_
    refine r_aload_n hX dX8_does_112 rfl ?_
    refine r_iload_n hX dX8_does_113 rfl ?_
    refine r_iload_n hX dX8_does_114 rfl ?_
    refine r_callV hX dX8_does_115 (s_X8_shines E g m y hs V hR u hw hu a b) ml_X8_93 rfl rfl hs.1.1 rfl ⟨Nat.le_of_ble_eq_true rfl, Nat.le_of_ble_eq_true rfl⟩ ⟨Nat.le_of_ble_eq_true rfl, Nat.le_of_ble_eq_true rfl, rfl, Nat.le_of_ble_eq_true rfl⟩ (fun v115 g115 m115 hp => ?_)
    obtain ⟨hv, hg, hR2, h42, hM2⟩ := hp
    subst v115
    subst g115
    exact r_iret hX dX8_does_118 (by rw [dC_115]; exact ⟨rfl, rfl, hR2, h42, hM2⟩) ⟨Nat.le_of_ble_eq_true rfl, Nat.le_of_ble_eq_true rfl⟩
  · refine r_aload_n hX dX8_does_0 rfl ?_
    refine r_getR hX dX8_does_1 hs.1.1 fl_X8_30 hs.2.2.2.2.2.1 ?_
    refine r_iload_n hX dX8_does_4 rfl ?_
    refine r_iconst (v := 1) hX dX8_does_5 (by decide) ?_
    refine r_iadd hX dX8_does_6 ?_
    rw [nI_1]
    refine r_ialoadN hX dX8_does_7 hs.1.2.2.2.2.2.1 (show t + 1 < 244 by omega) (by decide) ?_
    rw [h1]
    refine r_istore_n hX dX8_does_8 (Nat.le_of_ble_eq_true rfl) rfl ?_
    refine r_aload_n hX dX8_does_9 rfl ?_
    refine r_getR hX dX8_does_10 hs.1.1 fl_X8_30 hs.2.2.2.2.2.1 ?_
    refine r_iload_n hX dX8_does_13 rfl ?_
    refine r_iconst (v := 2) hX dX8_does_14 (by decide) ?_
    refine r_iadd hX dX8_does_15 ?_
    rw [show nI t + 2 = nI (t + 2) from nI_add t 2]
    refine r_ialoadN hX dX8_does_16 hs.1.2.2.2.2.2.1 (show t + 2 < 244 by omega) (by decide) ?_
    rw [h2]
    refine r_istore_n hX dX8_does_17 (Nat.le_of_ble_eq_true rfl) rfl ?_
    refine r_aload_n hX dX8_does_18 rfl ?_
    refine r_getR hX dX8_does_19 hs.1.1 fl_X8_30 hs.2.2.2.2.2.1 ?_
    refine r_iload_n hX dX8_does_22 rfl ?_
    refine r_ialoadN hX dX8_does_23 hs.1.2.2.2.2.2.1 (show t < 244 by omega) (by decide) ?_
    rw [h0]
    refine r_lookup (off := 95) (tgt := 119) hX dX8_does_24 (by decide) (by decide) (by decide) ?_
    refine r_aload_n hX dX8_does_119 rfl ?_
    refine r_iload_n hX dX8_does_120 rfl ?_
    refine r_callV hX dX8_does_121 (s_X8_goOn E g m y hs V hR u hw hu a) ml_X8_100 rfl rfl hs.1.1 rfl ⟨Nat.le_of_ble_eq_true rfl, Nat.le_of_ble_eq_true rfl⟩ ⟨Nat.le_of_ble_eq_true rfl, Nat.le_of_ble_eq_true rfl, rfl, Nat.le_of_ble_eq_true rfl⟩ (fun v121 g121 m121 hp => ?_)
    obtain ⟨hv, hg, hR2, h42, hM2⟩ := hp
    subst v121
    subst g121
    exact r_iret hX dX8_does_124 (by rw [dC_121]; exact ⟨rfl, rfl, hR2, h42, hM2⟩) ⟨Nat.le_of_ble_eq_true rfl, Nat.le_of_ble_eq_true rfl⟩
  · refine r_aload_n hX dX8_does_0 rfl ?_
    refine r_getR hX dX8_does_1 hs.1.1 fl_X8_30 hs.2.2.2.2.2.1 ?_
    refine r_iload_n hX dX8_does_4 rfl ?_
    refine r_iconst (v := 1) hX dX8_does_5 (by decide) ?_
    refine r_iadd hX dX8_does_6 ?_
    rw [nI_1]
    refine r_ialoadN hX dX8_does_7 hs.1.2.2.2.2.2.1 (show t + 1 < 244 by omega) (by decide) ?_
    rw [h1]
    refine r_istore_n hX dX8_does_8 (Nat.le_of_ble_eq_true rfl) rfl ?_
    refine r_aload_n hX dX8_does_9 rfl ?_
    refine r_getR hX dX8_does_10 hs.1.1 fl_X8_30 hs.2.2.2.2.2.1 ?_
    refine r_iload_n hX dX8_does_13 rfl ?_
    refine r_iconst (v := 2) hX dX8_does_14 (by decide) ?_
    refine r_iadd hX dX8_does_15 ?_
    rw [show nI t + 2 = nI (t + 2) from nI_add t 2]
    refine r_ialoadN hX dX8_does_16 hs.1.2.2.2.2.2.1 (show t + 2 < 244 by omega) (by decide) ?_
    rw [h2]
    refine r_istore_n hX dX8_does_17 (Nat.le_of_ble_eq_true rfl) rfl ?_
    refine r_aload_n hX dX8_does_18 rfl ?_
    refine r_getR hX dX8_does_19 hs.1.1 fl_X8_30 hs.2.2.2.2.2.1 ?_
    refine r_iload_n hX dX8_does_22 rfl ?_
    refine r_ialoadN hX dX8_does_23 hs.1.2.2.2.2.2.1 (show t < 244 by omega) (by decide) ?_
    rw [h0]
    refine r_lookup (off := 101) (tgt := 125) hX dX8_does_24 (by decide) (by decide) (by decide) ?_
    refine r_aload_n hX dX8_does_125 rfl ?_
    refine r_iload_n hX dX8_does_126 rfl ?_
    refine r_iload_n hX dX8_does_127 rfl ?_
    refine r_callV hX dX8_does_128 (s_X8_cleans E g m y hs V hR u hw hu a b) ml_X8_106 rfl rfl hs.1.1 rfl ⟨Nat.le_of_ble_eq_true rfl, Nat.le_of_ble_eq_true rfl⟩ ⟨Nat.le_of_ble_eq_true rfl, Nat.le_of_ble_eq_true rfl, rfl, Nat.le_of_ble_eq_true rfl⟩ (fun v128 g128 m128 hp => ?_)
    obtain ⟨hv, hg, hR2, h42, hM2⟩ := hp
    subst v128
    subst g128
    exact r_iret hX dX8_does_131 (by rw [dC_118]; exact ⟨rfl, rfl, hR2, h42, hM2⟩) ⟨Nat.le_of_ble_eq_true rfl, Nat.le_of_ble_eq_true rfl⟩
  · refine r_aload_n hX dX8_does_0 rfl ?_
    refine r_getR hX dX8_does_1 hs.1.1 fl_X8_30 hs.2.2.2.2.2.1 ?_
    refine r_iload_n hX dX8_does_4 rfl ?_
    refine r_iconst (v := 1) hX dX8_does_5 (by decide) ?_
    refine r_iadd hX dX8_does_6 ?_
    rw [nI_1]
    refine r_ialoadN hX dX8_does_7 hs.1.2.2.2.2.2.1 (show t + 1 < 244 by omega) (by decide) ?_
    rw [h1]
    refine r_istore_n hX dX8_does_8 (Nat.le_of_ble_eq_true rfl) rfl ?_
    refine r_aload_n hX dX8_does_9 rfl ?_
    refine r_getR hX dX8_does_10 hs.1.1 fl_X8_30 hs.2.2.2.2.2.1 ?_
    refine r_iload_n hX dX8_does_13 rfl ?_
    refine r_iconst (v := 2) hX dX8_does_14 (by decide) ?_
    refine r_iadd hX dX8_does_15 ?_
    rw [show nI t + 2 = nI (t + 2) from nI_add t 2]
    refine r_ialoadN hX dX8_does_16 hs.1.2.2.2.2.2.1 (show t + 2 < 244 by omega) (by decide) ?_
    rw [h2]
    refine r_istore_n hX dX8_does_17 (Nat.le_of_ble_eq_true rfl) rfl ?_
    refine r_aload_n hX dX8_does_18 rfl ?_
    refine r_getR hX dX8_does_19 hs.1.1 fl_X8_30 hs.2.2.2.2.2.1 ?_
    refine r_iload_n hX dX8_does_22 rfl ?_
    refine r_ialoadN hX dX8_does_23 hs.1.2.2.2.2.2.1 (show t < 244 by omega) (by decide) ?_
    rw [h0]
    refine r_lookup (off := 108) (tgt := 132) hX dX8_does_24 (by decide) (by decide) (by decide) ?_
    refine r_aload_n hX dX8_does_132 rfl ?_
    refine r_iload_n hX dX8_does_133 rfl ?_
    refine r_callV hX dX8_does_134 (s_X8_rates E g m y hs V hR u hw hu a) ml_X8_109 rfl rfl hs.1.1 rfl ⟨Nat.le_of_ble_eq_true rfl, Nat.le_of_ble_eq_true rfl⟩ ⟨Nat.le_of_ble_eq_true rfl, Nat.le_of_ble_eq_true rfl, rfl, Nat.le_of_ble_eq_true rfl⟩ (fun v134 g134 m134 hp => ?_)
    obtain ⟨hv, hg, hR2, h42, hM2⟩ := hp
    subst v134
    subst g134
    exact r_iret hX dX8_does_137 (by rw [dC_114]; exact ⟨rfl, rfl, hR2, h42, hM2⟩) ⟨Nat.le_of_ble_eq_true rfl, Nat.le_of_ble_eq_true rfl⟩
