/-! ===== CometObservatoryModel: the ring, means; undo, saving, the text ===== -/
theorem oI_ne {n : Nat} (hn : n ≤ 60) : ¬ oI (some n) = -1 := by
  intro h
  have h2 := congrArg Int32.toInt h
  rw [show oI (some n) = nI n from rfl, nI_toInt (by omega), show ((-1 : Int32)).toInt = -1 from rfl] at h2
  omega
set_option maxRecDepth 20000 in
set_option maxHeartbeats 4000000 in
theorem s_X8_dust (E : qE) (g : qG) (m : qM) (y : Nat) (O : kO) (hO : ModV g m y O) (u : Nat) (hw : WfO u O) (hu : u ≤ 6144) (p : Int32) : Sp E yX8_dust cX8_dust 2 (some .int) 1 0 0 [.ref y, .int p] g m (pU y g m (qDust O p)) := by
  refine Sp.of (by decide) [some (.ref y), some (.int p)] rfl rfl (Nat.le_of_ble_eq_true rfl) (fun X hX => ?_)
  have hR := hO.2.2
  refine r_aload_n hX dX8_dust_0 rfl ?_
  refine r_iload_n hX dX8_dust_1 rfl ?_
  refine r_iconst (v := 0) hX dX8_dust_2 (by decide) ?_
  refine r_bipush (v := 11) hX dX8_dust_3 (by decide) ?_
  refine r_callS hX dX8_dust_5 (s_X8_in E g m p 0 11 (by decide) (by decide)) ml_X8_69 rfl rfl ⟨Nat.le_of_ble_eq_true rfl, Nat.le_of_ble_eq_true rfl⟩ ⟨Nat.le_of_ble_eq_true rfl, Nat.le_of_ble_eq_true rfl, rfl, Nat.le_of_ble_eq_true rfl⟩ (fun v5 g5 m5 hp => ?_)
  obtain ⟨hv, hg, hm⟩ := hp
  subst v5
  subst g5
  subst m5
  refine r_callV hX dX8_dust_8 (s_X8_fine E g m y (hO.1.1) (rng p 0 11)) ml_X8_115 rfl rfl hO.1.1.1.1 rfl ⟨Nat.le_of_ble_eq_true rfl, Nat.le_of_ble_eq_true rfl⟩ ⟨Nat.le_of_ble_eq_true rfl, Nat.le_of_ble_eq_true rfl, rfl, Nat.le_of_ble_eq_true rfl⟩ (fun v8 g8 m8 hp => ?_)
  obtain ⟨hv, hg, hm⟩ := hp
  subst v8
  subst g8
  subst m8
  refine r_if_eq (tgt := 26) hX dX8_dust_11 (by decide) (fun c11 => ?_) (fun c11 => ?_)
  · have hn : ¬ rng p 0 11 := fun h => absurd c11 (by rw [if_pos h]; decide)
    refine r_iconst (v := 0) hX dX8_dust_26 (by decide) ?_
    exact r_iret hX dX8_dust_27 (by rw [show qDust O p = (1, 0, O) from if_neg hn, if_neg hn]; exact hO.no (by decide) rfl) ⟨Nat.le_of_ble_eq_true rfl, Nat.le_of_ble_eq_true rfl⟩
  · have hn : rng p 0 11 := Classical.byContradiction (fun h => c11 (by rw [if_neg h]))
    obtain ⟨j, -, hj, rfl, hcl⟩ := rng_to hn (by decide) (by decide)
    rw [show (if rng (nI j) 0 11 then (0 : Int32) else 1) = 0 from if_pos hn]
    refine r_aload_n hX dX8_dust_14 rfl ?_
    refine r_getR hX dX8_dust_15 hO.1.1.1.1 fl_X8_9 (hO.1.1.to rfl).2.1 ?_
    refine r_bipush (v := 37) hX dX8_dust_18 (by decide) ?_
    refine r_iload_n hX dX8_dust_20 rfl ?_
    refine r_iadd hX dX8_dust_21 ?_
    rw [show (37 : Int32) + nI j = nI (37 + j) from nI_add 37 j]
    refine r_ialoadN hX dX8_dust_22 hO.1.1.1.2.1 (show 37 + j < 539 by omega) (by decide) ?_
    rw [(hO.thr 0).2.2.rD (show j < 12 by omega)]
    refine r_goto (tgt := 27) hX dX8_dust_23 (by decide) ?_
    exact r_iret hX dX8_dust_27 (by rw [show qDust O (nI j) = (0, nI (O.1.2.2 j), O) by unfold qDust; rw [if_pos hn, hcl]]; exact hO.ok rfl) ⟨Nat.le_of_ble_eq_true rfl, Nat.le_of_ble_eq_true rfl⟩
set_option maxRecDepth 20000 in
set_option maxHeartbeats 4000000 in
theorem s_X8_gains (E : qE) (g : qG) (m : qM) (y : Nat) (hs : ModS g m y) (V : kV) (hR : RepF (rowF m y 0) V) (a b : Nat) (ha : a < 2 ^ 30) (hb : b < 2 ^ 30) : Sp E yX8_gains cX8_gains 3 (some .int) 1 0 0 [.ref y, .int (nI a), .int (nI b)] g m (fun v g' m' => v = some (.int (gN V.2.2 (V.2.1 4) a b)) ∧ g' = g ∧ m' = m) := by
  refine Sp.of (by decide) [some (.ref y), some (.int (nI a)), some (.int (nI b))] rfl rfl (Nat.le_of_ble_eq_true rfl) (fun X hX => ?_)
  refine r_aload_n hX dX8_gains_0 rfl ?_
  refine r_iload_n hX dX8_gains_1 rfl ?_
  refine r_iload_n hX dX8_gains_2 rfl ?_
  refine r_callV hX dX8_gains_3 (s_X8_dustOf E g m y hs V hR a b ha hb) ml_X8_103 rfl rfl hs.1.1 rfl ⟨Nat.le_of_ble_eq_true rfl, Nat.le_of_ble_eq_true rfl⟩ ⟨Nat.le_of_ble_eq_true rfl, Nat.le_of_ble_eq_true rfl, rfl, Nat.le_of_ble_eq_true rfl⟩ (fun v3 g3 m3 hp => ?_)
  obtain ⟨hv, hg, hm⟩ := hp
  subst v3
  subst g3
  subst m3
  refine r_aload_n hX dX8_gains_6 rfl ?_
  refine r_getR hX dX8_gains_7 hs.1.1 fl_X8_9 hs.2.1 ?_
  refine r_iconst (v := 4) hX dX8_gains_10 (by decide) ?_
  refine r_ialoadN hX dX8_gains_11 hs.1.2.1 (show 4 < 539 by decide) (by decide) ?_
  rw [hR.rH (k := 4) (by decide) (by decide)]
  refine r_iload_n hX dX8_gains_12 rfl ?_
  refine r_imul hX dX8_gains_13 ?_
  rw [pk_mul]
  refine r_isub hX dX8_gains_14 ?_
  exact r_iret hX dX8_gains_15 ⟨rfl, rfl, rfl⟩ ⟨Nat.le_of_ble_eq_true rfl, Nat.le_of_ble_eq_true rfl⟩
set_option maxRecDepth 20000 in
set_option maxHeartbeats 4000000 in
theorem s_X8_gain (E : qE) (g : qG) (m : qM) (y : Nat) (O : kO) (hO : ModV g m y O) (u : Nat) (hw : WfO u O) (hu : u ≤ 6144) (a n : Int32) : Sp E yX8_gain cX8_gain 3 (some .int) 2 0 0 [.ref y, .int a, .int n] g m (pU y g m (qGain O a n)) := by
  refine Sp.of (by decide) [some (.ref y), some (.int a), some (.int n)] rfl rfl (Nat.le_of_ble_eq_true rfl) (fun X hX => ?_)
  have hR := hO.2.2
  refine r_aload_n hX dX8_gain_0 rfl ?_
  refine r_iload_n hX dX8_gain_1 rfl ?_
  refine r_iconst (v := 0) hX dX8_gain_2 (by decide) ?_
  refine r_bipush (v := 11) hX dX8_gain_3 (by decide) ?_
  refine r_callS hX dX8_gain_5 (s_X8_in E g m a 0 11 (by decide) (by decide)) ml_X8_69 rfl rfl ⟨Nat.le_of_ble_eq_true rfl, Nat.le_of_ble_eq_true rfl⟩ ⟨Nat.le_of_ble_eq_true rfl, Nat.le_of_ble_eq_true rfl, rfl, Nat.le_of_ble_eq_true rfl⟩ (fun v5 g5 m5 hp => ?_)
  obtain ⟨hv, hg, hm⟩ := hp
  subst v5
  subst g5
  subst m5
  refine r_if_ne (tgt := 15) hX dX8_gain_8 (by decide) (fun c8 => ?_) (fun c8 => ?_)
  · have ha : rng a 0 11 := Classical.byContradiction (fun h => c8 (by rw [if_neg h]))
    refine r_iload_n hX dX8_gain_15 rfl ?_
    refine r_iconst (v := 1) hX dX8_gain_16 (by decide) ?_
    refine r_bipush (v := 12) hX dX8_gain_17 (by decide) ?_
    refine r_callS hX dX8_gain_19 (s_X8_in E g m n 1 12 (by decide) (by decide)) ml_X8_69 rfl rfl ⟨Nat.le_of_ble_eq_true rfl, Nat.le_of_ble_eq_true rfl⟩ ⟨Nat.le_of_ble_eq_true rfl, Nat.le_of_ble_eq_true rfl, rfl, Nat.le_of_ble_eq_true rfl⟩ (fun v19 g19 m19 hp => ?_)
    obtain ⟨hv, hg, hm⟩ := hp
    subst v19
    subst g19
    subst m19
    refine r_if_ne (tgt := 29) hX dX8_gain_22 (by decide) (fun c22 => ?_) (fun c22 => ?_)
    · have hn : rng n 1 12 := Classical.byContradiction (fun h => c22 (by rw [if_neg h]))
      obtain ⟨a9, -, ha1, rfl, hca⟩ := rng_to ha (by decide) (by decide)
      obtain ⟨n9, hn1, hn2, rfl, hcn⟩ := rng_to hn (by decide) (by decide)
      refine r_iconst (v := 0) hX dX8_gain_29 (by decide) ?_
      refine r_putI hX dX8_gain_30 hO.1.1.1.1 fl_X8_36 ?_
      refine r_aload_n hX dX8_gain_33 rfl ?_
      refine r_getI hX dX8_gain_34 hO.1.1.1.1 fl_X8_36 ?_
      rw [qI_wI_s]
      refine r_if_ne (tgt := 49) hX dX8_gain_37 (by decide) (fun c37 => ?_) (fun c37 => ?_)
      · exact absurd rfl c37
      · refine r_aload_n hX dX8_gain_40 rfl ?_
        refine r_iload_n hX dX8_gain_41 rfl ?_
        refine r_iload_n hX dX8_gain_42 rfl ?_
        refine r_callV hX dX8_gain_43 (s_X8_gains E g _ y (by exact hO.1.1.to rfl) O.1 (by exact (hO.thr 0).2.2) a9 n9 (by omega) (by omega)) ml_X8_150 rfl rfl hO.1.1.1.1 rfl ⟨Nat.le_of_ble_eq_true rfl, Nat.le_of_ble_eq_true rfl⟩ ⟨Nat.le_of_ble_eq_true rfl, Nat.le_of_ble_eq_true rfl, rfl, Nat.le_of_ble_eq_true rfl⟩ (fun v43 g43 m43 hp => ?_)
        obtain ⟨hv, hg, hm⟩ := hp
        subst v43
        subst g43
        subst m43
        refine r_goto (tgt := 50) hX dX8_gain_46 (by decide) ?_
        exact r_iret hX dX8_gain_50 (by rw [show qGain O (nI a9) (nI n9) = (0, gN O.1.2.2 (O.1.2.1 4) a9 n9, O) by unfold qGain; rw [if_pos ha, if_pos hn, hca, hcn]; rfl]; exact hO.ok rfl) ⟨Nat.le_of_ble_eq_true rfl, Nat.le_of_ble_eq_true rfl⟩
    · have hn : ¬ rng n 1 12 := fun h => absurd c22 (by rw [if_pos h]; decide)
      have eR : qGain O a n = (2, 0, O) := by unfold qGain; rw [if_pos ha, if_neg hn]
      refine r_iconst (v := 2) hX dX8_gain_25 (by decide) ?_
      refine r_goto (tgt := 30) hX dX8_gain_26 (by decide) ?_
      refine r_putI hX dX8_gain_30 hO.1.1.1.1 fl_X8_36 ?_
      refine r_aload_n hX dX8_gain_33 rfl ?_
      refine r_getI hX dX8_gain_34 hO.1.1.1.1 fl_X8_36 ?_
      rw [qI_wI_s]
      refine r_if_ne (tgt := 49) hX dX8_gain_37 (by decide) (fun c37 => ?_) (fun c37 => ?_)
      · refine r_iconst (v := 0) hX dX8_gain_49 (by decide) ?_
        exact r_iret hX dX8_gain_50 (by rw [eR]; exact hO.no (by decide) rfl) ⟨Nat.le_of_ble_eq_true rfl, Nat.le_of_ble_eq_true rfl⟩
      · exact absurd c37 (by decide)
  · have hn : ¬ rng a 0 11 := fun h => absurd c8 (by rw [if_pos h]; decide)
    have eR : qGain O a n = (1, 0, O) := if_neg hn
    refine r_iconst (v := 1) hX dX8_gain_11 (by decide) ?_
    refine r_goto (tgt := 30) hX dX8_gain_12 (by decide) ?_
    refine r_putI hX dX8_gain_30 hO.1.1.1.1 fl_X8_36 ?_
    refine r_aload_n hX dX8_gain_33 rfl ?_
    refine r_getI hX dX8_gain_34 hO.1.1.1.1 fl_X8_36 ?_
    rw [qI_wI_s]
    refine r_if_ne (tgt := 49) hX dX8_gain_37 (by decide) (fun c37 => ?_) (fun c37 => ?_)
    · refine r_iconst (v := 0) hX dX8_gain_49 (by decide) ?_
      exact r_iret hX dX8_gain_50 (by rw [eR]; exact hO.no (by decide) rfl) ⟨Nat.le_of_ble_eq_true rfl, Nat.le_of_ble_eq_true rfl⟩
    · exact absurd c37 (by decide)
set_option maxRecDepth 20000 in
set_option maxHeartbeats 4000000 in
theorem s_X8_dustTotal (E : qE) (g : qG) (m : qM) (y : Nat) (O : kO) (hO : ModV g m y O) (u : Nat) (hw : WfO u O) (hu : u ≤ 6144)  : Sp E yX8_dustTotal cX8_dustTotal 1 (some .int) 1 0 0 [.ref y] g m (pU y g m (qTot O)) := by
  refine Sp.of (by decide) [some (.ref y)] rfl rfl (Nat.le_of_ble_eq_true rfl) (fun X hX => ?_)
  have hR := hO.2.2
  refine r_aload_n hX dX8_dustTotal_0 rfl ?_
  refine r_iconst (v := 0) hX dX8_dustTotal_1 (by decide) ?_
  refine r_putI hX dX8_dustTotal_2 hO.1.1.1.1 fl_X8_36 ?_
  refine r_aload_n hX dX8_dustTotal_5 rfl ?_
  refine r_iconst (v := 0) hX dX8_dustTotal_6 (by decide) ?_
  refine r_bipush (v := 12) hX dX8_dustTotal_7 (by decide) ?_
  refine r_callV hX dX8_dustTotal_9 (s_X8_dustOf E g _ y (by exact hO.1.1.to rfl) O.1 (by exact (hO.thr 0).2.2) 0 12 (by decide) (by decide)) ml_X8_103 rfl rfl hO.1.1.1.1 rfl ⟨Nat.le_of_ble_eq_true rfl, Nat.le_of_ble_eq_true rfl⟩ ⟨Nat.le_of_ble_eq_true rfl, Nat.le_of_ble_eq_true rfl, rfl, Nat.le_of_ble_eq_true rfl⟩ (fun v9 g9 m9 hp => ?_)
  obtain ⟨hv, hg, hm⟩ := hp
  subst v9
  subst g9
  subst m9
  exact r_iret hX dX8_dustTotal_12 (hO.ok rfl) ⟨Nat.le_of_ble_eq_true rfl, Nat.le_of_ble_eq_true rfl⟩
set_option maxRecDepth 20000 in
set_option maxHeartbeats 4000000 in
theorem s_X8_dustByAccounts (E : qE) (g : qG) (m : qM) (y : Nat) (O : kO) (hO : ModV g m y O) (u : Nat) (hw : WfO u O) (hu : u ≤ 6144)  : Sp E yX8_dustByAccounts cX8_dustByAccounts 1 (some .int) 2 0 0 [.ref y] g m (pU y g m (qTot O)) := by
  refine Sp.of (by decide) [some (.ref y)] rfl rfl (Nat.le_of_ble_eq_true rfl) (fun X hX => ?_)
  have hR := hO.2.2
  refine r_aload_n hX dX8_dustByAccounts_0 rfl ?_
  refine r_callV hX dX8_dustByAccounts_1 (s_X8_dustTotal E g m y O hO u hw hu) ml_X8_159 rfl rfl hO.1.1.1.1 rfl ⟨Nat.le_of_ble_eq_true rfl, Nat.le_of_ble_eq_true rfl⟩ ⟨Nat.le_of_ble_eq_true rfl, Nat.le_of_ble_eq_true rfl, rfl, Nat.le_of_ble_eq_true rfl⟩ (fun v1 g1 m1 hp => ?_)
  obtain ⟨⟨w, hv, hw9⟩, hg, hP⟩ := hp
  subst v1
  subst g1
  exact r_iret hX dX8_dustByAccounts_4 ⟨⟨w, rfl, hw9⟩, rfl, hP⟩ ⟨Nat.le_of_ble_eq_true rfl, Nat.le_of_ble_eq_true rfl⟩
set_option maxRecDepth 20000 in
set_option maxHeartbeats 4000000 in
theorem s_X8_isConsistent (E : qE) (g : qG) (m : qM) (y : Nat) (O : kO) (hO : ModV g m y O) (u : Nat) (hw : WfO u O) (hu : u ≤ 6144)  : Sp E yX8_isConsistent cX8_isConsistent 1 (some .boolean) 0 0 0 [.ref y] g m (pU y g m ((0, 1, O))) := by
  refine Sp.of (by decide) [some (.ref y)] rfl rfl (Nat.le_of_ble_eq_true rfl) (fun X hX => ?_)
  have hR := hO.2.2
  refine r_aload_n hX dX8_isConsistent_0 rfl ?_
  refine r_iconst (v := 0) hX dX8_isConsistent_1 (by decide) ?_
  refine r_putI hX dX8_isConsistent_2 hO.1.1.1.1 fl_X8_36 ?_
  refine r_iconst (v := 1) hX dX8_isConsistent_5 (by decide) ?_
  exact r_zret hX dX8_isConsistent_6 rfl (hO.ok rfl) ⟨Nat.le_of_ble_eq_true rfl, Nat.le_of_ble_eq_true rfl⟩
/-- what a call of the reference leaves that answers no int -/
def pUW (y : Nat) (g : qG) (m : qM) (R : Nat × Value × kO) : Option Value → qG → qM → Prop := fun v g' m' => (R.1 = 0 → v = some R.2.1) ∧ g' = g ∧ qI m' y 0 = nI R.1 ∧ ModV g m' y R.2.2 ∧ MF (PM y) m m'
theorem ModV.okW {g : qG} {m : qM} {y : Nat} {O : kO} (h : ModV g m y O) {r : Value} {v : Int32} (hv : v = 0) : pUW y g m (0, r, O) (some r) g (wI m y 0 v) := by
  subst hv
  exact ⟨fun _ => rfl, rfl, by rw [qI_wI, if_pos ⟨rfl, rfl⟩]; rfl, h.thr 0, mf_thr y m 0⟩
theorem ModV.noW {g : qG} {m : qM} {y : Nat} {O : kO} (h : ModV g m y O) {k : Nat} (hk : k ≠ 0) {r w : Value} {v : Int32} (hv : v = nI k) : pUW y g m (k, r, O) (some w) g (wI m y 0 v) := ⟨fun e => absurd e hk, rfl, by rw [qI_wI, if_pos ⟨rfl, rfl⟩, hv], h.thr v, mf_thr y m v⟩
set_option maxRecDepth 20000 in
set_option maxHeartbeats 4000000 in
theorem s_X8_mean_l {E : qE} {X : qX} {Q : State → Prop} {g : qG} {m : qM} (hX : MC E yX8_meanBrightness cX8_meanBrightness 3 (some .double) 1 0 0 [] X) {y : Nat} {O : kO} (hO : ModV g m y O) : ∀ (n i : Nat), i + n = O.1.1.length → (∀ j : Int32, WS E X 0 0 Q g m 29 [some (.ref y), some (.int (nI (suB O.1.1 O.1.1.length))), some (.int j)] []) → WS E X 0 0 Q g m 4 [some (.ref y), some (.int (nI (suB O.1.1 i))), some (.int (nI i))] [] := by
  intro n
  have hR := hO.2.2
  have hl := hO.2.1
  induction n with
  | zero =>
    intro i hi K
    have hib : i = O.1.1.length := by omega
    subst hib
    refine r_iload_n hX dX8_meanBrightness_4 rfl ?_
    refine r_aload_n hX dX8_meanBrightness_5 rfl ?_
    refine r_getR hX dX8_meanBrightness_6 hO.1.1.1.1 fl_X8_9 hO.1.1.2.1 ?_
    refine r_iconst (v := 0) hX dX8_meanBrightness_9 (by decide) ?_
    refine r_ialoadN hX dX8_meanBrightness_10 hO.1.1.1.2.1 (show 0 < 539 by decide) (by decide) ?_
    rw [hR.r0]
    refine r_icmp_ge (tgt := 29) hX dX8_meanBrightness_11 (by decide) (fun c11 => ?_) (fun c11 => ?_)
    · exact K _
    · exact absurd (Int32.le_refl _) c11
  | succ n ih =>
    intro i hi K
    have hil : i < O.1.1.length := by omega
    refine r_iload_n hX dX8_meanBrightness_4 rfl ?_
    refine r_aload_n hX dX8_meanBrightness_5 rfl ?_
    refine r_getR hX dX8_meanBrightness_6 hO.1.1.1.1 fl_X8_9 hO.1.1.2.1 ?_
    refine r_iconst (v := 0) hX dX8_meanBrightness_9 (by decide) ?_
    refine r_ialoadN hX dX8_meanBrightness_10 hO.1.1.1.2.1 (show 0 < 539 by decide) (by decide) ?_
    rw [hR.r0]
    refine r_icmp_ge (tgt := 29) hX dX8_meanBrightness_11 (by decide) (fun c11 => ?_) (fun c11 => ?_)
    · exact absurd c11 (nI_ge hil (by omega))
    · refine r_iload_n hX dX8_meanBrightness_14 rfl ?_
      refine r_aload_n hX dX8_meanBrightness_15 rfl ?_
      refine r_iload_n hX dX8_meanBrightness_16 rfl ?_
      refine r_iconst (v := 2) hX dX8_meanBrightness_17 (by decide) ?_
      refine r_callV hX dX8_meanBrightness_18 (s_X8_c E g m y hO.1.1 i 2 (by omega)) ml_X8_49 rfl rfl hO.1.1.1.1 rfl ⟨Nat.le_of_ble_eq_true rfl, Nat.le_of_ble_eq_true rfl⟩ ⟨Nat.le_of_ble_eq_true rfl, Nat.le_of_ble_eq_true rfl, rfl, Nat.le_of_ble_eq_true rfl⟩ (fun v18 g18 m18 hp => ?_)
      obtain ⟨hv, hg, hm⟩ := hp
      subst v18
      subst g18
      subst m18
      rw [hR.rC hil (by decide)]
      refine r_iadd hX dX8_meanBrightness_21 ?_
      rw [nI_add]
      refine r_istore_n hX dX8_meanBrightness_22 (Nat.le_of_ble_eq_true rfl) rfl ?_
      refine r_iinc (v := nI (i + 1)) hX dX8_meanBrightness_23 rfl (ii1 i) rfl ?_
      refine r_goto (tgt := 4) hX dX8_meanBrightness_26 (by decide) ?_
      exact ih (i + 1) (by omega) K
set_option maxRecDepth 20000 in
set_option maxHeartbeats 4000000 in
theorem s_X8_meanBrightness (E : qE) (g : qG) (m : qM) (y : Nat) (O : kO) (hO : ModV g m y O) (u : Nat) (hw : WfO u O) (hu : u ≤ 6144) : Sp E yX8_meanBrightness cX8_meanBrightness 3 (some .double) 1 0 0 [.ref y] g m (fun v g' m' => pUW y g m (qMea O) v g' m' ∧ ∃ d, v = some (.double d)) := by
  refine Sp.of (by decide) [some (.ref y), none, none] rfl rfl (Nat.le_of_ble_eq_true rfl) (fun X hX => ?_)
  have hR := hO.2.2
  have hl := hO.2.1
  refine r_iconst (v := 0) hX dX8_meanBrightness_0 (by decide) ?_
  refine r_istore_n hX dX8_meanBrightness_1 (Nat.le_of_ble_eq_true rfl) rfl ?_
  refine r_iconst (v := 0) hX dX8_meanBrightness_2 (by decide) ?_
  refine r_istore_n hX dX8_meanBrightness_3 (Nat.le_of_ble_eq_true rfl) rfl ?_
  refine s_X8_mean_l hX hO O.1.1.length 0 (by omega) (fun j => ?_)
  have hsl := suB_le hw hu O.1.1.length (Nat.le_refl _)
  refine r_aload_n hX dX8_meanBrightness_29 rfl ?_
  refine r_aload_n hX dX8_meanBrightness_30 rfl ?_
  refine r_getR hX dX8_meanBrightness_31 hO.1.1.1.1 fl_X8_9 hO.1.1.2.1 ?_
  refine r_iconst (v := 0) hX dX8_meanBrightness_34 (by decide) ?_
  refine r_ialoadN hX dX8_meanBrightness_35 hO.1.1.1.2.1 (show 0 < 539 by decide) (by decide) ?_
  rw [hR.r0]
  refine r_if_le (tgt := 43) hX dX8_meanBrightness_36 (by decide) (fun c36 => ?_) (fun c36 => ?_)
  · have h0 : O.1.1.length = 0 := Classical.byContradiction (fun h => nI_nle (by omega) (by omega) c36)
    refine r_iconst (v := 0) hX dX8_meanBrightness_43 (by decide) ?_
    refine r_callV hX dX8_meanBrightness_44 (s_X8_isFine E g m y hO.1.1 false) ml_X8_115 rfl rfl hO.1.1.1.1 rfl ⟨Nat.le_of_ble_eq_true rfl, Nat.le_of_ble_eq_true rfl⟩ ⟨Nat.le_of_ble_eq_true rfl, Nat.le_of_ble_eq_true rfl, rfl, Nat.le_of_ble_eq_true rfl⟩ (fun v44 g44 m44 hp => ?_)
    obtain ⟨hv, hg, hm⟩ := hp
    subst v44
    subst g44
    subst m44
    refine r_if_eq (tgt := 63) hX dX8_meanBrightness_47 (by decide) (fun c47 => ?_) (fun c47 => ?_)
    · refine r_dconst0 hX dX8_meanBrightness_63 ?_
      exact r_dret hX dX8_meanBrightness_64 ⟨by rw [show qMea O = (1, .null, O) from if_pos h0]; exact hO.noW (show (1 : Nat) ≠ 0 by decide) rfl, _, rfl⟩ ⟨Nat.le_of_ble_eq_true rfl, Nat.le_of_ble_eq_true rfl⟩
    · exact absurd rfl c47
  · have h0 : ¬ O.1.1.length = 0 := fun h => c36 (by rw [h]; decide)
    refine r_iconst (v := 1) hX dX8_meanBrightness_39 (by decide) ?_
    refine r_goto (tgt := 44) hX dX8_meanBrightness_40 (by decide) ?_
    refine r_callV hX dX8_meanBrightness_44 (s_X8_isFine E g m y hO.1.1 true) ml_X8_115 rfl rfl hO.1.1.1.1 rfl ⟨Nat.le_of_ble_eq_true rfl, Nat.le_of_ble_eq_true rfl⟩ ⟨Nat.le_of_ble_eq_true rfl, Nat.le_of_ble_eq_true rfl, rfl, Nat.le_of_ble_eq_true rfl⟩ (fun v44 g44 m44 hp => ?_)
    obtain ⟨hv, hg, hm⟩ := hp
    subst v44
    subst g44
    subst m44
    rw [show (if true = true then (0 : Int32) else 1) = 0 from rfl]
    refine r_if_eq (tgt := 63) hX dX8_meanBrightness_47 (by decide) (fun c47 => ?_) (fun c47 => ?_)
    · exact absurd c47 (by decide)
    · refine r_iload_n hX dX8_meanBrightness_50 rfl ?_
      refine r_i2d hX dX8_meanBrightness_51 ?_
      refine r_aload_n hX dX8_meanBrightness_52 rfl ?_
      refine r_getR hX dX8_meanBrightness_53 hO.1.1.1.1 fl_X8_9 (hO.1.1.to rfl).2.1 ?_
      refine r_iconst (v := 0) hX dX8_meanBrightness_56 (by decide) ?_
      refine r_ialoadN hX dX8_meanBrightness_57 hO.1.1.1.2.1 (show 0 < 539 by decide) (by decide) ?_
      rw [(hO.thr 0).2.2.r0]
      refine r_i2d hX dX8_meanBrightness_58 ?_
      refine r_ddiv hX dX8_meanBrightness_59 (n64_mean (by omega) (by omega) hl) ?_
      refine r_goto (tgt := 64) hX dX8_meanBrightness_60 (by decide) ?_
      exact r_dret hX dX8_meanBrightness_64 ⟨by rw [show qMea O = (0, _, O) from if_neg h0]; exact hO.okW rfl, _, rfl⟩ ⟨Nat.le_of_ble_eq_true rfl, Nat.le_of_ble_eq_true rfl⟩
set_option maxRecDepth 20000 in
set_option maxHeartbeats 4000000 in
theorem s_X8_share_l {E : qE} {X : qX} {Q : State → Prop} {g : qG} {m : qM} (hX : MC E yX8_dustyShare cX8_dustyShare 3 (some .float) 0 0 0 [] X) {y : Nat} {O : kO} (hO : ModV g m y O) (hd : ∀ j, j < 12 → O.1.2.2 j < 2 ^ 31) : ∀ (n i : Nat), i + n = 12 → (∀ j : Int32, WS E X 0 0 Q g m 41 [some (.ref y), some (.int (nI (dusV O.1.2.2 12))), some (.int j)] []) → WS E X 0 0 Q g m 9 [some (.ref y), some (.int (nI (dusV O.1.2.2 i))), some (.int (nI i))] [] := by
  intro n
  have hR := hO.2.2
  have hs1 := hO.1.1
  induction n with
  | zero =>
    intro i hi K
    have hib : i = 12 := by omega
    subst hib
    refine r_iload_n hX dX8_dustyShare_9 rfl ?_
    refine r_bipush (v := 12) hX dX8_dustyShare_10 (by decide) ?_
    refine r_icmp_ge (tgt := 41) hX dX8_dustyShare_12 (by decide) (fun c12 => ?_) (fun c12 => ?_)
    · exact K _
    · exact absurd (Int32.le_refl _) c12
  | succ n ih =>
    intro i hi K
    have hil : i < 12 := by omega
    refine r_iload_n hX dX8_dustyShare_9 rfl ?_
    refine r_bipush (v := 12) hX dX8_dustyShare_10 (by decide) ?_
    refine r_icmp_ge (tgt := 41) hX dX8_dustyShare_12 (by decide) (fun c12 => ?_) (fun c12 => ?_)
    · exact absurd c12 (nI_ge (b := 12) hil (by decide))
    · refine r_iload_n hX dX8_dustyShare_15 rfl ?_
      refine r_aload_n hX dX8_dustyShare_16 rfl ?_
      refine r_getR hX dX8_dustyShare_17 hO.1.1.1.1 fl_X8_9 hs1.2.1 ?_
      refine r_bipush (v := 37) hX dX8_dustyShare_20 (by decide) ?_
      refine r_iload_n hX dX8_dustyShare_22 rfl ?_
      refine r_iadd hX dX8_dustyShare_23 ?_
      rw [show (37 : Int32) + nI i = nI (37 + i) from nI_add 37 i]
      refine r_ialoadN hX dX8_dustyShare_24 hO.1.1.1.2.1 (show 37 + i < 539 by omega) (by decide) ?_
      rw [hR.rD hil]
      refine r_if_le (tgt := 32) hX dX8_dustyShare_25 (by decide) (fun c25 => ?_) (fun c25 => ?_)
      · have hn : ¬ 0 < O.1.2.2 i := fun h => nI_nle h (hd i hil) c25
        have he : dusV O.1.2.2 (i + 1) = dusV O.1.2.2 i := if_neg hn
        refine r_iconst (v := 0) hX dX8_dustyShare_32 (by decide) ?_
        refine r_iadd hX dX8_dustyShare_33 ?_
        rw [Int32.add_zero]
        refine r_istore_n hX dX8_dustyShare_34 (Nat.le_of_ble_eq_true rfl) rfl ?_
        refine r_iinc (v := nI (i + 1)) hX dX8_dustyShare_35 rfl (ii1 i) rfl ?_
        refine r_goto (tgt := 9) hX dX8_dustyShare_38 (by decide) ?_
        rw [← he]
        exact ih (i + 1) (by omega) K
      · have hn : 0 < O.1.2.2 i := Nat.pos_of_ne_zero (fun h => c25 (by rw [h]; decide))
        have he : dusV O.1.2.2 (i + 1) = dusV O.1.2.2 i + 1 := if_pos hn
        refine r_iconst (v := 1) hX dX8_dustyShare_28 (by decide) ?_
        refine r_goto (tgt := 33) hX dX8_dustyShare_29 (by decide) ?_
        refine r_iadd hX dX8_dustyShare_33 ?_
        rw [nI_1]
        refine r_istore_n hX dX8_dustyShare_34 (Nat.le_of_ble_eq_true rfl) rfl ?_
        refine r_iinc (v := nI (i + 1)) hX dX8_dustyShare_35 rfl (ii1 i) rfl ?_
        refine r_goto (tgt := 9) hX dX8_dustyShare_38 (by decide) ?_
        rw [← he]
        exact ih (i + 1) (by omega) K
set_option maxRecDepth 20000 in
set_option maxHeartbeats 4000000 in
theorem s_X8_dustyShare (E : qE) (g : qG) (m : qM) (y : Nat) (O : kO) (hO : ModV g m y O) (u : Nat) (hw : WfO u O) (hu : u ≤ 6144) : Sp E yX8_dustyShare cX8_dustyShare 3 (some .float) 0 0 0 [.ref y] g m (pUW y g m (qSha O)) := by
  refine Sp.of (by decide) [some (.ref y), none, none] rfl rfl (Nat.le_of_ble_eq_true rfl) (fun X hX => ?_)
  have hdu := hw.dus hu
  have hd := fun j (hj : j < 12) => ds_ge O.1.2.2 hj
  refine r_aload_n hX dX8_dustyShare_0 rfl ?_
  refine r_iconst (v := 0) hX dX8_dustyShare_1 (by decide) ?_
  refine r_putI hX dX8_dustyShare_2 hO.1.1.1.1 fl_X8_36 ?_
  refine r_iconst (v := 0) hX dX8_dustyShare_5 (by decide) ?_
  refine r_istore_n hX dX8_dustyShare_6 (Nat.le_of_ble_eq_true rfl) rfl ?_
  refine r_iconst (v := 0) hX dX8_dustyShare_7 (by decide) ?_
  refine r_istore_n hX dX8_dustyShare_8 (Nat.le_of_ble_eq_true rfl) rfl ?_
  refine s_X8_share_l (g := g) hX (hO.thr 0) (fun j hj => by have := hd j hj; omega) 12 0 (by decide) (fun j => ?_)
  refine r_iload_n hX dX8_dustyShare_41 rfl ?_
  refine r_i2f hX dX8_dustyShare_42 ?_
  refine r_ldcF (v := 1094713344) hX dX8_dustyShare_43 ⟨List.mem_of_getElem? (i := 1802) (by decide +kernel), by decide +kernel⟩ ?_
  refine r_fdiv hX dX8_dustyShare_45 (n32_share (by have := dusV_le O.1.2.2 12; omega)) ?_
  exact r_fret hX dX8_dustyShare_46 (hO.okW rfl) ⟨Nat.le_of_ble_eq_true rfl, Nat.le_of_ble_eq_true rfl⟩
set_option maxRecDepth 20000 in
set_option maxHeartbeats 4000000 in
theorem s_X8_errorPosition (E : qE) (g : qG) (m : qM) (y : Nat) (O : kO) (hO : ModV g m y O) (u : Nat) (hw : WfO u O) (hu : u ≤ 6144)  : Sp E yX8_errorPosition cX8_errorPosition 1 (some .int) 1 0 0 [.ref y] g m (pU y g m (qErr O)) := by
  refine Sp.of (by decide) [some (.ref y)] rfl rfl (Nat.le_of_ble_eq_true rfl) (fun X hX => ?_)
  have hR := hO.2.2
  have he := hO.1.2.2.2.1.1
  have hbd := hw.2.2.2.2.2.2.2.2.1
  refine r_aload_n hX dX8_errorPosition_0 rfl ?_
  refine r_aload_n hX dX8_errorPosition_1 rfl ?_
  refine r_getI hX dX8_errorPosition_2 hO.1.1.1.1 fl_X8_23 ?_
  rw [he]
  refine r_iconst (v := (-1)) hX dX8_errorPosition_5 (by decide) ?_
  refine r_icmp_eq (tgt := 13) hX dX8_errorPosition_6 (by decide) (fun c6 => ?_) (fun c6 => ?_)
  · rcases hq : oEr O with _ | n
    · rw [hq] at he
      refine r_iconst (v := 0) hX dX8_errorPosition_13 (by decide) ?_
      refine r_callV hX dX8_errorPosition_14 (s_X8_isFine E g m y hO.1.1 false) ml_X8_115 rfl rfl hO.1.1.1.1 rfl ⟨Nat.le_of_ble_eq_true rfl, Nat.le_of_ble_eq_true rfl⟩ ⟨Nat.le_of_ble_eq_true rfl, Nat.le_of_ble_eq_true rfl, rfl, Nat.le_of_ble_eq_true rfl⟩ (fun v14 g14 m14 hp => ?_)
      obtain ⟨hv, hg, hm⟩ := hp
      subst v14
      subst g14
      subst m14
      refine r_if_eq (tgt := 27) hX dX8_errorPosition_17 (by decide) (fun c17 => ?_) (fun c17 => ?_)
      · refine r_iconst (v := 0) hX dX8_errorPosition_27 (by decide) ?_
        exact r_iret hX dX8_errorPosition_28 (by rw [show qErr O = (1, 0, O) by unfold qErr; rw [hq]]; exact hO.no (by decide) rfl) ⟨Nat.le_of_ble_eq_true rfl, Nat.le_of_ble_eq_true rfl⟩
      · exact absurd rfl c17
    · rw [hq] at c6
      exact absurd c6 (oI_ne (hbd n hq))
  · rcases hq : oEr O with _ | n
    · rw [hq] at c6
      exact absurd rfl c6
    · rw [hq] at he
      refine r_iconst (v := 1) hX dX8_errorPosition_9 (by decide) ?_
      refine r_goto (tgt := 14) hX dX8_errorPosition_10 (by decide) ?_
      refine r_callV hX dX8_errorPosition_14 (s_X8_isFine E g m y hO.1.1 true) ml_X8_115 rfl rfl hO.1.1.1.1 rfl ⟨Nat.le_of_ble_eq_true rfl, Nat.le_of_ble_eq_true rfl⟩ ⟨Nat.le_of_ble_eq_true rfl, Nat.le_of_ble_eq_true rfl, rfl, Nat.le_of_ble_eq_true rfl⟩ (fun v14 g14 m14 hp => ?_)
      obtain ⟨hv, hg, hm⟩ := hp
      subst v14
      subst g14
      subst m14
      refine r_if_eq (tgt := 27) hX dX8_errorPosition_17 (by decide) (fun c17 => ?_) (fun c17 => ?_)
      · exact absurd c17 (by decide)
      · refine r_aload_n hX dX8_errorPosition_20 rfl ?_
        refine r_getI hX dX8_errorPosition_21 hO.1.1.1.1 fl_X8_23 ?_
        rw [qI_wI_k _ _ _ _ (by decide), he]
        refine r_goto (tgt := 28) hX dX8_errorPosition_24 (by decide) ?_
        exact r_iret hX dX8_errorPosition_28 (by rw [show qErr O = (0, nI n, O) by unfold qErr; rw [hq]]; exact hO.ok rfl) ⟨Nat.le_of_ble_eq_true rfl, Nat.le_of_ble_eq_true rfl⟩
set_option maxRecDepth 20000 in
set_option maxHeartbeats 4000000 in
theorem s_X8_failedCommand (E : qE) (g : qG) (m : qM) (y : Nat) (O : kO) (hO : ModV g m y O) (u : Nat) (hw : WfO u O) (hu : u ≤ 6144)  : Sp E yX8_failedCommand cX8_failedCommand 1 (some .int) 1 0 0 [.ref y] g m (pU y g m (qFail O)) := by
  refine Sp.of (by decide) [some (.ref y)] rfl rfl (Nat.le_of_ble_eq_true rfl) (fun X hX => ?_)
  have hR := hO.2.2
  have he := hO.1.2.2.2.1.2
  have hbd := hw.2.2.2.2.2.2.2.2.2
  refine r_aload_n hX dX8_failedCommand_0 rfl ?_
  refine r_aload_n hX dX8_failedCommand_1 rfl ?_
  refine r_getI hX dX8_failedCommand_2 hO.1.1.1.1 fl_X8_27 ?_
  rw [he]
  refine r_iconst (v := (-1)) hX dX8_failedCommand_5 (by decide) ?_
  refine r_icmp_eq (tgt := 13) hX dX8_failedCommand_6 (by decide) (fun c6 => ?_) (fun c6 => ?_)
  · rcases hq : oFa O with _ | n
    · rw [hq] at he
      refine r_iconst (v := 0) hX dX8_failedCommand_13 (by decide) ?_
      refine r_callV hX dX8_failedCommand_14 (s_X8_isFine E g m y hO.1.1 false) ml_X8_115 rfl rfl hO.1.1.1.1 rfl ⟨Nat.le_of_ble_eq_true rfl, Nat.le_of_ble_eq_true rfl⟩ ⟨Nat.le_of_ble_eq_true rfl, Nat.le_of_ble_eq_true rfl, rfl, Nat.le_of_ble_eq_true rfl⟩ (fun v14 g14 m14 hp => ?_)
      obtain ⟨hv, hg, hm⟩ := hp
      subst v14
      subst g14
      subst m14
      refine r_if_eq (tgt := 27) hX dX8_failedCommand_17 (by decide) (fun c17 => ?_) (fun c17 => ?_)
      · refine r_iconst (v := 0) hX dX8_failedCommand_27 (by decide) ?_
        exact r_iret hX dX8_failedCommand_28 (by rw [show qFail O = (1, 0, O) by unfold qFail; rw [hq]]; exact hO.no (by decide) rfl) ⟨Nat.le_of_ble_eq_true rfl, Nat.le_of_ble_eq_true rfl⟩
      · exact absurd rfl c17
    · rw [hq] at c6
      exact absurd c6 (oI_ne (hbd n hq))
  · rcases hq : oFa O with _ | n
    · rw [hq] at c6
      exact absurd rfl c6
    · rw [hq] at he
      refine r_iconst (v := 1) hX dX8_failedCommand_9 (by decide) ?_
      refine r_goto (tgt := 14) hX dX8_failedCommand_10 (by decide) ?_
      refine r_callV hX dX8_failedCommand_14 (s_X8_isFine E g m y hO.1.1 true) ml_X8_115 rfl rfl hO.1.1.1.1 rfl ⟨Nat.le_of_ble_eq_true rfl, Nat.le_of_ble_eq_true rfl⟩ ⟨Nat.le_of_ble_eq_true rfl, Nat.le_of_ble_eq_true rfl, rfl, Nat.le_of_ble_eq_true rfl⟩ (fun v14 g14 m14 hp => ?_)
      obtain ⟨hv, hg, hm⟩ := hp
      subst v14
      subst g14
      subst m14
      refine r_if_eq (tgt := 27) hX dX8_failedCommand_17 (by decide) (fun c17 => ?_) (fun c17 => ?_)
      · exact absurd c17 (by decide)
      · refine r_aload_n hX dX8_failedCommand_20 rfl ?_
        refine r_getI hX dX8_failedCommand_21 hO.1.1.1.1 fl_X8_27 ?_
        rw [qI_wI_k _ _ _ _ (by decide), he]
        refine r_goto (tgt := 28) hX dX8_failedCommand_24 (by decide) ?_
        exact r_iret hX dX8_failedCommand_28 (by rw [show qFail O = (0, nI n, O) by unfold qFail; rw [hq]]; exact hO.ok rfl) ⟨Nat.le_of_ble_eq_true rfl, Nat.le_of_ble_eq_true rfl⟩
set_option maxRecDepth 20000 in
set_option maxHeartbeats 4000000 in
theorem s_X8_outputAt (E : qE) (g : qG) (m : qM) (y : Nat) (O : kO) (hO : ModV g m y O) (u : Nat) (hw : WfO u O) (hu : u ≤ 6144) (i : Int32) : Sp E yX8_outputAt cX8_outputAt 2 (some .char) 1 0 0 [.ref y, .int i] g m (pU y g m (qOut O i)) := by
  refine Sp.of (by decide) [some (.ref y), some (.int i)] rfl rfl (Nat.le_of_ble_eq_true rfl) (fun X hX => ?_)
  have hR := hO.2.2
  have hln := hO.1.2.2.2.2.2
  refine r_aload_n hX dX8_outputAt_0 rfl ?_
  refine r_iload_n hX dX8_outputAt_1 rfl ?_
  refine r_iconst (v := 0) hX dX8_outputAt_2 (by decide) ?_
  refine r_aload_n hX dX8_outputAt_3 rfl ?_
  refine r_getI hX dX8_outputAt_4 hO.1.1.1.1 fl_X8_199 ?_
  rw [hln.1]
  refine r_iconst (v := 1) hX dX8_outputAt_7 (by decide) ?_
  refine r_isub hX dX8_outputAt_8 ?_
  refine r_callS hX dX8_outputAt_9 (s_X8_inN E g m i (oLn O).length (by have := hw.2.2.2.2.2.2.1; omega)) ml_X8_69 rfl rfl ⟨Nat.le_of_ble_eq_true rfl, Nat.le_of_ble_eq_true rfl⟩ ⟨Nat.le_of_ble_eq_true rfl, Nat.le_of_ble_eq_true rfl, rfl, Nat.le_of_ble_eq_true rfl⟩ (fun v9 g9 m9 hp => ?_)
  obtain ⟨hv, hg, hm⟩ := hp
  subst v9
  subst g9
  subst m9
  refine r_callV hX dX8_outputAt_12 (s_X8_fine E g m y (hO.1.1) (inN i (oLn O).length)) ml_X8_115 rfl rfl hO.1.1.1.1 rfl ⟨Nat.le_of_ble_eq_true rfl, Nat.le_of_ble_eq_true rfl⟩ ⟨Nat.le_of_ble_eq_true rfl, Nat.le_of_ble_eq_true rfl, rfl, Nat.le_of_ble_eq_true rfl⟩ (fun v12 g12 m12 hp => ?_)
  obtain ⟨hv, hg, hm⟩ := hp
  subst v12
  subst g12
  subst m12
  refine r_if_eq (tgt := 27) hX dX8_outputAt_15 (by decide) (fun c15 => ?_) (fun c15 => ?_)
  · have hn : ¬ inN i (oLn O).length := fun h => absurd c15 (by rw [if_pos h]; decide)
    refine r_iconst (v := 0) hX dX8_outputAt_27 (by decide) ?_
    exact r_zret hX dX8_outputAt_28 rfl (by rw [show qOut O i = (1, 0, O) from if_neg hn, if_neg hn]; exact hO.no (by decide) rfl) ⟨Nat.le_of_ble_eq_true rfl, Nat.le_of_ble_eq_true rfl⟩
  · have hn : inN i (oLn O).length := Classical.byContradiction (fun h => c15 (by rw [if_neg h]))
    obtain ⟨j, hj, rfl, hcl⟩ := inN_of (by have := hw.2.2.2.2.2.2.1; omega) hn
    have hlen := hw.2.2.2.2.2.2.1
    have hch := hw.2.2.2.2.2.2.2.1 _ (List.getElem_mem hj)
    have hgd : (oLn O).getD j 0 = (oLn O)[j] := by rw [List.getD_eq_getElem?_getD, List.getElem?_eq_getElem hj]; rfl
    rw [show (if inN (nI j) (oLn O).length then (0 : Int32) else 1) = 0 from if_pos hn]
    refine r_aload_n hX dX8_outputAt_18 rfl ?_
    refine r_getR hX dX8_outputAt_19 hO.1.1.1.1 fl_X8_33 (hO.1.1.to rfl).2.2.2.2.2.2 ?_
    refine r_iload_n hX dX8_outputAt_22 rfl ?_
    refine r_caloadN hX dX8_outputAt_23 hO.1.1.1.2.2.2.2.2.2 (show j < 160 by omega) (by decide) ?_
    rw [show qI (wI m y 0 0) (y + 6) j = nI ((oLn O).getD j 0) by rw [qI_wI, if_neg (by omega)]; exact hln.2 j hj]
    refine r_goto (tgt := 28) hX dX8_outputAt_24 (by decide) ?_
    exact r_zret hX dX8_outputAt_28 (pk_charN (by rw [hgd]; omega)).1 (by rw [show qOut O (nI j) = (0, nI ((oLn O).getD j 0), O) by unfold qOut; rw [if_pos hn, hcl]]; exact hO.ok rfl) ⟨Nat.le_of_ble_eq_true rfl, Nat.le_of_ble_eq_true rfl⟩
