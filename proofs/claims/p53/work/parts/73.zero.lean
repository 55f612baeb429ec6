/-! ===== a comet that exists is found, and nothing is made ===== -/
set_option maxRecDepth 20000 in
set_option maxHeartbeats 4000000 in
theorem z_X7_existing (E : qE) (g : qG) (m : qM) (x : Nat) (c : Int32) (O : kO) (S : kS) (ad : Nat → Nat) (b0 : ObH g m x O) (hs : SkySh g (x + 1)) (hr : SkyR m (x + 1) ad) (hV : SkyV m (x + 1) ad S) (hR : RepS S O.1) (hl : O.1.1.length ≤ 6) (i : Nat) (hi : plV O.1.1 c = some i) : Sp E yX7_existing cX7_existing 3 (some (.object "CometObservatory$Comet")) 7 0 0 [.ref x, .int c] g m (fun v g' m' => v = some (.ref (ad i)) ∧ g' = g ∧ m' = m) := by
  refine Sp.of (by decide) [some (.ref x), some (.int c), none] rfl rfl (Nat.le_of_ble_eq_true rfl) (fun X hX => ?_)
  have hN : qI m (x + 1) 2 = nI O.1.1.length := (hV.1 0 (by decide)).trans hR.1
  have hp : slotF (fun i => qI m (ad i) 0) c 0 O.1.1.length = plV O.1.1 c := slotF_congr _ 0 (fun j _ hj => (hV.2.1 j 0 (by omega) (by decide)).trans (hR.2.2.1 j 0 (by omega) (by decide)))
  refine r_aload_n hX dX7_existing_0 rfl ?_
  refine r_getR hX dX7_existing_1 b0.1 fl_X7_10 b0.2.1.1 ?_
  refine r_iload_n hX dX7_existing_4 rfl ?_
  refine r_callV hX dX7_existing_5 (s_X5_find E g m (x + 1) c hs ad hr O.1.1.length ⟨hN, hl⟩) ml_X7_390 rfl rfl hs.1 rfl ⟨Nat.le_of_ble_eq_true rfl, Nat.le_of_ble_eq_true rfl⟩ ⟨Nat.le_of_ble_eq_true rfl, Nat.le_of_ble_eq_true rfl, rfl, Nat.le_of_ble_eq_true rfl⟩ (fun v5 g5 m5 hp => ?_)
  obtain ⟨hv, hg, hm⟩ := hp
  subst v5
  subst g5
  subst m5
  rw [hp, hi]
  refine r_astore_n hX dX7_existing_8 (Nat.le_of_ble_eq_true rfl) rfl ?_
  refine r_aload_n hX dX7_existing_9 rfl ?_
  refine r_ifnonnull (tgt := 24) hX dX7_existing_10 (by decide) ?_
  refine r_aload_n hX dX7_existing_24 rfl ?_
  exact r_aret hX dX7_existing_25 (Or.inl ⟨_, rfl⟩) (Or.inr ⟨_, rfl⟩) ⟨rfl, rfl, rfl⟩ ⟨Nat.le_of_ble_eq_true rfl, Nat.le_of_ble_eq_true rfl⟩
set_option maxRecDepth 20000 in
set_option maxHeartbeats 4000000 in
theorem z_X7_period (E : qE) (g : qG) (m : qM) (x : Nat) (O : kO) (hO : ObsV g m x O) (u : Nat) (hw : WfO u O) (hu : u ≤ 6144) (i : Nat) (hil : i < O.1.1.length) : Sp E yX7_period cX7_period 2 (some .int) 8 0 0 [.ref x, .int (nI (cAt O.1.1 i 0))] g m (fun v g' m' => v = some (.int (nI (cAt O.1.1 i 1))) ∧ g' = g ∧ m' = m) := by
  refine Sp.of (by decide) [some (.ref x), some (.int (nI (cAt O.1.1 i 0)))] rfl rfl (Nat.le_of_ble_eq_true rfl) (fun X hX => ?_)
  obtain ⟨b0, ⟨S, ⟨hs, ad, hr, hV⟩, hR⟩, b2, b3, b4, b5, b6, b7⟩ := id hO
  have hC : ∀ i k, i < O.1.1.length → i < 6 → k < 5 → qI m (ad i) k = nI (cAt O.1.1 i k) := fun i k h1 h6 h2 => (hV.2.1 i k h6 h2).trans (hR.2.2.1 i k h1 h2)
  have hi6 := hw.len
  refine r_aload_n hX dX7_period_0 rfl ?_
  refine r_iload_n hX dX7_period_1 rfl ?_
  refine r_callV hX dX7_period_2 (z_X7_existing E g m x (nI (cAt O.1.1 i 0)) O S ad b0 hs hr hV hR hw.len i (plV_id hw hu hil)) ml_X7_89 rfl rfl b0.1 rfl ⟨Nat.le_of_ble_eq_true rfl, Nat.le_of_ble_eq_true rfl⟩ ⟨Nat.le_of_ble_eq_true rfl, Nat.le_of_ble_eq_true rfl, rfl, Nat.le_of_ble_eq_true rfl⟩ (fun v2 g2 m2 hp => ?_)
  obtain ⟨hv, hg, hm⟩ := hp
  subst v2
  subst g2
  subst m2
  refine r_getI hX dX7_period_5 (adAt hs hr (by omega)) fl_X7_110 ?_
  rw [hC i 1 hil (by omega) (by decide)]
  exact r_iret hX dX7_period_8 ⟨rfl, rfl, rfl⟩ ⟨Nat.le_of_ble_eq_true rfl, Nat.le_of_ble_eq_true rfl⟩
set_option maxRecDepth 20000 in
set_option maxHeartbeats 4000000 in
theorem z_X7_brightness (E : qE) (g : qG) (m : qM) (x : Nat) (O : kO) (hO : ObsV g m x O) (u : Nat) (hw : WfO u O) (hu : u ≤ 6144) (i : Nat) (hil : i < O.1.1.length) : Sp E yX7_brightness cX7_brightness 2 (some .int) 8 0 0 [.ref x, .int (nI (cAt O.1.1 i 0))] g m (fun v g' m' => v = some (.int (nI (cAt O.1.1 i 2))) ∧ g' = g ∧ m' = m) := by
  refine Sp.of (by decide) [some (.ref x), some (.int (nI (cAt O.1.1 i 0)))] rfl rfl (Nat.le_of_ble_eq_true rfl) (fun X hX => ?_)
  obtain ⟨b0, ⟨S, ⟨hs, ad, hr, hV⟩, hR⟩, b2, b3, b4, b5, b6, b7⟩ := id hO
  have hC : ∀ i k, i < O.1.1.length → i < 6 → k < 5 → qI m (ad i) k = nI (cAt O.1.1 i k) := fun i k h1 h6 h2 => (hV.2.1 i k h6 h2).trans (hR.2.2.1 i k h1 h2)
  have hi6 := hw.len
  refine r_aload_n hX dX7_brightness_0 rfl ?_
  refine r_iload_n hX dX7_brightness_1 rfl ?_
  refine r_callV hX dX7_brightness_2 (z_X7_existing E g m x (nI (cAt O.1.1 i 0)) O S ad b0 hs hr hV hR hw.len i (plV_id hw hu hil)) ml_X7_89 rfl rfl b0.1 rfl ⟨Nat.le_of_ble_eq_true rfl, Nat.le_of_ble_eq_true rfl⟩ ⟨Nat.le_of_ble_eq_true rfl, Nat.le_of_ble_eq_true rfl, rfl, Nat.le_of_ble_eq_true rfl⟩ (fun v2 g2 m2 hp => ?_)
  obtain ⟨hv, hg, hm⟩ := hp
  subst v2
  subst g2
  subst m2
  refine r_getI hX dX7_brightness_5 (adAt hs hr (by omega)) fl_X7_135 ?_
  rw [hC i 2 hil (by omega) (by decide)]
  exact r_iret hX dX7_brightness_8 ⟨rfl, rfl, rfl⟩ ⟨Nat.le_of_ble_eq_true rfl, Nat.le_of_ble_eq_true rfl⟩
set_option maxRecDepth 20000 in
set_option maxHeartbeats 4000000 in
theorem z_X7_nextPass (E : qE) (g : qG) (m : qM) (x : Nat) (O : kO) (hO : ObsV g m x O) (u : Nat) (hw : WfO u O) (hu : u ≤ 6144) (i : Nat) (hil : i < O.1.1.length) : Sp E yX7_nextPass cX7_nextPass 2 (some .int) 8 0 0 [.ref x, .int (nI (cAt O.1.1 i 0))] g m (fun v g' m' => v = some (.int (nI (cAt O.1.1 i 3))) ∧ g' = g ∧ m' = m) := by
  refine Sp.of (by decide) [some (.ref x), some (.int (nI (cAt O.1.1 i 0)))] rfl rfl (Nat.le_of_ble_eq_true rfl) (fun X hX => ?_)
  obtain ⟨b0, ⟨S, ⟨hs, ad, hr, hV⟩, hR⟩, b2, b3, b4, b5, b6, b7⟩ := id hO
  have hC : ∀ i k, i < O.1.1.length → i < 6 → k < 5 → qI m (ad i) k = nI (cAt O.1.1 i k) := fun i k h1 h6 h2 => (hV.2.1 i k h6 h2).trans (hR.2.2.1 i k h1 h2)
  have hi6 := hw.len
  refine r_aload_n hX dX7_nextPass_0 rfl ?_
  refine r_iload_n hX dX7_nextPass_1 rfl ?_
  refine r_callV hX dX7_nextPass_2 (z_X7_existing E g m x (nI (cAt O.1.1 i 0)) O S ad b0 hs hr hV hR hw.len i (plV_id hw hu hil)) ml_X7_89 rfl rfl b0.1 rfl ⟨Nat.le_of_ble_eq_true rfl, Nat.le_of_ble_eq_true rfl⟩ ⟨Nat.le_of_ble_eq_true rfl, Nat.le_of_ble_eq_true rfl, rfl, Nat.le_of_ble_eq_true rfl⟩ (fun v2 g2 m2 hp => ?_)
  obtain ⟨hv, hg, hm⟩ := hp
  subst v2
  subst g2
  subst m2
  refine r_getI hX dX7_nextPass_5 (adAt hs hr (by omega)) fl_X7_191 ?_
  rw [hC i 3 hil (by omega) (by decide)]
  exact r_iret hX dX7_nextPass_8 ⟨rfl, rfl, rfl⟩ ⟨Nat.le_of_ble_eq_true rfl, Nat.le_of_ble_eq_true rfl⟩
set_option maxRecDepth 20000 in
set_option maxHeartbeats 4000000 in
theorem z_X7_tail (E : qE) (g : qG) (m : qM) (x : Nat) (O : kO) (hO : ObsV g m x O) (u : Nat) (hw : WfO u O) (hu : u ≤ 6144) (i : Nat) (hil : i < O.1.1.length) : Sp E yX7_tail cX7_tail 2 (some .int) 8 0 0 [.ref x, .int (nI (cAt O.1.1 i 0))] g m (fun v g' m' => v = some (.int (nI (1 + cAt O.1.1 i 2 / 5))) ∧ g' = g ∧ m' = m) := by
  refine Sp.of (by decide) [some (.ref x), some (.int (nI (cAt O.1.1 i 0)))] rfl rfl (Nat.le_of_ble_eq_true rfl) (fun X hX => ?_)
  obtain ⟨b0, ⟨S, ⟨hs, ad, hr, hV⟩, hR⟩, b2, b3, b4, b5, b6, b7⟩ := id hO
  have hC : ∀ i k, i < O.1.1.length → i < 6 → k < 5 → qI m (ad i) k = nI (cAt O.1.1 i k) := fun i k h1 h6 h2 => (hV.2.1 i k h6 h2).trans (hR.2.2.1 i k h1 h2)
  have hi6 := hw.len
  refine r_aload_n hX dX7_tail_0 rfl ?_
  refine r_iload_n hX dX7_tail_1 rfl ?_
  refine r_callV hX dX7_tail_2 (z_X7_existing E g m x (nI (cAt O.1.1 i 0)) O S ad b0 hs hr hV hR hw.len i (plV_id hw hu hil)) ml_X7_89 rfl rfl b0.1 rfl ⟨Nat.le_of_ble_eq_true rfl, Nat.le_of_ble_eq_true rfl⟩ ⟨Nat.le_of_ble_eq_true rfl, Nat.le_of_ble_eq_true rfl, rfl, Nat.le_of_ble_eq_true rfl⟩ (fun v2 g2 m2 hp => ?_)
  obtain ⟨hv, hg, hm⟩ := hp
  subst v2
  subst g2
  subst m2
  refine r_getI hX dX7_tail_5 (adAt hs hr (by omega)) fl_X7_135 ?_
  rw [hC i 2 hil (by omega) (by decide)]
  refine r_callS hX dX7_tail_8 (s_X7_tailAt E g m (nI (cAt O.1.1 i 2))) ml_X7_188 rfl rfl ⟨Nat.le_of_ble_eq_true rfl, Nat.le_of_ble_eq_true rfl⟩ ⟨Nat.le_of_ble_eq_true rfl, Nat.le_of_ble_eq_true rfl, rfl, Nat.le_of_ble_eq_true rfl⟩ (fun v8 g8 m8 hp => ?_)
  obtain ⟨hv, hg, hm⟩ := hp
  subst v8
  subst g8
  subst m8
  rw [show (1 : Int32) + nI (cAt O.1.1 i 2) / 5 = nI (1 + cAt O.1.1 i 2 / 5) by have := hw.com hu hil; rw [show nI (cAt O.1.1 i 2) / (5 : Int32) = nI (cAt O.1.1 i 2 / 5) from pk_div (d := 5) (by omega) (by decide) (by decide)]; exact nI_add 1 _]
  exact r_iret hX dX7_tail_11 ⟨rfl, rfl, rfl⟩ ⟨Nat.le_of_ble_eq_true rfl, Nat.le_of_ble_eq_true rfl⟩
set_option maxRecDepth 20000 in
set_option maxHeartbeats 4000000 in
theorem z_X7_lastPass (E : qE) (g : qG) (m : qM) (x : Nat) (O : kO) (hO : ObsV g m x O) (u : Nat) (hw : WfO u O) (hu : u ≤ 6144) (i : Nat) (hil : i < O.1.1.length) : Sp E yX7_lastPass cX7_lastPass 3 (some .int) 8 0 0 [.ref x, .int (nI (cAt O.1.1 i 0))] g m (fun v g' m' => v = some (.int (nI (cAt O.1.1 i 3 + (cAt O.1.1 i 2 - 1) * cAt O.1.1 i 1))) ∧ g' = g ∧ m' = m) := by
  refine Sp.of (by decide) [some (.ref x), some (.int (nI (cAt O.1.1 i 0))), none] rfl rfl (Nat.le_of_ble_eq_true rfl) (fun X hX => ?_)
  obtain ⟨b0, ⟨S, ⟨hs, ad, hr, hV⟩, hR⟩, b2, b3, b4, b5, b6, b7⟩ := id hO
  have hC : ∀ i k, i < O.1.1.length → i < 6 → k < 5 → qI m (ad i) k = nI (cAt O.1.1 i k) := fun i k h1 h6 h2 => (hV.2.1 i k h6 h2).trans (hR.2.2.1 i k h1 h2)
  have hi6 := hw.len
  refine r_aload_n hX dX7_lastPass_0 rfl ?_
  refine r_iload_n hX dX7_lastPass_1 rfl ?_
  refine r_callV hX dX7_lastPass_2 (z_X7_existing E g m x (nI (cAt O.1.1 i 0)) O S ad b0 hs hr hV hR hw.len i (plV_id hw hu hil)) ml_X7_89 rfl rfl b0.1 rfl ⟨Nat.le_of_ble_eq_true rfl, Nat.le_of_ble_eq_true rfl⟩ ⟨Nat.le_of_ble_eq_true rfl, Nat.le_of_ble_eq_true rfl, rfl, Nat.le_of_ble_eq_true rfl⟩ (fun v2 g2 m2 hp => ?_)
  obtain ⟨hv, hg, hm⟩ := hp
  subst v2
  subst g2
  subst m2
  refine r_astore_n hX dX7_lastPass_5 (Nat.le_of_ble_eq_true rfl) rfl ?_
  refine r_aload_n hX dX7_lastPass_6 rfl ?_
  refine r_getI hX dX7_lastPass_7 (adAt hs hr (by omega)) fl_X7_191 ?_
  rw [hC i 3 hil (by omega) (by decide)]
  refine r_aload_n hX dX7_lastPass_10 rfl ?_
  refine r_getI hX dX7_lastPass_11 (adAt hs hr (by omega)) fl_X7_135 ?_
  rw [hC i 2 hil (by omega) (by decide)]
  refine r_iconst (v := 1) hX dX7_lastPass_14 (by decide) ?_
  refine r_isub hX dX7_lastPass_15 ?_
  rw [show nI (cAt O.1.1 i 2) - (1 : Int32) = nI (cAt O.1.1 i 2 - 1) from pk_sub (b := 1) (by have := hw.com hu hil; omega)]
  refine r_aload_n hX dX7_lastPass_16 rfl ?_
  refine r_getI hX dX7_lastPass_17 (adAt hs hr (by omega)) fl_X7_110 ?_
  rw [hC i 1 hil (by omega) (by decide)]
  refine r_imul hX dX7_lastPass_20 ?_
  rw [pk_mul]
  refine r_iadd hX dX7_lastPass_21 ?_
  rw [nI_add]
  exact r_iret hX dX7_lastPass_22 ⟨rfl, rfl, rfl⟩ ⟨Nat.le_of_ble_eq_true rfl, Nat.le_of_ble_eq_true rfl⟩
