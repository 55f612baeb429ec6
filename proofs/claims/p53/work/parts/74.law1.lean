/-! ===== the law: its helpers ===== -/
/-- a changing call through a helper: some answer, the state behind -/
def pU (x : Nat) (R : kR) : Option Value → qG → qM → Prop := fun v g' m' => (∃ r : Int32, v = some (.int r)) ∧ ObsV g' m' x R.2.2
/-- a question through a helper: its answer, or the number that stands for what was thrown -/
def pQ (x : Nat) (R : kR) (c1 c2 c3 : Int32) : Option Value → qG → qM → Prop := fun v g' m' => v = some (.int (if R.1 = 0 then R.2.1 else if R.1 = 1 then c1 else if R.1 = 2 then c2 else c3)) ∧ ObsV g' m' x R.2.2
set_option maxRecDepth 20000 in
set_option maxHeartbeats 4000000 in
theorem s_L_addComet (E : qE) (g : qG) (m : qM) (x : Nat) (O : kO) (hO : ObsV g m x O) (u : Nat) (hw : WfO u O) (hu : u ≤ 6144) (a1 a2 a3 : Int32) : SpH E yL_addComet cL_addComet 5 (some .int) [(0, 7, 8, 19), (0, 7, 14, 21)] 9 1 6 [.ref x, .int a1, .int a2, .int a3] g m (pU x (addO O a1 a2 a3)) := by
  refine SpH.of (by decide) [some (.ref x), some (.int a1), some (.int a2), some (.int a3), none] rfl rfl (Nat.le_of_ble_eq_true rfl) (fun X hX => ?_)
  have b0 := hO.1
  refine r_aload_n hX dL_addComet_0 rfl ?_
  refine r_iload_n hX dL_addComet_1 rfl ?_
  refine r_iload_n hX dL_addComet_2 rfl ?_
  refine r_iload_n hX dL_addComet_3 rfl ?_
  refine r_callVX hX dL_addComet_4 (s_X7_addComet E g m x O hO u hw hu a1 a2 a3) ml_L_13 mk_L_13 rfl rfl b0.1 rfl ⟨Nat.le_of_ble_eq_true rfl, Nat.le_of_ble_eq_true rfl⟩ ⟨Nat.le_of_ble_eq_true rfl, Nat.le_of_ble_eq_true rfl, rfl, Nat.le_of_ble_eq_true rfl⟩ (fun v4 g4 m4 hp => ?_) (fun nm gx mx hp => ?_)
  rotate_left
  · obtain ⟨⟨k9, hk9, hn9⟩, hO9, hF9⟩ := hp
    rcases k9 with _ | _ | k9
    · have e9 : "java/lang/IllegalArgumentException" = nm := Option.some.inj hn9
      subst e9
      refine r_catch (name := "java/lang/IllegalArgumentException") hX [] ⟨0, 7, 8, 19⟩ [⟨0, 7, 14, 21⟩] rfl (fun z hz => absurd hz List.not_mem_nil) rfl (by decide) ⟨List.mem_of_getElem? (i := 977) (by decide +kernel), by decide +kernel⟩ ⟨List.mem_of_getElem? (i := 462) (by decide +kernel), by decide +kernel⟩ (fun q => ?_)
      refine r_astore hX dL_addComet_8 (Nat.le_of_ble_eq_true rfl) rfl ?_
      refine r_sipush (v := (-20000)) hX dL_addComet_10 (by decide) ?_
      exact r_x (r_iret hX dL_addComet_13 ⟨⟨_, rfl⟩, hO9⟩ ⟨Nat.le_of_ble_eq_true rfl, Nat.le_of_ble_eq_true rfl⟩)
    · have e9 : "java/lang/IllegalStateException" = nm := Option.some.inj hn9
      subst e9
      refine r_catch (name := "java/lang/IllegalStateException") hX [⟨0, 7, 8, 19⟩] ⟨0, 7, 14, 21⟩ [] rfl (fun z hz => by
        rcases List.mem_cons.mp hz with rfl | hz
        · exact ⟨by decide, "java/lang/IllegalArgumentException", ⟨List.mem_of_getElem? (i := 977) (by decide +kernel), by decide +kernel⟩, List.mem_of_getElem? (i := 0) rfl⟩
        exact absurd hz List.not_mem_nil) rfl (by decide) ⟨List.mem_of_getElem? (i := 1033) (by decide +kernel), by decide +kernel⟩ ⟨List.mem_of_getElem? (i := 1054) (by decide +kernel), by decide +kernel⟩ (fun q => ?_)
      refine r_astore hX dL_addComet_14 (Nat.le_of_ble_eq_true rfl) rfl ?_
      refine r_sipush (v := (-10000)) hX dL_addComet_16 (by decide) ?_
      exact r_x (r_iret hX dL_addComet_19 ⟨⟨_, rfl⟩, hO9⟩ ⟨Nat.le_of_ble_eq_true rfl, Nat.le_of_ble_eq_true rfl⟩)
    · exact absurd hn9 (by simp)
  obtain ⟨h0, hv, hO1, hF1⟩ := hp
  subst v4
  exact r_x (r_iret hX dL_addComet_7 ⟨⟨_, rfl⟩, hO1⟩ ⟨Nat.le_of_ble_eq_true rfl, Nat.le_of_ble_eq_true rfl⟩)
set_option maxRecDepth 20000 in
set_option maxHeartbeats 4000000 in
theorem s_L_remove (E : qE) (g : qG) (m : qM) (x : Nat) (O : kO) (hO : ObsV g m x O) (u : Nat) (hw : WfO u O) (hu : u ≤ 6144) (a1 : Int32) : SpH E yL_remove cL_remove 3 (some .int) [(0, 5, 6, 27)] 10 1 6 [.ref x, .int a1] g m (pU x (dropO O a1)) := by
  refine SpH.of (by decide) [some (.ref x), some (.int a1), none] rfl rfl (Nat.le_of_ble_eq_true rfl) (fun X hX => ?_)
  have b0 := hO.1
  refine r_aload_n hX dL_remove_0 rfl ?_
  refine r_iload_n hX dL_remove_1 rfl ?_
  refine r_callVX hX dL_remove_2 (s_X7_remove E g m x O hO u hw hu a1) ml_L_23 mk_L_23 rfl rfl b0.1 rfl ⟨Nat.le_of_ble_eq_true rfl, Nat.le_of_ble_eq_true rfl⟩ ⟨Nat.le_of_ble_eq_true rfl, Nat.le_of_ble_eq_true rfl, rfl, Nat.le_of_ble_eq_true rfl⟩ (fun v2 g2 m2 hp => ?_) (fun nm gx mx hp => ?_)
  rotate_left
  · obtain ⟨⟨k9, hk9, hn9⟩, hO9, hF9⟩ := hp
    rcases k9 with _ | k9
    · have e9 : "java/util/NoSuchElementException" = nm := Option.some.inj hn9
      subst e9
      refine r_catch (name := "java/util/NoSuchElementException") hX [] ⟨0, 5, 6, 27⟩ [] rfl (fun z hz => absurd hz List.not_mem_nil) rfl (by decide) ⟨List.mem_of_getElem? (i := 976) (by decide +kernel), by decide +kernel⟩ ⟨List.mem_of_getElem? (i := 403) (by decide +kernel), by decide +kernel⟩ (fun q => ?_)
      refine r_astore_n hX dL_remove_6 (Nat.le_of_ble_eq_true rfl) rfl ?_
      refine r_sipush (v := (-30000)) hX dL_remove_7 (by decide) ?_
      exact r_x (r_iret hX dL_remove_10 ⟨⟨_, rfl⟩, hO9⟩ ⟨Nat.le_of_ble_eq_true rfl, Nat.le_of_ble_eq_true rfl⟩)
    · exact absurd hn9 (by simp)
  obtain ⟨h0, hv, hO1, hF1⟩ := hp
  subst v2
  exact r_x (r_iret hX dL_remove_5 ⟨⟨_, rfl⟩, hO1⟩ ⟨Nat.le_of_ble_eq_true rfl, Nat.le_of_ble_eq_true rfl⟩)
set_option maxRecDepth 20000 in
set_option maxHeartbeats 4000000 in
theorem s_L_setPeriod (E : qE) (g : qG) (m : qM) (x : Nat) (O : kO) (hO : ObsV g m x O) (u : Nat) (hw : WfO u O) (hu : u ≤ 6144) (a1 a2 : Int32) : SpH E yL_setPeriod cL_setPeriod 4 (some .int) [(0, 6, 7, 27), (0, 6, 12, 19)] 10 2 12 [.ref x, .int a1, .int a2] g m (pU x (turnO O a1 a2)) := by
  refine SpH.of (by decide) [some (.ref x), some (.int a1), some (.int a2), none] rfl rfl (Nat.le_of_ble_eq_true rfl) (fun X hX => ?_)
  have b0 := hO.1
  refine r_aload_n hX dL_setPeriod_0 rfl ?_
  refine r_iload_n hX dL_setPeriod_1 rfl ?_
  refine r_iload_n hX dL_setPeriod_2 rfl ?_
  refine r_callVX hX dL_setPeriod_3 (s_X7_setPeriod E g m x O hO u hw hu a1 a2) ml_L_29 mk_L_29 rfl rfl b0.1 rfl ⟨Nat.le_of_ble_eq_true rfl, Nat.le_of_ble_eq_true rfl⟩ ⟨Nat.le_of_ble_eq_true rfl, Nat.le_of_ble_eq_true rfl, rfl, Nat.le_of_ble_eq_true rfl⟩ (fun v3 g3 m3 hp => ?_) (fun nm gx mx hp => ?_)
  rotate_left
  · obtain ⟨⟨k9, hk9, hn9⟩, hO9, hF9⟩ := hp
    rcases k9 with _ | _ | k9
    · have e9 : "java/util/NoSuchElementException" = nm := Option.some.inj hn9
      subst e9
      refine r_catch (name := "java/util/NoSuchElementException") hX [] ⟨0, 6, 7, 27⟩ [⟨0, 6, 12, 19⟩] rfl (fun z hz => absurd hz List.not_mem_nil) rfl (by decide) ⟨List.mem_of_getElem? (i := 976) (by decide +kernel), by decide +kernel⟩ ⟨List.mem_of_getElem? (i := 403) (by decide +kernel), by decide +kernel⟩ (fun q => ?_)
      refine r_astore_n hX dL_setPeriod_7 (Nat.le_of_ble_eq_true rfl) rfl ?_
      refine r_sipush (v := (-30000)) hX dL_setPeriod_8 (by decide) ?_
      exact r_x (r_iret hX dL_setPeriod_11 ⟨⟨_, rfl⟩, hO9⟩ ⟨Nat.le_of_ble_eq_true rfl, Nat.le_of_ble_eq_true rfl⟩)
    · have e9 : "java/lang/IllegalArgumentException" = nm := Option.some.inj hn9
      subst e9
      refine r_catch (name := "java/lang/IllegalArgumentException") hX [⟨0, 6, 7, 27⟩] ⟨0, 6, 12, 19⟩ [] rfl (fun z hz => by
        rcases List.mem_cons.mp hz with rfl | hz
        · exact ⟨by decide, "java/util/NoSuchElementException", ⟨List.mem_of_getElem? (i := 976) (by decide +kernel), by decide +kernel⟩, List.mem_of_getElem? (i := 1) rfl⟩
        exact absurd hz List.not_mem_nil) rfl (by decide) ⟨List.mem_of_getElem? (i := 977) (by decide +kernel), by decide +kernel⟩ ⟨List.mem_of_getElem? (i := 462) (by decide +kernel), by decide +kernel⟩ (fun q => ?_)
      refine r_astore_n hX dL_setPeriod_12 (Nat.le_of_ble_eq_true rfl) rfl ?_
      refine r_sipush (v := (-20000)) hX dL_setPeriod_13 (by decide) ?_
      exact r_x (r_iret hX dL_setPeriod_16 ⟨⟨_, rfl⟩, hO9⟩ ⟨Nat.le_of_ble_eq_true rfl, Nat.le_of_ble_eq_true rfl⟩)
    · exact absurd hn9 (by simp)
  obtain ⟨h0, hv, hO1, hF1⟩ := hp
  subst v3
  exact r_x (r_iret hX dL_setPeriod_6 ⟨⟨_, rfl⟩, hO1⟩ ⟨Nat.le_of_ble_eq_true rfl, Nat.le_of_ble_eq_true rfl⟩)
set_option maxRecDepth 20000 in
set_option maxHeartbeats 4000000 in
theorem s_L_brighten (E : qE) (g : qG) (m : qM) (x : Nat) (O : kO) (hO : ObsV g m x O) (u : Nat) (hw : WfO u O) (hu : u ≤ 6144) (a1 a2 : Int32) : SpH E yL_brighten cL_brighten 4 (some .int) [(0, 6, 7, 27), (0, 6, 12, 19), (0, 6, 17, 21), (0, 6, 22, 36)] 10 2 12 [.ref x, .int a1, .int a2] g m (pU x (shineO O a1 a2)) := by
  refine SpH.of (by decide) [some (.ref x), some (.int a1), some (.int a2), none] rfl rfl (Nat.le_of_ble_eq_true rfl) (fun X hX => ?_)
  have b0 := hO.1
  refine r_aload_n hX dL_brighten_0 rfl ?_
  refine r_iload_n hX dL_brighten_1 rfl ?_
  refine r_iload_n hX dL_brighten_2 rfl ?_
  refine r_callVX hX dL_brighten_3 (s_X7_brighten E g m x O hO u hw hu a1 a2) ml_L_33 mk_L_33 rfl rfl b0.1 rfl ⟨Nat.le_of_ble_eq_true rfl, Nat.le_of_ble_eq_true rfl⟩ ⟨Nat.le_of_ble_eq_true rfl, Nat.le_of_ble_eq_true rfl, rfl, Nat.le_of_ble_eq_true rfl⟩ (fun v3 g3 m3 hp => ?_) (fun nm gx mx hp => ?_)
  rotate_left
  · obtain ⟨⟨k9, hk9, hn9⟩, hO9, hF9⟩ := hp
    rcases k9 with _ | _ | _ | _ | k9
    · have e9 : "java/util/NoSuchElementException" = nm := Option.some.inj hn9
      subst e9
      refine r_catch (name := "java/util/NoSuchElementException") hX [] ⟨0, 6, 7, 27⟩ [⟨0, 6, 12, 19⟩, ⟨0, 6, 17, 21⟩, ⟨0, 6, 22, 36⟩] rfl (fun z hz => absurd hz List.not_mem_nil) rfl (by decide) ⟨List.mem_of_getElem? (i := 976) (by decide +kernel), by decide +kernel⟩ ⟨List.mem_of_getElem? (i := 403) (by decide +kernel), by decide +kernel⟩ (fun q => ?_)
      refine r_astore_n hX dL_brighten_7 (Nat.le_of_ble_eq_true rfl) rfl ?_
      refine r_sipush (v := (-30000)) hX dL_brighten_8 (by decide) ?_
      exact r_x (r_iret hX dL_brighten_11 ⟨⟨_, rfl⟩, hO9⟩ ⟨Nat.le_of_ble_eq_true rfl, Nat.le_of_ble_eq_true rfl⟩)
    · have e9 : "java/lang/IllegalArgumentException" = nm := Option.some.inj hn9
      subst e9
      refine r_catch (name := "java/lang/IllegalArgumentException") hX [⟨0, 6, 7, 27⟩] ⟨0, 6, 12, 19⟩ [⟨0, 6, 17, 21⟩, ⟨0, 6, 22, 36⟩] rfl (fun z hz => by
        rcases List.mem_cons.mp hz with rfl | hz
        · exact ⟨by decide, "java/util/NoSuchElementException", ⟨List.mem_of_getElem? (i := 976) (by decide +kernel), by decide +kernel⟩, List.mem_of_getElem? (i := 1) rfl⟩
        exact absurd hz List.not_mem_nil) rfl (by decide) ⟨List.mem_of_getElem? (i := 977) (by decide +kernel), by decide +kernel⟩ ⟨List.mem_of_getElem? (i := 462) (by decide +kernel), by decide +kernel⟩ (fun q => ?_)
      refine r_astore_n hX dL_brighten_12 (Nat.le_of_ble_eq_true rfl) rfl ?_
      refine r_sipush (v := (-20000)) hX dL_brighten_13 (by decide) ?_
      exact r_x (r_iret hX dL_brighten_16 ⟨⟨_, rfl⟩, hO9⟩ ⟨Nat.le_of_ble_eq_true rfl, Nat.le_of_ble_eq_true rfl⟩)
    · have e9 : "java/lang/IllegalStateException" = nm := Option.some.inj hn9
      subst e9
      refine r_catch (name := "java/lang/IllegalStateException") hX [⟨0, 6, 7, 27⟩, ⟨0, 6, 12, 19⟩] ⟨0, 6, 17, 21⟩ [⟨0, 6, 22, 36⟩] rfl (fun z hz => by
        rcases List.mem_cons.mp hz with rfl | hz
        · exact ⟨by decide, "java/util/NoSuchElementException", ⟨List.mem_of_getElem? (i := 976) (by decide +kernel), by decide +kernel⟩, List.mem_of_getElem? (i := 2) rfl⟩
        rcases List.mem_cons.mp hz with rfl | hz
        · exact ⟨by decide, "java/lang/IllegalArgumentException", ⟨List.mem_of_getElem? (i := 977) (by decide +kernel), by decide +kernel⟩, List.mem_of_getElem? (i := 0) rfl⟩
        exact absurd hz List.not_mem_nil) rfl (by decide) ⟨List.mem_of_getElem? (i := 1033) (by decide +kernel), by decide +kernel⟩ ⟨List.mem_of_getElem? (i := 1054) (by decide +kernel), by decide +kernel⟩ (fun q => ?_)
      refine r_astore_n hX dL_brighten_17 (Nat.le_of_ble_eq_true rfl) rfl ?_
      refine r_sipush (v := (-10000)) hX dL_brighten_18 (by decide) ?_
      exact r_x (r_iret hX dL_brighten_21 ⟨⟨_, rfl⟩, hO9⟩ ⟨Nat.le_of_ble_eq_true rfl, Nat.le_of_ble_eq_true rfl⟩)
    · have e9 : "java/lang/UnsupportedOperationException" = nm := Option.some.inj hn9
      subst e9
      refine r_catch (name := "java/lang/UnsupportedOperationException") hX [⟨0, 6, 7, 27⟩, ⟨0, 6, 12, 19⟩, ⟨0, 6, 17, 21⟩] ⟨0, 6, 22, 36⟩ [] rfl (fun z hz => by
        rcases List.mem_cons.mp hz with rfl | hz
        · exact ⟨by decide, "java/util/NoSuchElementException", ⟨List.mem_of_getElem? (i := 976) (by decide +kernel), by decide +kernel⟩, List.mem_of_getElem? (i := 3) rfl⟩
        rcases List.mem_cons.mp hz with rfl | hz
        · exact ⟨by decide, "java/lang/IllegalArgumentException", ⟨List.mem_of_getElem? (i := 977) (by decide +kernel), by decide +kernel⟩, List.mem_of_getElem? (i := 4) rfl⟩
        rcases List.mem_cons.mp hz with rfl | hz
        · exact ⟨by decide, "java/lang/IllegalStateException", ⟨List.mem_of_getElem? (i := 1033) (by decide +kernel), by decide +kernel⟩, List.mem_of_getElem? (i := 5) rfl⟩
        exact absurd hz List.not_mem_nil) rfl (by decide) ⟨List.mem_of_getElem? (i := 978) (by decide +kernel), by decide +kernel⟩ ⟨List.mem_of_getElem? (i := 992) (by decide +kernel), by decide +kernel⟩ (fun q => ?_)
      refine r_astore_n hX dL_brighten_22 (Nat.le_of_ble_eq_true rfl) rfl ?_
      refine r_sipush (v := (-15000)) hX dL_brighten_23 (by decide) ?_
      exact r_x (r_iret hX dL_brighten_26 ⟨⟨_, rfl⟩, hO9⟩ ⟨Nat.le_of_ble_eq_true rfl, Nat.le_of_ble_eq_true rfl⟩)
    · exact absurd hn9 (by simp)
  obtain ⟨h0, hv, hO1, hF1⟩ := hp
  subst v3
  exact r_x (r_iret hX dL_brighten_6 ⟨⟨_, rfl⟩, hO1⟩ ⟨Nat.le_of_ble_eq_true rfl, Nat.le_of_ble_eq_true rfl⟩)
set_option maxRecDepth 20000 in
set_option maxHeartbeats 4000000 in
theorem s_L_passDays (E : qE) (g : qG) (m : qM) (x : Nat) (O : kO) (hO : ObsV g m x O) (u : Nat) (hw : WfO u O) (hu : u ≤ 6144) (a1 : Int32) : SpH E yL_passDays cL_passDays 3 (some .int) [(0, 5, 6, 19)] 9 1 6 [.ref x, .int a1] g m (pU x (dayO O a1)) := by
  refine SpH.of (by decide) [some (.ref x), some (.int a1), none] rfl rfl (Nat.le_of_ble_eq_true rfl) (fun X hX => ?_)
  have b0 := hO.1
  refine r_aload_n hX dL_passDays_0 rfl ?_
  refine r_iload_n hX dL_passDays_1 rfl ?_
  refine r_callVX hX dL_passDays_2 (s_X7_passDays E g m x O hO u hw hu a1) ml_L_38 mk_L_38 rfl rfl b0.1 rfl ⟨Nat.le_of_ble_eq_true rfl, Nat.le_of_ble_eq_true rfl⟩ ⟨Nat.le_of_ble_eq_true rfl, Nat.le_of_ble_eq_true rfl, rfl, Nat.le_of_ble_eq_true rfl⟩ (fun v2 g2 m2 hp => ?_) (fun nm gx mx hp => ?_)
  rotate_left
  · obtain ⟨⟨k9, hk9, hn9⟩, hO9, hF9⟩ := hp
    rcases k9 with _ | k9
    · have e9 : "java/lang/IllegalArgumentException" = nm := Option.some.inj hn9
      subst e9
      refine r_catch (name := "java/lang/IllegalArgumentException") hX [] ⟨0, 5, 6, 19⟩ [] rfl (fun z hz => absurd hz List.not_mem_nil) rfl (by decide) ⟨List.mem_of_getElem? (i := 977) (by decide +kernel), by decide +kernel⟩ ⟨List.mem_of_getElem? (i := 462) (by decide +kernel), by decide +kernel⟩ (fun q => ?_)
      refine r_astore_n hX dL_passDays_6 (Nat.le_of_ble_eq_true rfl) rfl ?_
      refine r_sipush (v := (-20000)) hX dL_passDays_7 (by decide) ?_
      exact r_x (r_iret hX dL_passDays_10 ⟨⟨_, rfl⟩, hO9⟩ ⟨Nat.le_of_ble_eq_true rfl, Nat.le_of_ble_eq_true rfl⟩)
    · exact absurd hn9 (by simp)
  obtain ⟨h0, hv, hO1, hF1⟩ := hp
  subst v2
  exact r_x (r_iret hX dL_passDays_5 ⟨⟨_, rfl⟩, hO1⟩ ⟨Nat.le_of_ble_eq_true rfl, Nat.le_of_ble_eq_true rfl⟩)
set_option maxRecDepth 20000 in
set_option maxHeartbeats 4000000 in
theorem s_L_clean (E : qE) (g : qG) (m : qM) (x : Nat) (O : kO) (hO : ObsV g m x O) (u : Nat) (hw : WfO u O) (hu : u ≤ 6144) (a1 a2 : Int32) : SpH E yL_clean cL_clean 4 (some .int) [(0, 6, 7, 44), (0, 6, 12, 19), (0, 6, 17, 21)] 9 1 6 [.ref x, .int a1, .int a2] g m (pU x (vacO O a1 a2)) := by
  refine SpH.of (by decide) [some (.ref x), some (.int a1), some (.int a2), none] rfl rfl (Nat.le_of_ble_eq_true rfl) (fun X hX => ?_)
  have b0 := hO.1
  refine r_aload_n hX dL_clean_0 rfl ?_
  refine r_iload_n hX dL_clean_1 rfl ?_
  refine r_iload_n hX dL_clean_2 rfl ?_
  refine r_callVX hX dL_clean_3 (s_X7_clean E g m x O hO u hw hu a1 a2) ml_L_41 mk_L_41 rfl rfl b0.1 rfl ⟨Nat.le_of_ble_eq_true rfl, Nat.le_of_ble_eq_true rfl⟩ ⟨Nat.le_of_ble_eq_true rfl, Nat.le_of_ble_eq_true rfl, rfl, Nat.le_of_ble_eq_true rfl⟩ (fun v3 g3 m3 hp => ?_) (fun nm gx mx hp => ?_)
  rotate_left
  · obtain ⟨⟨k9, hk9, hn9⟩, hO9, hF9⟩ := hp
    rcases k9 with _ | _ | _ | k9
    · have e9 : "java/lang/IndexOutOfBoundsException" = nm := Option.some.inj hn9
      subst e9
      refine r_catch (name := "java/lang/IndexOutOfBoundsException") hX [] ⟨0, 6, 7, 44⟩ [⟨0, 6, 12, 19⟩, ⟨0, 6, 17, 21⟩] rfl (fun z hz => absurd hz List.not_mem_nil) rfl (by decide) ⟨List.mem_of_getElem? (i := 967) (by decide +kernel), by decide +kernel⟩ ⟨List.mem_of_getElem? (i := 310) (by decide +kernel), by decide +kernel⟩ (fun q => ?_)
      refine r_astore_n hX dL_clean_7 (Nat.le_of_ble_eq_true rfl) rfl ?_
      refine r_sipush (v := (-25000)) hX dL_clean_8 (by decide) ?_
      exact r_x (r_iret hX dL_clean_11 ⟨⟨_, rfl⟩, hO9⟩ ⟨Nat.le_of_ble_eq_true rfl, Nat.le_of_ble_eq_true rfl⟩)
    · have e9 : "java/lang/IllegalArgumentException" = nm := Option.some.inj hn9
      subst e9
      refine r_catch (name := "java/lang/IllegalArgumentException") hX [⟨0, 6, 7, 44⟩] ⟨0, 6, 12, 19⟩ [⟨0, 6, 17, 21⟩] rfl (fun z hz => by
        rcases List.mem_cons.mp hz with rfl | hz
        · exact ⟨by decide, "java/lang/IndexOutOfBoundsException", ⟨List.mem_of_getElem? (i := 967) (by decide +kernel), by decide +kernel⟩, List.mem_of_getElem? (i := 6) rfl⟩
        exact absurd hz List.not_mem_nil) rfl (by decide) ⟨List.mem_of_getElem? (i := 977) (by decide +kernel), by decide +kernel⟩ ⟨List.mem_of_getElem? (i := 462) (by decide +kernel), by decide +kernel⟩ (fun q => ?_)
      refine r_astore_n hX dL_clean_12 (Nat.le_of_ble_eq_true rfl) rfl ?_
      refine r_sipush (v := (-20000)) hX dL_clean_13 (by decide) ?_
      exact r_x (r_iret hX dL_clean_16 ⟨⟨_, rfl⟩, hO9⟩ ⟨Nat.le_of_ble_eq_true rfl, Nat.le_of_ble_eq_true rfl⟩)
    · have e9 : "java/lang/IllegalStateException" = nm := Option.some.inj hn9
      subst e9
      refine r_catch (name := "java/lang/IllegalStateException") hX [⟨0, 6, 7, 44⟩, ⟨0, 6, 12, 19⟩] ⟨0, 6, 17, 21⟩ [] rfl (fun z hz => by
        rcases List.mem_cons.mp hz with rfl | hz
        · exact ⟨by decide, "java/lang/IndexOutOfBoundsException", ⟨List.mem_of_getElem? (i := 967) (by decide +kernel), by decide +kernel⟩, List.mem_of_getElem? (i := 7) rfl⟩
        rcases List.mem_cons.mp hz with rfl | hz
        · exact ⟨by decide, "java/lang/IllegalArgumentException", ⟨List.mem_of_getElem? (i := 977) (by decide +kernel), by decide +kernel⟩, List.mem_of_getElem? (i := 0) rfl⟩
        exact absurd hz List.not_mem_nil) rfl (by decide) ⟨List.mem_of_getElem? (i := 1033) (by decide +kernel), by decide +kernel⟩ ⟨List.mem_of_getElem? (i := 1054) (by decide +kernel), by decide +kernel⟩ (fun q => ?_)
      refine r_astore_n hX dL_clean_17 (Nat.le_of_ble_eq_true rfl) rfl ?_
      refine r_sipush (v := (-10000)) hX dL_clean_18 (by decide) ?_
      exact r_x (r_iret hX dL_clean_21 ⟨⟨_, rfl⟩, hO9⟩ ⟨Nat.le_of_ble_eq_true rfl, Nat.le_of_ble_eq_true rfl⟩)
    · exact absurd hn9 (by simp)
  obtain ⟨h0, hv, hO1, hF1⟩ := hp
  subst v3
  exact r_x (r_iret hX dL_clean_6 ⟨⟨_, rfl⟩, hO1⟩ ⟨Nat.le_of_ble_eq_true rfl, Nat.le_of_ble_eq_true rfl⟩)
set_option maxRecDepth 20000 in
set_option maxHeartbeats 4000000 in
theorem s_L_setRate (E : qE) (g : qG) (m : qM) (x : Nat) (O : kO) (hO : ObsV g m x O) (u : Nat) (hw : WfO u O) (hu : u ≤ 6144) (a1 : Int32) : SpH E yL_setRate cL_setRate 3 (some .int) [(0, 5, 6, 19)] 9 1 6 [.ref x, .int a1] g m (pU x (rateO O a1)) := by
  refine SpH.of (by decide) [some (.ref x), some (.int a1), none] rfl rfl (Nat.le_of_ble_eq_true rfl) (fun X hX => ?_)
  have b0 := hO.1
  refine r_aload_n hX dL_setRate_0 rfl ?_
  refine r_iload_n hX dL_setRate_1 rfl ?_
  refine r_callVX hX dL_setRate_2 (s_X7_setRate E g m x O hO u hw hu a1) ml_L_46 mk_L_46 rfl rfl b0.1 rfl ⟨Nat.le_of_ble_eq_true rfl, Nat.le_of_ble_eq_true rfl⟩ ⟨Nat.le_of_ble_eq_true rfl, Nat.le_of_ble_eq_true rfl, rfl, Nat.le_of_ble_eq_true rfl⟩ (fun v2 g2 m2 hp => ?_) (fun nm gx mx hp => ?_)
  rotate_left
  · obtain ⟨⟨k9, hk9, hn9⟩, hO9, hF9⟩ := hp
    rcases k9 with _ | k9
    · have e9 : "java/lang/IllegalArgumentException" = nm := Option.some.inj hn9
      subst e9
      refine r_catch (name := "java/lang/IllegalArgumentException") hX [] ⟨0, 5, 6, 19⟩ [] rfl (fun z hz => absurd hz List.not_mem_nil) rfl (by decide) ⟨List.mem_of_getElem? (i := 977) (by decide +kernel), by decide +kernel⟩ ⟨List.mem_of_getElem? (i := 462) (by decide +kernel), by decide +kernel⟩ (fun q => ?_)
      refine r_astore_n hX dL_setRate_6 (Nat.le_of_ble_eq_true rfl) rfl ?_
      refine r_sipush (v := (-20000)) hX dL_setRate_7 (by decide) ?_
      exact r_x (r_iret hX dL_setRate_10 ⟨⟨_, rfl⟩, hO9⟩ ⟨Nat.le_of_ble_eq_true rfl, Nat.le_of_ble_eq_true rfl⟩)
    · exact absurd hn9 (by simp)
  obtain ⟨h0, hv, hO1, hF1⟩ := hp
  subst v2
  exact r_x (r_iret hX dL_setRate_5 ⟨⟨_, rfl⟩, hO1⟩ ⟨Nat.le_of_ble_eq_true rfl, Nat.le_of_ble_eq_true rfl⟩)
set_option maxRecDepth 20000 in
set_option maxHeartbeats 4000000 in
theorem s_L_cometAt (E : qE) (g : qG) (m : qM) (x : Nat) (O : kO) (hO : ObsV g m x O) (u : Nat) (hw : WfO u O) (hu : u ≤ 6144) (a1 : Int32) : SpH E yL_cometAt cL_cometAt 3 (some .int) [(0, 5, 6, 44)] 9 1 6 [.ref x, .int a1] g m (pQ x (qAt O a1) (-25000) 0 0) := by
  refine SpH.of (by decide) [some (.ref x), some (.int a1), none] rfl rfl (Nat.le_of_ble_eq_true rfl) (fun X hX => ?_)
  have b0 := hO.1
  refine r_aload_n hX dL_cometAt_0 rfl ?_
  refine r_iload_n hX dL_cometAt_1 rfl ?_
  refine r_callVX hX dL_cometAt_2 (s_X7_cometAt E g m x O hO u hw hu a1) ml_L_49 mk_L_49 rfl rfl b0.1 rfl ⟨Nat.le_of_ble_eq_true rfl, Nat.le_of_ble_eq_true rfl⟩ ⟨Nat.le_of_ble_eq_true rfl, Nat.le_of_ble_eq_true rfl, rfl, Nat.le_of_ble_eq_true rfl⟩ (fun v2 g2 m2 hp => ?_) (fun nm gx mx hp => ?_)
  rotate_left
  · obtain ⟨⟨k9, hk9, hn9⟩, hO9, hF9⟩ := hp
    rcases k9 with _ | k9
    · have e9 : "java/lang/IndexOutOfBoundsException" = nm := Option.some.inj hn9
      subst e9
      refine r_catch (name := "java/lang/IndexOutOfBoundsException") hX [] ⟨0, 5, 6, 44⟩ [] rfl (fun z hz => absurd hz List.not_mem_nil) rfl (by decide) ⟨List.mem_of_getElem? (i := 967) (by decide +kernel), by decide +kernel⟩ ⟨List.mem_of_getElem? (i := 310) (by decide +kernel), by decide +kernel⟩ (fun q => ?_)
      refine r_astore_n hX dL_cometAt_6 (Nat.le_of_ble_eq_true rfl) rfl ?_
      refine r_sipush (v := (-25000)) hX dL_cometAt_7 (by decide) ?_
      exact r_x (r_iret hX dL_cometAt_10 ⟨by rw [hk9]; rfl, hO9⟩ ⟨Nat.le_of_ble_eq_true rfl, Nat.le_of_ble_eq_true rfl⟩)
    · exact absurd hn9 (by simp)
  obtain ⟨h0, hv, hO1, hF1⟩ := hp
  subst v2
  exact r_x (r_iret hX dL_cometAt_5 ⟨by rw [h0]; rfl, hO1⟩ ⟨Nat.le_of_ble_eq_true rfl, Nat.le_of_ble_eq_true rfl⟩)
set_option maxRecDepth 20000 in
set_option maxHeartbeats 4000000 in
theorem s_L_cometAtRank (E : qE) (g : qG) (m : qM) (x : Nat) (O : kO) (hO : ObsV g m x O) (u : Nat) (hw : WfO u O) (hu : u ≤ 6144) (a1 : Int32) : SpH E yL_cometAtRank cL_cometAtRank 3 (some .int) [(0, 5, 6, 44)] 9 1 6 [.ref x, .int a1] g m (pQ x (qRank O a1) (-25000) 0 0) := by
  refine SpH.of (by decide) [some (.ref x), some (.int a1), none] rfl rfl (Nat.le_of_ble_eq_true rfl) (fun X hX => ?_)
  have b0 := hO.1
  refine r_aload_n hX dL_cometAtRank_0 rfl ?_
  refine r_iload_n hX dL_cometAtRank_1 rfl ?_
  refine r_callVX hX dL_cometAtRank_2 (s_X7_cometAtRank E g m x O hO u hw hu a1) ml_L_52 mk_L_52 rfl rfl b0.1 rfl ⟨Nat.le_of_ble_eq_true rfl, Nat.le_of_ble_eq_true rfl⟩ ⟨Nat.le_of_ble_eq_true rfl, Nat.le_of_ble_eq_true rfl, rfl, Nat.le_of_ble_eq_true rfl⟩ (fun v2 g2 m2 hp => ?_) (fun nm gx mx hp => ?_)
  rotate_left
  · obtain ⟨⟨k9, hk9, hn9⟩, hO9, hF9⟩ := hp
    rcases k9 with _ | k9
    · have e9 : "java/lang/IndexOutOfBoundsException" = nm := Option.some.inj hn9
      subst e9
      refine r_catch (name := "java/lang/IndexOutOfBoundsException") hX [] ⟨0, 5, 6, 44⟩ [] rfl (fun z hz => absurd hz List.not_mem_nil) rfl (by decide) ⟨List.mem_of_getElem? (i := 967) (by decide +kernel), by decide +kernel⟩ ⟨List.mem_of_getElem? (i := 310) (by decide +kernel), by decide +kernel⟩ (fun q => ?_)
      refine r_astore_n hX dL_cometAtRank_6 (Nat.le_of_ble_eq_true rfl) rfl ?_
      refine r_sipush (v := (-25000)) hX dL_cometAtRank_7 (by decide) ?_
      exact r_x (r_iret hX dL_cometAtRank_10 ⟨by rw [hk9]; rfl, hO9⟩ ⟨Nat.le_of_ble_eq_true rfl, Nat.le_of_ble_eq_true rfl⟩)
    · exact absurd hn9 (by simp)
  obtain ⟨h0, hv, hO1, hF1⟩ := hp
  subst v2
  exact r_x (r_iret hX dL_cometAtRank_5 ⟨by rw [h0]; rfl, hO1⟩ ⟨Nat.le_of_ble_eq_true rfl, Nat.le_of_ble_eq_true rfl⟩)
set_option maxRecDepth 20000 in
set_option maxHeartbeats 4000000 in
theorem s_L_nextMeeting (E : qE) (g : qG) (m : qM) (x : Nat) (O : kO) (hO : ObsV g m x O) (u : Nat) (hw : WfO u O) (hu : u ≤ 6144) (a1 a2 : Int32) : SpH E yL_nextMeeting cL_nextMeeting 4 (some .int) [(0, 6, 7, 27), (0, 6, 12, 19), (0, 6, 17, 36)] 10 3 18 [.ref x, .int a1, .int a2] g m (pQ x (qMeet mWalk O a1 a2) (-30000) (-20000) (-15000)) := by
  refine SpH.of (by decide) [some (.ref x), some (.int a1), some (.int a2), none] rfl rfl (Nat.le_of_ble_eq_true rfl) (fun X hX => ?_)
  have b0 := hO.1
  refine r_aload_n hX dL_nextMeeting_0 rfl ?_
  refine r_iload_n hX dL_nextMeeting_1 rfl ?_
  refine r_iload_n hX dL_nextMeeting_2 rfl ?_
  refine r_callVX hX dL_nextMeeting_3 (s_X7_nextMeeting E g m x O hO u hw hu a1 a2) ml_L_55 mk_L_55 rfl rfl b0.1 rfl ⟨Nat.le_of_ble_eq_true rfl, Nat.le_of_ble_eq_true rfl⟩ ⟨Nat.le_of_ble_eq_true rfl, Nat.le_of_ble_eq_true rfl, rfl, Nat.le_of_ble_eq_true rfl⟩ (fun v3 g3 m3 hp => ?_) (fun nm gx mx hp => ?_)
  rotate_left
  · obtain ⟨⟨k9, hk9, hn9⟩, hO9, hF9⟩ := hp
    rcases k9 with _ | _ | _ | k9
    · have e9 : "java/util/NoSuchElementException" = nm := Option.some.inj hn9
      subst e9
      refine r_catch (name := "java/util/NoSuchElementException") hX [] ⟨0, 6, 7, 27⟩ [⟨0, 6, 12, 19⟩, ⟨0, 6, 17, 36⟩] rfl (fun z hz => absurd hz List.not_mem_nil) rfl (by decide) ⟨List.mem_of_getElem? (i := 976) (by decide +kernel), by decide +kernel⟩ ⟨List.mem_of_getElem? (i := 403) (by decide +kernel), by decide +kernel⟩ (fun q => ?_)
      refine r_astore_n hX dL_nextMeeting_7 (Nat.le_of_ble_eq_true rfl) rfl ?_
      refine r_sipush (v := (-30000)) hX dL_nextMeeting_8 (by decide) ?_
      exact r_x (r_iret hX dL_nextMeeting_11 ⟨by rw [hk9]; rfl, hO9⟩ ⟨Nat.le_of_ble_eq_true rfl, Nat.le_of_ble_eq_true rfl⟩)
    · have e9 : "java/lang/IllegalArgumentException" = nm := Option.some.inj hn9
      subst e9
      refine r_catch (name := "java/lang/IllegalArgumentException") hX [⟨0, 6, 7, 27⟩] ⟨0, 6, 12, 19⟩ [⟨0, 6, 17, 36⟩] rfl (fun z hz => by
        rcases List.mem_cons.mp hz with rfl | hz
        · exact ⟨by decide, "java/util/NoSuchElementException", ⟨List.mem_of_getElem? (i := 976) (by decide +kernel), by decide +kernel⟩, List.mem_of_getElem? (i := 1) rfl⟩
        exact absurd hz List.not_mem_nil) rfl (by decide) ⟨List.mem_of_getElem? (i := 977) (by decide +kernel), by decide +kernel⟩ ⟨List.mem_of_getElem? (i := 462) (by decide +kernel), by decide +kernel⟩ (fun q => ?_)
      refine r_astore_n hX dL_nextMeeting_12 (Nat.le_of_ble_eq_true rfl) rfl ?_
      refine r_sipush (v := (-20000)) hX dL_nextMeeting_13 (by decide) ?_
      exact r_x (r_iret hX dL_nextMeeting_16 ⟨by rw [hk9]; rfl, hO9⟩ ⟨Nat.le_of_ble_eq_true rfl, Nat.le_of_ble_eq_true rfl⟩)
    · have e9 : "java/lang/UnsupportedOperationException" = nm := Option.some.inj hn9
      subst e9
      refine r_catch (name := "java/lang/UnsupportedOperationException") hX [⟨0, 6, 7, 27⟩, ⟨0, 6, 12, 19⟩] ⟨0, 6, 17, 36⟩ [] rfl (fun z hz => by
        rcases List.mem_cons.mp hz with rfl | hz
        · exact ⟨by decide, "java/util/NoSuchElementException", ⟨List.mem_of_getElem? (i := 976) (by decide +kernel), by decide +kernel⟩, List.mem_of_getElem? (i := 3) rfl⟩
        rcases List.mem_cons.mp hz with rfl | hz
        · exact ⟨by decide, "java/lang/IllegalArgumentException", ⟨List.mem_of_getElem? (i := 977) (by decide +kernel), by decide +kernel⟩, List.mem_of_getElem? (i := 4) rfl⟩
        exact absurd hz List.not_mem_nil) rfl (by decide) ⟨List.mem_of_getElem? (i := 978) (by decide +kernel), by decide +kernel⟩ ⟨List.mem_of_getElem? (i := 992) (by decide +kernel), by decide +kernel⟩ (fun q => ?_)
      refine r_astore_n hX dL_nextMeeting_17 (Nat.le_of_ble_eq_true rfl) rfl ?_
      refine r_sipush (v := (-15000)) hX dL_nextMeeting_18 (by decide) ?_
      exact r_x (r_iret hX dL_nextMeeting_21 ⟨by rw [hk9]; rfl, hO9⟩ ⟨Nat.le_of_ble_eq_true rfl, Nat.le_of_ble_eq_true rfl⟩)
    · exact absurd hn9 (by simp)
  obtain ⟨h0, hv, hO1, hF1⟩ := hp
  subst v3
  exact r_x (r_iret hX dL_nextMeeting_6 ⟨by rw [h0]; rfl, hO1⟩ ⟨Nat.le_of_ble_eq_true rfl, Nat.le_of_ble_eq_true rfl⟩)
set_option maxRecDepth 20000 in
set_option maxHeartbeats 4000000 in
theorem s_L_nextMeetingByRemainders (E : qE) (g : qG) (m : qM) (x : Nat) (O : kO) (hO : ObsV g m x O) (u : Nat) (hw : WfO u O) (hu : u ≤ 6144) (a1 a2 : Int32) : SpH E yL_nextMeetingByRemainders cL_nextMeetingByRemainders 4 (some .int) [(0, 6, 7, 27), (0, 6, 12, 19), (0, 6, 17, 36)] 10 3 18 [.ref x, .int a1, .int a2] g m (pQ x (qMeet mEuclid O a1 a2) (-30000) (-20000) (-15000)) := by
  refine SpH.of (by decide) [some (.ref x), some (.int a1), some (.int a2), none] rfl rfl (Nat.le_of_ble_eq_true rfl) (fun X hX => ?_)
  have b0 := hO.1
  refine r_aload_n hX dL_nextMeetingByRemainders_0 rfl ?_
  refine r_iload_n hX dL_nextMeetingByRemainders_1 rfl ?_
  refine r_iload_n hX dL_nextMeetingByRemainders_2 rfl ?_
  refine r_callVX hX dL_nextMeetingByRemainders_3 (s_X7_nextMeetingByRemainders E g m x O hO u hw hu a1 a2) ml_L_58 mk_L_58 rfl rfl b0.1 rfl ⟨Nat.le_of_ble_eq_true rfl, Nat.le_of_ble_eq_true rfl⟩ ⟨Nat.le_of_ble_eq_true rfl, Nat.le_of_ble_eq_true rfl, rfl, Nat.le_of_ble_eq_true rfl⟩ (fun v3 g3 m3 hp => ?_) (fun nm gx mx hp => ?_)
  rotate_left
  · obtain ⟨⟨k9, hk9, hn9⟩, hO9, hF9⟩ := hp
    rcases k9 with _ | _ | _ | k9
    · have e9 : "java/util/NoSuchElementException" = nm := Option.some.inj hn9
      subst e9
      refine r_catch (name := "java/util/NoSuchElementException") hX [] ⟨0, 6, 7, 27⟩ [⟨0, 6, 12, 19⟩, ⟨0, 6, 17, 36⟩] rfl (fun z hz => absurd hz List.not_mem_nil) rfl (by decide) ⟨List.mem_of_getElem? (i := 976) (by decide +kernel), by decide +kernel⟩ ⟨List.mem_of_getElem? (i := 403) (by decide +kernel), by decide +kernel⟩ (fun q => ?_)
      refine r_astore_n hX dL_nextMeetingByRemainders_7 (Nat.le_of_ble_eq_true rfl) rfl ?_
      refine r_sipush (v := (-30000)) hX dL_nextMeetingByRemainders_8 (by decide) ?_
      exact r_x (r_iret hX dL_nextMeetingByRemainders_11 ⟨by rw [hk9]; rfl, hO9⟩ ⟨Nat.le_of_ble_eq_true rfl, Nat.le_of_ble_eq_true rfl⟩)
    · have e9 : "java/lang/IllegalArgumentException" = nm := Option.some.inj hn9
      subst e9
      refine r_catch (name := "java/lang/IllegalArgumentException") hX [⟨0, 6, 7, 27⟩] ⟨0, 6, 12, 19⟩ [⟨0, 6, 17, 36⟩] rfl (fun z hz => by
        rcases List.mem_cons.mp hz with rfl | hz
        · exact ⟨by decide, "java/util/NoSuchElementException", ⟨List.mem_of_getElem? (i := 976) (by decide +kernel), by decide +kernel⟩, List.mem_of_getElem? (i := 1) rfl⟩
        exact absurd hz List.not_mem_nil) rfl (by decide) ⟨List.mem_of_getElem? (i := 977) (by decide +kernel), by decide +kernel⟩ ⟨List.mem_of_getElem? (i := 462) (by decide +kernel), by decide +kernel⟩ (fun q => ?_)
      refine r_astore_n hX dL_nextMeetingByRemainders_12 (Nat.le_of_ble_eq_true rfl) rfl ?_
      refine r_sipush (v := (-20000)) hX dL_nextMeetingByRemainders_13 (by decide) ?_
      exact r_x (r_iret hX dL_nextMeetingByRemainders_16 ⟨by rw [hk9]; rfl, hO9⟩ ⟨Nat.le_of_ble_eq_true rfl, Nat.le_of_ble_eq_true rfl⟩)
    · have e9 : "java/lang/UnsupportedOperationException" = nm := Option.some.inj hn9
      subst e9
      refine r_catch (name := "java/lang/UnsupportedOperationException") hX [⟨0, 6, 7, 27⟩, ⟨0, 6, 12, 19⟩] ⟨0, 6, 17, 36⟩ [] rfl (fun z hz => by
        rcases List.mem_cons.mp hz with rfl | hz
        · exact ⟨by decide, "java/util/NoSuchElementException", ⟨List.mem_of_getElem? (i := 976) (by decide +kernel), by decide +kernel⟩, List.mem_of_getElem? (i := 3) rfl⟩
        rcases List.mem_cons.mp hz with rfl | hz
        · exact ⟨by decide, "java/lang/IllegalArgumentException", ⟨List.mem_of_getElem? (i := 977) (by decide +kernel), by decide +kernel⟩, List.mem_of_getElem? (i := 4) rfl⟩
        exact absurd hz List.not_mem_nil) rfl (by decide) ⟨List.mem_of_getElem? (i := 978) (by decide +kernel), by decide +kernel⟩ ⟨List.mem_of_getElem? (i := 992) (by decide +kernel), by decide +kernel⟩ (fun q => ?_)
      refine r_astore_n hX dL_nextMeetingByRemainders_17 (Nat.le_of_ble_eq_true rfl) rfl ?_
      refine r_sipush (v := (-15000)) hX dL_nextMeetingByRemainders_18 (by decide) ?_
      exact r_x (r_iret hX dL_nextMeetingByRemainders_21 ⟨by rw [hk9]; rfl, hO9⟩ ⟨Nat.le_of_ble_eq_true rfl, Nat.le_of_ble_eq_true rfl⟩)
    · exact absurd hn9 (by simp)
  obtain ⟨h0, hv, hO1, hF1⟩ := hp
  subst v3
  exact r_x (r_iret hX dL_nextMeetingByRemainders_6 ⟨by rw [h0]; rfl, hO1⟩ ⟨Nat.le_of_ble_eq_true rfl, Nat.le_of_ble_eq_true rfl⟩)
set_option maxRecDepth 20000 in
set_option maxHeartbeats 4000000 in
theorem s_L_dust (E : qE) (g : qG) (m : qM) (x : Nat) (O : kO) (hO : ObsV g m x O) (u : Nat) (hw : WfO u O) (hu : u ≤ 6144) (a1 : Int32) : SpH E yL_dust cL_dust 3 (some .int) [(0, 5, 6, 44)] 9 1 6 [.ref x, .int a1] g m (pQ x (qDust O a1) (-25000) 0 0) := by
  refine SpH.of (by decide) [some (.ref x), some (.int a1), none] rfl rfl (Nat.le_of_ble_eq_true rfl) (fun X hX => ?_)
  have b0 := hO.1
  refine r_aload_n hX dL_dust_0 rfl ?_
  refine r_iload_n hX dL_dust_1 rfl ?_
  refine r_callVX hX dL_dust_2 (s_X7_dust E g m x O hO u hw hu a1) ml_L_61 mk_L_61 rfl rfl b0.1 rfl ⟨Nat.le_of_ble_eq_true rfl, Nat.le_of_ble_eq_true rfl⟩ ⟨Nat.le_of_ble_eq_true rfl, Nat.le_of_ble_eq_true rfl, rfl, Nat.le_of_ble_eq_true rfl⟩ (fun v2 g2 m2 hp => ?_) (fun nm gx mx hp => ?_)
  rotate_left
  · obtain ⟨⟨k9, hk9, hn9⟩, hO9, hF9⟩ := hp
    rcases k9 with _ | k9
    · have e9 : "java/lang/IndexOutOfBoundsException" = nm := Option.some.inj hn9
      subst e9
      refine r_catch (name := "java/lang/IndexOutOfBoundsException") hX [] ⟨0, 5, 6, 44⟩ [] rfl (fun z hz => absurd hz List.not_mem_nil) rfl (by decide) ⟨List.mem_of_getElem? (i := 967) (by decide +kernel), by decide +kernel⟩ ⟨List.mem_of_getElem? (i := 310) (by decide +kernel), by decide +kernel⟩ (fun q => ?_)
      refine r_astore_n hX dL_dust_6 (Nat.le_of_ble_eq_true rfl) rfl ?_
      refine r_sipush (v := (-25000)) hX dL_dust_7 (by decide) ?_
      exact r_x (r_iret hX dL_dust_10 ⟨by rw [hk9]; rfl, hO9⟩ ⟨Nat.le_of_ble_eq_true rfl, Nat.le_of_ble_eq_true rfl⟩)
    · exact absurd hn9 (by simp)
  obtain ⟨h0, hv, hO1, hF1⟩ := hp
  subst v2
  exact r_x (r_iret hX dL_dust_5 ⟨by rw [h0]; rfl, hO1⟩ ⟨Nat.le_of_ble_eq_true rfl, Nat.le_of_ble_eq_true rfl⟩)
