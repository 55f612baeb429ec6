/-! ===== the law: its helpers ===== -/
theorem frp_wJ {P : Nat → Prop} {g : qG} {m : qM} {w k : Nat} {v : Int64} (hw : P w) : FrP P g m g (wJ m w k v) := ⟨Nat.le_refl _, fun _ _ => rfl, fun a _ hn _ => ⟨rfl, rfl, funext fun j => if_neg (fun (q : a = w ∧ j = k) => hn (by rw [q.1]; exact hw)), rfl⟩⟩
theorem frp_wD {P : Nat → Prop} {g : qG} {m : qM} {w k : Nat} {v : UInt64} (hw : P w) : FrP P g m g (wD m w k v) := ⟨Nat.le_refl _, fun _ _ => rfl, fun a _ hn _ => ⟨rfl, rfl, rfl, funext fun j => if_neg (fun (q : a = w ∧ j = k) => hn (by rw [q.1]; exact hw))⟩⟩
/-- the cells that a helper may write: the observatory's, and the row w that takes the answer -/
def LPw (x w : Nat) : Nat → Prop := fun a => (x ≤ a ∧ a < x + 137) ∨ a = w
/-- what a helper answers: the number of what was thrown; the answer lies in the row w -/
def pH (x w : Nat) (g : qG) (m : qM) (R : kR) : Option Value → qG → qM → Prop := fun v g' m' => v = some (.int (nI R.1)) ∧ ObsV g' m' x R.2.2 ∧ FrP (LPw x w) g m g' m' ∧ (R.1 = 0 → qJ m' w 0 = R.2.1.toInt64) ∧ R.1 < 5
def pHJ (x w : Nat) (g : qG) (m : qM) (R : Nat × Value × kO) : Option Value → qG → qM → Prop := fun v g' m' => v = some (.int (nI R.1)) ∧ ObsV g' m' x R.2.2 ∧ FrP (LPw x w) g m g' m' ∧ (R.1 = 0 → R.2.1 = .long (qJ m' w 0)) ∧ R.1 < 5
def pHD (x w : Nat) (g : qG) (m : qM) (R : Nat × Value × kO) : Option Value → qG → qM → Prop := fun v g' m' => v = some (.int (nI R.1)) ∧ ObsV g' m' x R.2.2 ∧ FrP (LPw x w) g m g' m' ∧ (R.1 = 0 → R.2.1 = .double (qD m' w 0)) ∧ R.1 < 5
def pHV (x : Nat) (g : qG) (m : qM) (R : kR) : Option Value → qG → qM → Prop := fun v g' m' => v = some (.int (nI R.1)) ∧ ObsV g' m' x R.2.2 ∧ FrP (fun a => x ≤ a ∧ a < x + 137) g m g' m' ∧ R.1 < 5
set_option maxRecDepth 20000 in
set_option maxHeartbeats 4000000 in
theorem s_L_addComet (E : qE) (g : qG) (m : qM) (x : Nat) (O : kO) (hO : ObsV g m x O) (u : Nat) (hw : WfO u O) (hu : u ≤ 6144) (a1 a2 a3 : Int32) (w : Nat) (hwg : gAt g w (.inr (3, 1))) : SpH E yL_addComet cL_addComet 6 (some .int) [(0, 12, 15, 13), (0, 12, 19, 15)] 9 1 6 [.ref x, .int a1, .int a2, .int a3, .ref w] g m (pH x w g m (addO O a1 a2 a3)) := by
  refine SpH.of (by decide) [some (.ref x), some (.int a1), some (.int a2), some (.int a3), some (.ref w), none] rfl rfl (Nat.le_of_ble_eq_true rfl) (fun X hX => ?_)
  have b0 := hO.1
  refine r_known (fun hk => ?_)
  refine r_aload hX dL_addComet_0 rfl ?_
  refine r_iconst (v := 0) hX dL_addComet_2 (by decide) ?_
  refine r_aload_n hX dL_addComet_3 rfl ?_
  refine r_iload_n hX dL_addComet_4 rfl ?_
  refine r_iload_n hX dL_addComet_5 rfl ?_
  refine r_iload_n hX dL_addComet_6 rfl ?_
  refine r_callVX hX dL_addComet_7 (s_X7_addComet E g m x O hO u hw hu a1 a2 a3) ml_L_7 mk_L_7 rfl rfl b0.1 rfl ⟨Nat.le_of_ble_eq_true rfl, Nat.le_of_ble_eq_true rfl⟩ ⟨Nat.le_of_ble_eq_true rfl, Nat.le_of_ble_eq_true rfl, rfl, Nat.le_of_ble_eq_true rfl⟩ (fun v7 g7 m7 hp => ?_) (fun nm gx mx hp => ?_)
  rotate_left
  · obtain ⟨⟨k9, hk9, hn9⟩, hO9, hF9⟩ := hp
    rcases k9 with _ | _ | k9
    · have e9 : "java/lang/IllegalArgumentException" = nm := Option.some.inj hn9
      subst e9
      refine r_catch (name := "java/lang/IllegalArgumentException") hX [] ⟨0, 12, 15, 13⟩ [⟨0, 12, 19, 15⟩] rfl (fun z hz => absurd hz List.not_mem_nil) rfl (by decide) ⟨List.mem_of_getElem? (i := 896) (by decide +kernel), by decide +kernel⟩ ⟨List.mem_of_getElem? (i := 469) (by decide +kernel), by decide +kernel⟩ (fun q => ?_)
      refine r_astore hX dL_addComet_15 (Nat.le_of_ble_eq_true rfl) rfl ?_
      refine r_iconst (v := 1) hX dL_addComet_17 (by decide) ?_
      exact r_x (r_iret hX dL_addComet_18 ⟨by rw [hk9]; rfl, hO9, hF9.mono (fun a h => Or.inl h), fun h => absurd (hk9.symm.trans h) (by decide), by rw [hk9]; decide⟩ ⟨Nat.le_of_ble_eq_true rfl, Nat.le_of_ble_eq_true rfl⟩)
    · have e9 : "java/lang/IllegalStateException" = nm := Option.some.inj hn9
      subst e9
      refine r_catch (name := "java/lang/IllegalStateException") hX [⟨0, 12, 15, 13⟩] ⟨0, 12, 19, 15⟩ [] rfl (fun z hz => by
        rcases List.mem_cons.mp hz with rfl | hz
        · exact ⟨by decide, "java/lang/IllegalArgumentException", ⟨List.mem_of_getElem? (i := 896) (by decide +kernel), by decide +kernel⟩, List.mem_of_getElem? (i := 0) rfl⟩
        exact absurd hz List.not_mem_nil) rfl (by decide) ⟨List.mem_of_getElem? (i := 897) (by decide +kernel), by decide +kernel⟩ ⟨List.mem_of_getElem? (i := 918) (by decide +kernel), by decide +kernel⟩ (fun q => ?_)
      refine r_astore hX dL_addComet_19 (Nat.le_of_ble_eq_true rfl) rfl ?_
      refine r_iconst (v := 2) hX dL_addComet_21 (by decide) ?_
      exact r_x (r_iret hX dL_addComet_22 ⟨by rw [hk9]; rfl, hO9, hF9.mono (fun a h => Or.inl h), fun h => absurd (hk9.symm.trans h) (by decide), by rw [hk9]; decide⟩ ⟨Nat.le_of_ble_eq_true rfl, Nat.le_of_ble_eq_true rfl⟩)
    · exact absurd hn9 (by simp)
  obtain ⟨h0, hv, hO1, hF1⟩ := hp
  subst v7
  refine r_i2l hX dL_addComet_10 ?_
  refine r_lastore hX dL_addComet_11 (hF1.gAt hwg (hk w _ hwg)) (pk_in 0 1 (by decide)) ?_
  refine r_goto (tgt := 23) hX dL_addComet_12 (by decide) ?_
  refine r_iconst (v := 0) hX dL_addComet_23 (by decide) ?_
  exact r_x (r_iret hX dL_addComet_24 ⟨by rw [h0]; rfl, hO1, (hF1.mono (fun a h => Or.inl h)).tr (frp_wJ (Or.inr rfl)), fun _ => qJ_wJ_s _ _ _ _, by rw [h0]; decide⟩ ⟨Nat.le_of_ble_eq_true rfl, Nat.le_of_ble_eq_true rfl⟩)
set_option maxRecDepth 20000 in
set_option maxHeartbeats 4000000 in
theorem s_L_remove (E : qE) (g : qG) (m : qM) (x : Nat) (O : kO) (hO : ObsV g m x O) (u : Nat) (hw : WfO u O) (hu : u ≤ 6144) (a1 : Int32) (w : Nat) (hwg : gAt g w (.inr (3, 1))) : SpH E yL_remove cL_remove 4 (some .int) [(0, 9, 12, 21)] 10 1 6 [.ref x, .int a1, .ref w] g m (pH x w g m (dropO O a1)) := by
  refine SpH.of (by decide) [some (.ref x), some (.int a1), some (.ref w), none] rfl rfl (Nat.le_of_ble_eq_true rfl) (fun X hX => ?_)
  have b0 := hO.1
  refine r_known (fun hk => ?_)
  refine r_aload_n hX dL_remove_0 rfl ?_
  refine r_iconst (v := 0) hX dL_remove_1 (by decide) ?_
  refine r_aload_n hX dL_remove_2 rfl ?_
  refine r_iload_n hX dL_remove_3 rfl ?_
  refine r_callVX hX dL_remove_4 (s_X7_remove E g m x O hO u hw hu a1) ml_L_17 mk_L_17 rfl rfl b0.1 rfl ⟨Nat.le_of_ble_eq_true rfl, Nat.le_of_ble_eq_true rfl⟩ ⟨Nat.le_of_ble_eq_true rfl, Nat.le_of_ble_eq_true rfl, rfl, Nat.le_of_ble_eq_true rfl⟩ (fun v4 g4 m4 hp => ?_) (fun nm gx mx hp => ?_)
  rotate_left
  · obtain ⟨⟨k9, hk9, hn9⟩, hO9, hF9⟩ := hp
    rcases k9 with _ | k9
    · have e9 : "java/util/NoSuchElementException" = nm := Option.some.inj hn9
      subst e9
      refine r_catch (name := "java/util/NoSuchElementException") hX [] ⟨0, 9, 12, 21⟩ [] rfl (fun z hz => absurd hz List.not_mem_nil) rfl (by decide) ⟨List.mem_of_getElem? (i := 946) (by decide +kernel), by decide +kernel⟩ ⟨List.mem_of_getElem? (i := 962) (by decide +kernel), by decide +kernel⟩ (fun q => ?_)
      refine r_astore_n hX dL_remove_12 (Nat.le_of_ble_eq_true rfl) rfl ?_
      refine r_iconst (v := 1) hX dL_remove_13 (by decide) ?_
      exact r_x (r_iret hX dL_remove_14 ⟨by rw [hk9]; rfl, hO9, hF9.mono (fun a h => Or.inl h), fun h => absurd (hk9.symm.trans h) (by decide), by rw [hk9]; decide⟩ ⟨Nat.le_of_ble_eq_true rfl, Nat.le_of_ble_eq_true rfl⟩)
    · exact absurd hn9 (by simp)
  obtain ⟨h0, hv, hO1, hF1⟩ := hp
  subst v4
  refine r_i2l hX dL_remove_7 ?_
  refine r_lastore hX dL_remove_8 (hF1.gAt hwg (hk w _ hwg)) (pk_in 0 1 (by decide)) ?_
  refine r_goto (tgt := 15) hX dL_remove_9 (by decide) ?_
  refine r_iconst (v := 0) hX dL_remove_15 (by decide) ?_
  exact r_x (r_iret hX dL_remove_16 ⟨by rw [h0]; rfl, hO1, (hF1.mono (fun a h => Or.inl h)).tr (frp_wJ (Or.inr rfl)), fun _ => qJ_wJ_s _ _ _ _, by rw [h0]; decide⟩ ⟨Nat.le_of_ble_eq_true rfl, Nat.le_of_ble_eq_true rfl⟩)
set_option maxRecDepth 20000 in
set_option maxHeartbeats 4000000 in
theorem s_L_setPeriod (E : qE) (g : qG) (m : qM) (x : Nat) (O : kO) (hO : ObsV g m x O) (u : Nat) (hw : WfO u O) (hu : u ≤ 6144) (a1 a2 : Int32) (w : Nat) (hwg : gAt g w (.inr (3, 1))) : SpH E yL_setPeriod cL_setPeriod 5 (some .int) [(0, 10, 13, 21), (0, 10, 17, 13)] 10 2 12 [.ref x, .int a1, .int a2, .ref w] g m (pH x w g m (turnO O a1 a2)) := by
  refine SpH.of (by decide) [some (.ref x), some (.int a1), some (.int a2), some (.ref w), none] rfl rfl (Nat.le_of_ble_eq_true rfl) (fun X hX => ?_)
  have b0 := hO.1
  refine r_known (fun hk => ?_)
  refine r_aload_n hX dL_setPeriod_0 rfl ?_
  refine r_iconst (v := 0) hX dL_setPeriod_1 (by decide) ?_
  refine r_aload_n hX dL_setPeriod_2 rfl ?_
  refine r_iload_n hX dL_setPeriod_3 rfl ?_
  refine r_iload_n hX dL_setPeriod_4 rfl ?_
  refine r_callVX hX dL_setPeriod_5 (s_X7_setPeriod E g m x O hO u hw hu a1 a2) ml_L_23 mk_L_23 rfl rfl b0.1 rfl ⟨Nat.le_of_ble_eq_true rfl, Nat.le_of_ble_eq_true rfl⟩ ⟨Nat.le_of_ble_eq_true rfl, Nat.le_of_ble_eq_true rfl, rfl, Nat.le_of_ble_eq_true rfl⟩ (fun v5 g5 m5 hp => ?_) (fun nm gx mx hp => ?_)
  rotate_left
  · obtain ⟨⟨k9, hk9, hn9⟩, hO9, hF9⟩ := hp
    rcases k9 with _ | _ | k9
    · have e9 : "java/util/NoSuchElementException" = nm := Option.some.inj hn9
      subst e9
      refine r_catch (name := "java/util/NoSuchElementException") hX [] ⟨0, 10, 13, 21⟩ [⟨0, 10, 17, 13⟩] rfl (fun z hz => absurd hz List.not_mem_nil) rfl (by decide) ⟨List.mem_of_getElem? (i := 946) (by decide +kernel), by decide +kernel⟩ ⟨List.mem_of_getElem? (i := 962) (by decide +kernel), by decide +kernel⟩ (fun q => ?_)
      refine r_astore hX dL_setPeriod_13 (Nat.le_of_ble_eq_true rfl) rfl ?_
      refine r_iconst (v := 1) hX dL_setPeriod_15 (by decide) ?_
      exact r_x (r_iret hX dL_setPeriod_16 ⟨by rw [hk9]; rfl, hO9, hF9.mono (fun a h => Or.inl h), fun h => absurd (hk9.symm.trans h) (by decide), by rw [hk9]; decide⟩ ⟨Nat.le_of_ble_eq_true rfl, Nat.le_of_ble_eq_true rfl⟩)
    · have e9 : "java/lang/IllegalArgumentException" = nm := Option.some.inj hn9
      subst e9
      refine r_catch (name := "java/lang/IllegalArgumentException") hX [⟨0, 10, 13, 21⟩] ⟨0, 10, 17, 13⟩ [] rfl (fun z hz => by
        rcases List.mem_cons.mp hz with rfl | hz
        · exact ⟨by decide, "java/util/NoSuchElementException", ⟨List.mem_of_getElem? (i := 946) (by decide +kernel), by decide +kernel⟩, List.mem_of_getElem? (i := 1) rfl⟩
        exact absurd hz List.not_mem_nil) rfl (by decide) ⟨List.mem_of_getElem? (i := 896) (by decide +kernel), by decide +kernel⟩ ⟨List.mem_of_getElem? (i := 469) (by decide +kernel), by decide +kernel⟩ (fun q => ?_)
      refine r_astore hX dL_setPeriod_17 (Nat.le_of_ble_eq_true rfl) rfl ?_
      refine r_iconst (v := 2) hX dL_setPeriod_19 (by decide) ?_
      exact r_x (r_iret hX dL_setPeriod_20 ⟨by rw [hk9]; rfl, hO9, hF9.mono (fun a h => Or.inl h), fun h => absurd (hk9.symm.trans h) (by decide), by rw [hk9]; decide⟩ ⟨Nat.le_of_ble_eq_true rfl, Nat.le_of_ble_eq_true rfl⟩)
    · exact absurd hn9 (by simp)
  obtain ⟨h0, hv, hO1, hF1⟩ := hp
  subst v5
  refine r_i2l hX dL_setPeriod_8 ?_
  refine r_lastore hX dL_setPeriod_9 (hF1.gAt hwg (hk w _ hwg)) (pk_in 0 1 (by decide)) ?_
  refine r_goto (tgt := 21) hX dL_setPeriod_10 (by decide) ?_
  refine r_iconst (v := 0) hX dL_setPeriod_21 (by decide) ?_
  exact r_x (r_iret hX dL_setPeriod_22 ⟨by rw [h0]; rfl, hO1, (hF1.mono (fun a h => Or.inl h)).tr (frp_wJ (Or.inr rfl)), fun _ => qJ_wJ_s _ _ _ _, by rw [h0]; decide⟩ ⟨Nat.le_of_ble_eq_true rfl, Nat.le_of_ble_eq_true rfl⟩)
set_option maxRecDepth 20000 in
set_option maxHeartbeats 4000000 in
theorem s_L_brighten (E : qE) (g : qG) (m : qM) (x : Nat) (O : kO) (hO : ObsV g m x O) (u : Nat) (hw : WfO u O) (hu : u ≤ 6144) (a1 a2 : Int32) (w : Nat) (hwg : gAt g w (.inr (3, 1))) : SpH E yL_brighten cL_brighten 5 (some .int) [(0, 10, 13, 21), (0, 10, 17, 13), (0, 10, 21, 15), (0, 10, 25, 30)] 10 2 12 [.ref x, .int a1, .int a2, .ref w] g m (pH x w g m (shineO O a1 a2)) := by
  refine SpH.of (by decide) [some (.ref x), some (.int a1), some (.int a2), some (.ref w), none] rfl rfl (Nat.le_of_ble_eq_true rfl) (fun X hX => ?_)
  have b0 := hO.1
  refine r_known (fun hk => ?_)
  refine r_aload_n hX dL_brighten_0 rfl ?_
  refine r_iconst (v := 0) hX dL_brighten_1 (by decide) ?_
  refine r_aload_n hX dL_brighten_2 rfl ?_
  refine r_iload_n hX dL_brighten_3 rfl ?_
  refine r_iload_n hX dL_brighten_4 rfl ?_
  refine r_callVX hX dL_brighten_5 (s_X7_brighten E g m x O hO u hw hu a1 a2) ml_L_27 mk_L_27 rfl rfl b0.1 rfl ⟨Nat.le_of_ble_eq_true rfl, Nat.le_of_ble_eq_true rfl⟩ ⟨Nat.le_of_ble_eq_true rfl, Nat.le_of_ble_eq_true rfl, rfl, Nat.le_of_ble_eq_true rfl⟩ (fun v5 g5 m5 hp => ?_) (fun nm gx mx hp => ?_)
  rotate_left
  · obtain ⟨⟨k9, hk9, hn9⟩, hO9, hF9⟩ := hp
    rcases k9 with _ | _ | _ | _ | k9
    · have e9 : "java/util/NoSuchElementException" = nm := Option.some.inj hn9
      subst e9
      refine r_catch (name := "java/util/NoSuchElementException") hX [] ⟨0, 10, 13, 21⟩ [⟨0, 10, 17, 13⟩, ⟨0, 10, 21, 15⟩, ⟨0, 10, 25, 30⟩] rfl (fun z hz => absurd hz List.not_mem_nil) rfl (by decide) ⟨List.mem_of_getElem? (i := 946) (by decide +kernel), by decide +kernel⟩ ⟨List.mem_of_getElem? (i := 962) (by decide +kernel), by decide +kernel⟩ (fun q => ?_)
      refine r_astore hX dL_brighten_13 (Nat.le_of_ble_eq_true rfl) rfl ?_
      refine r_iconst (v := 1) hX dL_brighten_15 (by decide) ?_
      exact r_x (r_iret hX dL_brighten_16 ⟨by rw [hk9]; rfl, hO9, hF9.mono (fun a h => Or.inl h), fun h => absurd (hk9.symm.trans h) (by decide), by rw [hk9]; decide⟩ ⟨Nat.le_of_ble_eq_true rfl, Nat.le_of_ble_eq_true rfl⟩)
    · have e9 : "java/lang/IllegalArgumentException" = nm := Option.some.inj hn9
      subst e9
      refine r_catch (name := "java/lang/IllegalArgumentException") hX [⟨0, 10, 13, 21⟩] ⟨0, 10, 17, 13⟩ [⟨0, 10, 21, 15⟩, ⟨0, 10, 25, 30⟩] rfl (fun z hz => by
        rcases List.mem_cons.mp hz with rfl | hz
        · exact ⟨by decide, "java/util/NoSuchElementException", ⟨List.mem_of_getElem? (i := 946) (by decide +kernel), by decide +kernel⟩, List.mem_of_getElem? (i := 1) rfl⟩
        exact absurd hz List.not_mem_nil) rfl (by decide) ⟨List.mem_of_getElem? (i := 896) (by decide +kernel), by decide +kernel⟩ ⟨List.mem_of_getElem? (i := 469) (by decide +kernel), by decide +kernel⟩ (fun q => ?_)
      refine r_astore hX dL_brighten_17 (Nat.le_of_ble_eq_true rfl) rfl ?_
      refine r_iconst (v := 2) hX dL_brighten_19 (by decide) ?_
      exact r_x (r_iret hX dL_brighten_20 ⟨by rw [hk9]; rfl, hO9, hF9.mono (fun a h => Or.inl h), fun h => absurd (hk9.symm.trans h) (by decide), by rw [hk9]; decide⟩ ⟨Nat.le_of_ble_eq_true rfl, Nat.le_of_ble_eq_true rfl⟩)
    · have e9 : "java/lang/IllegalStateException" = nm := Option.some.inj hn9
      subst e9
      refine r_catch (name := "java/lang/IllegalStateException") hX [⟨0, 10, 13, 21⟩, ⟨0, 10, 17, 13⟩] ⟨0, 10, 21, 15⟩ [⟨0, 10, 25, 30⟩] rfl (fun z hz => by
        rcases List.mem_cons.mp hz with rfl | hz
        · exact ⟨by decide, "java/util/NoSuchElementException", ⟨List.mem_of_getElem? (i := 946) (by decide +kernel), by decide +kernel⟩, List.mem_of_getElem? (i := 2) rfl⟩
        rcases List.mem_cons.mp hz with rfl | hz
        · exact ⟨by decide, "java/lang/IllegalArgumentException", ⟨List.mem_of_getElem? (i := 896) (by decide +kernel), by decide +kernel⟩, List.mem_of_getElem? (i := 0) rfl⟩
        exact absurd hz List.not_mem_nil) rfl (by decide) ⟨List.mem_of_getElem? (i := 897) (by decide +kernel), by decide +kernel⟩ ⟨List.mem_of_getElem? (i := 918) (by decide +kernel), by decide +kernel⟩ (fun q => ?_)
      refine r_astore hX dL_brighten_21 (Nat.le_of_ble_eq_true rfl) rfl ?_
      refine r_iconst (v := 3) hX dL_brighten_23 (by decide) ?_
      exact r_x (r_iret hX dL_brighten_24 ⟨by rw [hk9]; rfl, hO9, hF9.mono (fun a h => Or.inl h), fun h => absurd (hk9.symm.trans h) (by decide), by rw [hk9]; decide⟩ ⟨Nat.le_of_ble_eq_true rfl, Nat.le_of_ble_eq_true rfl⟩)
    · have e9 : "java/lang/UnsupportedOperationException" = nm := Option.some.inj hn9
      subst e9
      refine r_catch (name := "java/lang/UnsupportedOperationException") hX [⟨0, 10, 13, 21⟩, ⟨0, 10, 17, 13⟩, ⟨0, 10, 21, 15⟩] ⟨0, 10, 25, 30⟩ [] rfl (fun z hz => by
        rcases List.mem_cons.mp hz with rfl | hz
        · exact ⟨by decide, "java/util/NoSuchElementException", ⟨List.mem_of_getElem? (i := 946) (by decide +kernel), by decide +kernel⟩, List.mem_of_getElem? (i := 3) rfl⟩
        rcases List.mem_cons.mp hz with rfl | hz
        · exact ⟨by decide, "java/lang/IllegalArgumentException", ⟨List.mem_of_getElem? (i := 896) (by decide +kernel), by decide +kernel⟩, List.mem_of_getElem? (i := 4) rfl⟩
        rcases List.mem_cons.mp hz with rfl | hz
        · exact ⟨by decide, "java/lang/IllegalStateException", ⟨List.mem_of_getElem? (i := 897) (by decide +kernel), by decide +kernel⟩, List.mem_of_getElem? (i := 5) rfl⟩
        exact absurd hz List.not_mem_nil) rfl (by decide) ⟨List.mem_of_getElem? (i := 995) (by decide +kernel), by decide +kernel⟩ ⟨List.mem_of_getElem? (i := 1015) (by decide +kernel), by decide +kernel⟩ (fun q => ?_)
      refine r_astore hX dL_brighten_25 (Nat.le_of_ble_eq_true rfl) rfl ?_
      refine r_iconst (v := 4) hX dL_brighten_27 (by decide) ?_
      exact r_x (r_iret hX dL_brighten_28 ⟨by rw [hk9]; rfl, hO9, hF9.mono (fun a h => Or.inl h), fun h => absurd (hk9.symm.trans h) (by decide), by rw [hk9]; decide⟩ ⟨Nat.le_of_ble_eq_true rfl, Nat.le_of_ble_eq_true rfl⟩)
    · exact absurd hn9 (by simp)
  obtain ⟨h0, hv, hO1, hF1⟩ := hp
  subst v5
  refine r_i2l hX dL_brighten_8 ?_
  refine r_lastore hX dL_brighten_9 (hF1.gAt hwg (hk w _ hwg)) (pk_in 0 1 (by decide)) ?_
  refine r_goto (tgt := 29) hX dL_brighten_10 (by decide) ?_
  refine r_iconst (v := 0) hX dL_brighten_29 (by decide) ?_
  exact r_x (r_iret hX dL_brighten_30 ⟨by rw [h0]; rfl, hO1, (hF1.mono (fun a h => Or.inl h)).tr (frp_wJ (Or.inr rfl)), fun _ => qJ_wJ_s _ _ _ _, by rw [h0]; decide⟩ ⟨Nat.le_of_ble_eq_true rfl, Nat.le_of_ble_eq_true rfl⟩)
set_option maxRecDepth 20000 in
set_option maxHeartbeats 4000000 in
theorem s_L_passDays (E : qE) (g : qG) (m : qM) (x : Nat) (O : kO) (hO : ObsV g m x O) (u : Nat) (hw : WfO u O) (hu : u ≤ 6144) (a1 : Int32) (w : Nat) (hwg : gAt g w (.inr (3, 1))) : SpH E yL_passDays cL_passDays 4 (some .int) [(0, 9, 12, 13)] 9 1 6 [.ref x, .int a1, .ref w] g m (pH x w g m (dayO O a1)) := by
  refine SpH.of (by decide) [some (.ref x), some (.int a1), some (.ref w), none] rfl rfl (Nat.le_of_ble_eq_true rfl) (fun X hX => ?_)
  have b0 := hO.1
  refine r_known (fun hk => ?_)
  refine r_aload_n hX dL_passDays_0 rfl ?_
  refine r_iconst (v := 0) hX dL_passDays_1 (by decide) ?_
  refine r_aload_n hX dL_passDays_2 rfl ?_
  refine r_iload_n hX dL_passDays_3 rfl ?_
  refine r_callVX hX dL_passDays_4 (s_X7_passDays E g m x O hO u hw hu a1) ml_L_32 mk_L_32 rfl rfl b0.1 rfl ⟨Nat.le_of_ble_eq_true rfl, Nat.le_of_ble_eq_true rfl⟩ ⟨Nat.le_of_ble_eq_true rfl, Nat.le_of_ble_eq_true rfl, rfl, Nat.le_of_ble_eq_true rfl⟩ (fun v4 g4 m4 hp => ?_) (fun nm gx mx hp => ?_)
  rotate_left
  · obtain ⟨⟨k9, hk9, hn9⟩, hO9, hF9⟩ := hp
    rcases k9 with _ | k9
    · have e9 : "java/lang/IllegalArgumentException" = nm := Option.some.inj hn9
      subst e9
      refine r_catch (name := "java/lang/IllegalArgumentException") hX [] ⟨0, 9, 12, 13⟩ [] rfl (fun z hz => absurd hz List.not_mem_nil) rfl (by decide) ⟨List.mem_of_getElem? (i := 896) (by decide +kernel), by decide +kernel⟩ ⟨List.mem_of_getElem? (i := 469) (by decide +kernel), by decide +kernel⟩ (fun q => ?_)
      refine r_astore_n hX dL_passDays_12 (Nat.le_of_ble_eq_true rfl) rfl ?_
      refine r_iconst (v := 1) hX dL_passDays_13 (by decide) ?_
      exact r_x (r_iret hX dL_passDays_14 ⟨by rw [hk9]; rfl, hO9, hF9.mono (fun a h => Or.inl h), fun h => absurd (hk9.symm.trans h) (by decide), by rw [hk9]; decide⟩ ⟨Nat.le_of_ble_eq_true rfl, Nat.le_of_ble_eq_true rfl⟩)
    · exact absurd hn9 (by simp)
  obtain ⟨h0, hv, hO1, hF1⟩ := hp
  subst v4
  refine r_i2l hX dL_passDays_7 ?_
  refine r_lastore hX dL_passDays_8 (hF1.gAt hwg (hk w _ hwg)) (pk_in 0 1 (by decide)) ?_
  refine r_goto (tgt := 15) hX dL_passDays_9 (by decide) ?_
  refine r_iconst (v := 0) hX dL_passDays_15 (by decide) ?_
  exact r_x (r_iret hX dL_passDays_16 ⟨by rw [h0]; rfl, hO1, (hF1.mono (fun a h => Or.inl h)).tr (frp_wJ (Or.inr rfl)), fun _ => qJ_wJ_s _ _ _ _, by rw [h0]; decide⟩ ⟨Nat.le_of_ble_eq_true rfl, Nat.le_of_ble_eq_true rfl⟩)
set_option maxRecDepth 20000 in
set_option maxHeartbeats 4000000 in
theorem s_L_clean (E : qE) (g : qG) (m : qM) (x : Nat) (O : kO) (hO : ObsV g m x O) (u : Nat) (hw : WfO u O) (hu : u ≤ 6144) (a1 a2 : Int32) (w : Nat) (hwg : gAt g w (.inr (3, 1))) : SpH E yL_clean cL_clean 5 (some .int) [(0, 10, 13, 38), (0, 10, 17, 13), (0, 10, 21, 15)] 9 1 6 [.ref x, .int a1, .int a2, .ref w] g m (pH x w g m (vacO O a1 a2)) := by
  refine SpH.of (by decide) [some (.ref x), some (.int a1), some (.int a2), some (.ref w), none] rfl rfl (Nat.le_of_ble_eq_true rfl) (fun X hX => ?_)
  have b0 := hO.1
  refine r_known (fun hk => ?_)
  refine r_aload_n hX dL_clean_0 rfl ?_
  refine r_iconst (v := 0) hX dL_clean_1 (by decide) ?_
  refine r_aload_n hX dL_clean_2 rfl ?_
  refine r_iload_n hX dL_clean_3 rfl ?_
  refine r_iload_n hX dL_clean_4 rfl ?_
  refine r_callVX hX dL_clean_5 (s_X7_clean E g m x O hO u hw hu a1 a2) ml_L_35 mk_L_35 rfl rfl b0.1 rfl ⟨Nat.le_of_ble_eq_true rfl, Nat.le_of_ble_eq_true rfl⟩ ⟨Nat.le_of_ble_eq_true rfl, Nat.le_of_ble_eq_true rfl, rfl, Nat.le_of_ble_eq_true rfl⟩ (fun v5 g5 m5 hp => ?_) (fun nm gx mx hp => ?_)
  rotate_left
  · obtain ⟨⟨k9, hk9, hn9⟩, hO9, hF9⟩ := hp
    rcases k9 with _ | _ | _ | k9
    · have e9 : "java/lang/IndexOutOfBoundsException" = nm := Option.some.inj hn9
      subst e9
      refine r_catch (name := "java/lang/IndexOutOfBoundsException") hX [] ⟨0, 10, 13, 38⟩ [⟨0, 10, 17, 13⟩, ⟨0, 10, 21, 15⟩] rfl (fun z hz => absurd hz List.not_mem_nil) rfl (by decide) ⟨List.mem_of_getElem? (i := 1063) (by decide +kernel), by decide +kernel⟩ ⟨List.mem_of_getElem? (i := 1075) (by decide +kernel), by decide +kernel⟩ (fun q => ?_)
      refine r_astore hX dL_clean_13 (Nat.le_of_ble_eq_true rfl) rfl ?_
      refine r_iconst (v := 1) hX dL_clean_15 (by decide) ?_
      exact r_x (r_iret hX dL_clean_16 ⟨by rw [hk9]; rfl, hO9, hF9.mono (fun a h => Or.inl h), fun h => absurd (hk9.symm.trans h) (by decide), by rw [hk9]; decide⟩ ⟨Nat.le_of_ble_eq_true rfl, Nat.le_of_ble_eq_true rfl⟩)
    · have e9 : "java/lang/IllegalArgumentException" = nm := Option.some.inj hn9
      subst e9
      refine r_catch (name := "java/lang/IllegalArgumentException") hX [⟨0, 10, 13, 38⟩] ⟨0, 10, 17, 13⟩ [⟨0, 10, 21, 15⟩] rfl (fun z hz => by
        rcases List.mem_cons.mp hz with rfl | hz
        · exact ⟨by decide, "java/lang/IndexOutOfBoundsException", ⟨List.mem_of_getElem? (i := 1063) (by decide +kernel), by decide +kernel⟩, List.mem_of_getElem? (i := 6) rfl⟩
        exact absurd hz List.not_mem_nil) rfl (by decide) ⟨List.mem_of_getElem? (i := 896) (by decide +kernel), by decide +kernel⟩ ⟨List.mem_of_getElem? (i := 469) (by decide +kernel), by decide +kernel⟩ (fun q => ?_)
      refine r_astore hX dL_clean_17 (Nat.le_of_ble_eq_true rfl) rfl ?_
      refine r_iconst (v := 2) hX dL_clean_19 (by decide) ?_
      exact r_x (r_iret hX dL_clean_20 ⟨by rw [hk9]; rfl, hO9, hF9.mono (fun a h => Or.inl h), fun h => absurd (hk9.symm.trans h) (by decide), by rw [hk9]; decide⟩ ⟨Nat.le_of_ble_eq_true rfl, Nat.le_of_ble_eq_true rfl⟩)
    · have e9 : "java/lang/IllegalStateException" = nm := Option.some.inj hn9
      subst e9
      refine r_catch (name := "java/lang/IllegalStateException") hX [⟨0, 10, 13, 38⟩, ⟨0, 10, 17, 13⟩] ⟨0, 10, 21, 15⟩ [] rfl (fun z hz => by
        rcases List.mem_cons.mp hz with rfl | hz
        · exact ⟨by decide, "java/lang/IndexOutOfBoundsException", ⟨List.mem_of_getElem? (i := 1063) (by decide +kernel), by decide +kernel⟩, List.mem_of_getElem? (i := 7) rfl⟩
        rcases List.mem_cons.mp hz with rfl | hz
        · exact ⟨by decide, "java/lang/IllegalArgumentException", ⟨List.mem_of_getElem? (i := 896) (by decide +kernel), by decide +kernel⟩, List.mem_of_getElem? (i := 0) rfl⟩
        exact absurd hz List.not_mem_nil) rfl (by decide) ⟨List.mem_of_getElem? (i := 897) (by decide +kernel), by decide +kernel⟩ ⟨List.mem_of_getElem? (i := 918) (by decide +kernel), by decide +kernel⟩ (fun q => ?_)
      refine r_astore hX dL_clean_21 (Nat.le_of_ble_eq_true rfl) rfl ?_
      refine r_iconst (v := 3) hX dL_clean_23 (by decide) ?_
      exact r_x (r_iret hX dL_clean_24 ⟨by rw [hk9]; rfl, hO9, hF9.mono (fun a h => Or.inl h), fun h => absurd (hk9.symm.trans h) (by decide), by rw [hk9]; decide⟩ ⟨Nat.le_of_ble_eq_true rfl, Nat.le_of_ble_eq_true rfl⟩)
    · exact absurd hn9 (by simp)
  obtain ⟨h0, hv, hO1, hF1⟩ := hp
  subst v5
  refine r_i2l hX dL_clean_8 ?_
  refine r_lastore hX dL_clean_9 (hF1.gAt hwg (hk w _ hwg)) (pk_in 0 1 (by decide)) ?_
  refine r_goto (tgt := 25) hX dL_clean_10 (by decide) ?_
  refine r_iconst (v := 0) hX dL_clean_25 (by decide) ?_
  exact r_x (r_iret hX dL_clean_26 ⟨by rw [h0]; rfl, hO1, (hF1.mono (fun a h => Or.inl h)).tr (frp_wJ (Or.inr rfl)), fun _ => qJ_wJ_s _ _ _ _, by rw [h0]; decide⟩ ⟨Nat.le_of_ble_eq_true rfl, Nat.le_of_ble_eq_true rfl⟩)
set_option maxRecDepth 20000 in
set_option maxHeartbeats 4000000 in
theorem s_L_setRate (E : qE) (g : qG) (m : qM) (x : Nat) (O : kO) (hO : ObsV g m x O) (u : Nat) (hw : WfO u O) (hu : u ≤ 6144) (a1 : Int32) (w : Nat) (hwg : gAt g w (.inr (3, 1))) : SpH E yL_setRate cL_setRate 4 (some .int) [(0, 9, 12, 13)] 9 1 6 [.ref x, .int a1, .ref w] g m (pH x w g m (rateO O a1)) := by
  refine SpH.of (by decide) [some (.ref x), some (.int a1), some (.ref w), none] rfl rfl (Nat.le_of_ble_eq_true rfl) (fun X hX => ?_)
  have b0 := hO.1
  refine r_known (fun hk => ?_)
  refine r_aload_n hX dL_setRate_0 rfl ?_
  refine r_iconst (v := 0) hX dL_setRate_1 (by decide) ?_
  refine r_aload_n hX dL_setRate_2 rfl ?_
  refine r_iload_n hX dL_setRate_3 rfl ?_
  refine r_callVX hX dL_setRate_4 (s_X7_setRate E g m x O hO u hw hu a1) ml_L_40 mk_L_40 rfl rfl b0.1 rfl ⟨Nat.le_of_ble_eq_true rfl, Nat.le_of_ble_eq_true rfl⟩ ⟨Nat.le_of_ble_eq_true rfl, Nat.le_of_ble_eq_true rfl, rfl, Nat.le_of_ble_eq_true rfl⟩ (fun v4 g4 m4 hp => ?_) (fun nm gx mx hp => ?_)
  rotate_left
  · obtain ⟨⟨k9, hk9, hn9⟩, hO9, hF9⟩ := hp
    rcases k9 with _ | k9
    · have e9 : "java/lang/IllegalArgumentException" = nm := Option.some.inj hn9
      subst e9
      refine r_catch (name := "java/lang/IllegalArgumentException") hX [] ⟨0, 9, 12, 13⟩ [] rfl (fun z hz => absurd hz List.not_mem_nil) rfl (by decide) ⟨List.mem_of_getElem? (i := 896) (by decide +kernel), by decide +kernel⟩ ⟨List.mem_of_getElem? (i := 469) (by decide +kernel), by decide +kernel⟩ (fun q => ?_)
      refine r_astore_n hX dL_setRate_12 (Nat.le_of_ble_eq_true rfl) rfl ?_
      refine r_iconst (v := 1) hX dL_setRate_13 (by decide) ?_
      exact r_x (r_iret hX dL_setRate_14 ⟨by rw [hk9]; rfl, hO9, hF9.mono (fun a h => Or.inl h), fun h => absurd (hk9.symm.trans h) (by decide), by rw [hk9]; decide⟩ ⟨Nat.le_of_ble_eq_true rfl, Nat.le_of_ble_eq_true rfl⟩)
    · exact absurd hn9 (by simp)
  obtain ⟨h0, hv, hO1, hF1⟩ := hp
  subst v4
  refine r_i2l hX dL_setRate_7 ?_
  refine r_lastore hX dL_setRate_8 (hF1.gAt hwg (hk w _ hwg)) (pk_in 0 1 (by decide)) ?_
  refine r_goto (tgt := 15) hX dL_setRate_9 (by decide) ?_
  refine r_iconst (v := 0) hX dL_setRate_15 (by decide) ?_
  exact r_x (r_iret hX dL_setRate_16 ⟨by rw [h0]; rfl, hO1, (hF1.mono (fun a h => Or.inl h)).tr (frp_wJ (Or.inr rfl)), fun _ => qJ_wJ_s _ _ _ _, by rw [h0]; decide⟩ ⟨Nat.le_of_ble_eq_true rfl, Nat.le_of_ble_eq_true rfl⟩)
set_option maxRecDepth 20000 in
set_option maxHeartbeats 4000000 in
theorem s_L_cometAt (E : qE) (g : qG) (m : qM) (x : Nat) (O : kO) (hO : ObsV g m x O) (u : Nat) (hw : WfO u O) (hu : u ≤ 6144) (a1 : Int32) (w : Nat) (hwg : gAt g w (.inr (3, 1))) : SpH E yL_cometAt cL_cometAt 4 (some .int) [(0, 9, 12, 38)] 9 1 6 [.ref x, .int a1, .ref w] g m (pH x w g m (qAt O a1)) := by
  refine SpH.of (by decide) [some (.ref x), some (.int a1), some (.ref w), none] rfl rfl (Nat.le_of_ble_eq_true rfl) (fun X hX => ?_)
  have b0 := hO.1
  refine r_known (fun hk => ?_)
  refine r_aload_n hX dL_cometAt_0 rfl ?_
  refine r_iconst (v := 0) hX dL_cometAt_1 (by decide) ?_
  refine r_aload_n hX dL_cometAt_2 rfl ?_
  refine r_iload_n hX dL_cometAt_3 rfl ?_
  refine r_callVX hX dL_cometAt_4 (s_X7_cometAt E g m x O hO u hw hu a1) ml_L_43 mk_L_43 rfl rfl b0.1 rfl ⟨Nat.le_of_ble_eq_true rfl, Nat.le_of_ble_eq_true rfl⟩ ⟨Nat.le_of_ble_eq_true rfl, Nat.le_of_ble_eq_true rfl, rfl, Nat.le_of_ble_eq_true rfl⟩ (fun v4 g4 m4 hp => ?_) (fun nm gx mx hp => ?_)
  rotate_left
  · obtain ⟨⟨k9, hk9, hn9⟩, hO9, hF9⟩ := hp
    rcases k9 with _ | k9
    · have e9 : "java/lang/IndexOutOfBoundsException" = nm := Option.some.inj hn9
      subst e9
      refine r_catch (name := "java/lang/IndexOutOfBoundsException") hX [] ⟨0, 9, 12, 38⟩ [] rfl (fun z hz => absurd hz List.not_mem_nil) rfl (by decide) ⟨List.mem_of_getElem? (i := 1063) (by decide +kernel), by decide +kernel⟩ ⟨List.mem_of_getElem? (i := 1075) (by decide +kernel), by decide +kernel⟩ (fun q => ?_)
      refine r_astore_n hX dL_cometAt_12 (Nat.le_of_ble_eq_true rfl) rfl ?_
      refine r_iconst (v := 1) hX dL_cometAt_13 (by decide) ?_
      exact r_x (r_iret hX dL_cometAt_14 ⟨by rw [hk9]; rfl, hO9, hF9.mono (fun a h => Or.inl h), fun h => absurd (hk9.symm.trans h) (by decide), by rw [hk9]; decide⟩ ⟨Nat.le_of_ble_eq_true rfl, Nat.le_of_ble_eq_true rfl⟩)
    · exact absurd hn9 (by simp)
  obtain ⟨h0, hv, hO1, hF1⟩ := hp
  subst v4
  refine r_i2l hX dL_cometAt_7 ?_
  refine r_lastore hX dL_cometAt_8 (hF1.gAt hwg (hk w _ hwg)) (pk_in 0 1 (by decide)) ?_
  refine r_goto (tgt := 15) hX dL_cometAt_9 (by decide) ?_
  refine r_iconst (v := 0) hX dL_cometAt_15 (by decide) ?_
  exact r_x (r_iret hX dL_cometAt_16 ⟨by rw [h0]; rfl, hO1, (hF1.mono (fun a h => Or.inl h)).tr (frp_wJ (Or.inr rfl)), fun _ => qJ_wJ_s _ _ _ _, by rw [h0]; decide⟩ ⟨Nat.le_of_ble_eq_true rfl, Nat.le_of_ble_eq_true rfl⟩)
set_option maxRecDepth 20000 in
set_option maxHeartbeats 4000000 in
theorem s_L_period (E : qE) (g : qG) (m : qM) (x : Nat) (O : kO) (hO : ObsV g m x O) (u : Nat) (hw : WfO u O) (hu : u ≤ 6144) (a1 : Int32) (w : Nat) (hwg : gAt g w (.inr (3, 1))) : SpH E yL_period cL_period 4 (some .int) [(0, 9, 12, 21)] 10 1 6 [.ref x, .int a1, .ref w] g m (pH x w g m (qOf O a1 (fun c => c 1))) := by
  refine SpH.of (by decide) [some (.ref x), some (.int a1), some (.ref w), none] rfl rfl (Nat.le_of_ble_eq_true rfl) (fun X hX => ?_)
  have b0 := hO.1
  refine r_known (fun hk => ?_)
  refine r_aload_n hX dL_period_0 rfl ?_
  refine r_iconst (v := 0) hX dL_period_1 (by decide) ?_
  refine r_aload_n hX dL_period_2 rfl ?_
  refine r_iload_n hX dL_period_3 rfl ?_
  refine r_callVX hX dL_period_4 (s_X7_period E g m x O hO u hw hu a1) ml_L_46 mk_L_46 rfl rfl b0.1 rfl ⟨Nat.le_of_ble_eq_true rfl, Nat.le_of_ble_eq_true rfl⟩ ⟨Nat.le_of_ble_eq_true rfl, Nat.le_of_ble_eq_true rfl, rfl, Nat.le_of_ble_eq_true rfl⟩ (fun v4 g4 m4 hp => ?_) (fun nm gx mx hp => ?_)
  rotate_left
  · obtain ⟨⟨k9, hk9, hn9⟩, hO9, hF9⟩ := hp
    rcases k9 with _ | k9
    · have e9 : "java/util/NoSuchElementException" = nm := Option.some.inj hn9
      subst e9
      refine r_catch (name := "java/util/NoSuchElementException") hX [] ⟨0, 9, 12, 21⟩ [] rfl (fun z hz => absurd hz List.not_mem_nil) rfl (by decide) ⟨List.mem_of_getElem? (i := 946) (by decide +kernel), by decide +kernel⟩ ⟨List.mem_of_getElem? (i := 962) (by decide +kernel), by decide +kernel⟩ (fun q => ?_)
      refine r_astore_n hX dL_period_12 (Nat.le_of_ble_eq_true rfl) rfl ?_
      refine r_iconst (v := 1) hX dL_period_13 (by decide) ?_
      exact r_x (r_iret hX dL_period_14 ⟨by rw [hk9]; rfl, hO9, hF9.mono (fun a h => Or.inl h), fun h => absurd (hk9.symm.trans h) (by decide), by rw [hk9]; decide⟩ ⟨Nat.le_of_ble_eq_true rfl, Nat.le_of_ble_eq_true rfl⟩)
    · exact absurd hn9 (by simp)
  obtain ⟨h0, hv, hO1, hF1⟩ := hp
  subst v4
  refine r_i2l hX dL_period_7 ?_
  refine r_lastore hX dL_period_8 (hF1.gAt hwg (hk w _ hwg)) (pk_in 0 1 (by decide)) ?_
  refine r_goto (tgt := 15) hX dL_period_9 (by decide) ?_
  refine r_iconst (v := 0) hX dL_period_15 (by decide) ?_
  exact r_x (r_iret hX dL_period_16 ⟨by rw [h0]; rfl, hO1, (hF1.mono (fun a h => Or.inl h)).tr (frp_wJ (Or.inr rfl)), fun _ => qJ_wJ_s _ _ _ _, by rw [h0]; decide⟩ ⟨Nat.le_of_ble_eq_true rfl, Nat.le_of_ble_eq_true rfl⟩)
set_option maxRecDepth 20000 in
set_option maxHeartbeats 4000000 in
theorem s_L_brightness (E : qE) (g : qG) (m : qM) (x : Nat) (O : kO) (hO : ObsV g m x O) (u : Nat) (hw : WfO u O) (hu : u ≤ 6144) (a1 : Int32) (w : Nat) (hwg : gAt g w (.inr (3, 1))) : SpH E yL_brightness cL_brightness 4 (some .int) [(0, 9, 12, 21)] 10 1 6 [.ref x, .int a1, .ref w] g m (pH x w g m (qOf O a1 (fun c => c 2))) := by
  refine SpH.of (by decide) [some (.ref x), some (.int a1), some (.ref w), none] rfl rfl (Nat.le_of_ble_eq_true rfl) (fun X hX => ?_)
  have b0 := hO.1
  refine r_known (fun hk => ?_)
  refine r_aload_n hX dL_brightness_0 rfl ?_
  refine r_iconst (v := 0) hX dL_brightness_1 (by decide) ?_
  refine r_aload_n hX dL_brightness_2 rfl ?_
  refine r_iload_n hX dL_brightness_3 rfl ?_
  refine r_callVX hX dL_brightness_4 (s_X7_brightness E g m x O hO u hw hu a1) ml_L_49 mk_L_49 rfl rfl b0.1 rfl ⟨Nat.le_of_ble_eq_true rfl, Nat.le_of_ble_eq_true rfl⟩ ⟨Nat.le_of_ble_eq_true rfl, Nat.le_of_ble_eq_true rfl, rfl, Nat.le_of_ble_eq_true rfl⟩ (fun v4 g4 m4 hp => ?_) (fun nm gx mx hp => ?_)
  rotate_left
  · obtain ⟨⟨k9, hk9, hn9⟩, hO9, hF9⟩ := hp
    rcases k9 with _ | k9
    · have e9 : "java/util/NoSuchElementException" = nm := Option.some.inj hn9
      subst e9
      refine r_catch (name := "java/util/NoSuchElementException") hX [] ⟨0, 9, 12, 21⟩ [] rfl (fun z hz => absurd hz List.not_mem_nil) rfl (by decide) ⟨List.mem_of_getElem? (i := 946) (by decide +kernel), by decide +kernel⟩ ⟨List.mem_of_getElem? (i := 962) (by decide +kernel), by decide +kernel⟩ (fun q => ?_)
      refine r_astore_n hX dL_brightness_12 (Nat.le_of_ble_eq_true rfl) rfl ?_
      refine r_iconst (v := 1) hX dL_brightness_13 (by decide) ?_
      exact r_x (r_iret hX dL_brightness_14 ⟨by rw [hk9]; rfl, hO9, hF9.mono (fun a h => Or.inl h), fun h => absurd (hk9.symm.trans h) (by decide), by rw [hk9]; decide⟩ ⟨Nat.le_of_ble_eq_true rfl, Nat.le_of_ble_eq_true rfl⟩)
    · exact absurd hn9 (by simp)
  obtain ⟨h0, hv, hO1, hF1⟩ := hp
  subst v4
  refine r_i2l hX dL_brightness_7 ?_
  refine r_lastore hX dL_brightness_8 (hF1.gAt hwg (hk w _ hwg)) (pk_in 0 1 (by decide)) ?_
  refine r_goto (tgt := 15) hX dL_brightness_9 (by decide) ?_
  refine r_iconst (v := 0) hX dL_brightness_15 (by decide) ?_
  exact r_x (r_iret hX dL_brightness_16 ⟨by rw [h0]; rfl, hO1, (hF1.mono (fun a h => Or.inl h)).tr (frp_wJ (Or.inr rfl)), fun _ => qJ_wJ_s _ _ _ _, by rw [h0]; decide⟩ ⟨Nat.le_of_ble_eq_true rfl, Nat.le_of_ble_eq_true rfl⟩)
set_option maxRecDepth 20000 in
set_option maxHeartbeats 4000000 in
theorem s_L_tail (E : qE) (g : qG) (m : qM) (x : Nat) (O : kO) (hO : ObsV g m x O) (u : Nat) (hw : WfO u O) (hu : u ≤ 6144) (a1 : Int32) (w : Nat) (hwg : gAt g w (.inr (3, 1))) : SpH E yL_tail cL_tail 4 (some .int) [(0, 9, 12, 21)] 10 1 6 [.ref x, .int a1, .ref w] g m (pH x w g m (qOf O a1 (fun c => 1 + c 2 / 5))) := by
  refine SpH.of (by decide) [some (.ref x), some (.int a1), some (.ref w), none] rfl rfl (Nat.le_of_ble_eq_true rfl) (fun X hX => ?_)
  have b0 := hO.1
  refine r_known (fun hk => ?_)
  refine r_aload_n hX dL_tail_0 rfl ?_
  refine r_iconst (v := 0) hX dL_tail_1 (by decide) ?_
  refine r_aload_n hX dL_tail_2 rfl ?_
  refine r_iload_n hX dL_tail_3 rfl ?_
  refine r_callVX hX dL_tail_4 (s_X7_tail E g m x O hO u hw hu a1) ml_L_52 mk_L_52 rfl rfl b0.1 rfl ⟨Nat.le_of_ble_eq_true rfl, Nat.le_of_ble_eq_true rfl⟩ ⟨Nat.le_of_ble_eq_true rfl, Nat.le_of_ble_eq_true rfl, rfl, Nat.le_of_ble_eq_true rfl⟩ (fun v4 g4 m4 hp => ?_) (fun nm gx mx hp => ?_)
  rotate_left
  · obtain ⟨⟨k9, hk9, hn9⟩, hO9, hF9⟩ := hp
    rcases k9 with _ | k9
    · have e9 : "java/util/NoSuchElementException" = nm := Option.some.inj hn9
      subst e9
      refine r_catch (name := "java/util/NoSuchElementException") hX [] ⟨0, 9, 12, 21⟩ [] rfl (fun z hz => absurd hz List.not_mem_nil) rfl (by decide) ⟨List.mem_of_getElem? (i := 946) (by decide +kernel), by decide +kernel⟩ ⟨List.mem_of_getElem? (i := 962) (by decide +kernel), by decide +kernel⟩ (fun q => ?_)
      refine r_astore_n hX dL_tail_12 (Nat.le_of_ble_eq_true rfl) rfl ?_
      refine r_iconst (v := 1) hX dL_tail_13 (by decide) ?_
      exact r_x (r_iret hX dL_tail_14 ⟨by rw [hk9]; rfl, hO9, hF9.mono (fun a h => Or.inl h), fun h => absurd (hk9.symm.trans h) (by decide), by rw [hk9]; decide⟩ ⟨Nat.le_of_ble_eq_true rfl, Nat.le_of_ble_eq_true rfl⟩)
    · exact absurd hn9 (by simp)
  obtain ⟨h0, hv, hO1, hF1⟩ := hp
  subst v4
  refine r_i2l hX dL_tail_7 ?_
  refine r_lastore hX dL_tail_8 (hF1.gAt hwg (hk w _ hwg)) (pk_in 0 1 (by decide)) ?_
  refine r_goto (tgt := 15) hX dL_tail_9 (by decide) ?_
  refine r_iconst (v := 0) hX dL_tail_15 (by decide) ?_
  exact r_x (r_iret hX dL_tail_16 ⟨by rw [h0]; rfl, hO1, (hF1.mono (fun a h => Or.inl h)).tr (frp_wJ (Or.inr rfl)), fun _ => qJ_wJ_s _ _ _ _, by rw [h0]; decide⟩ ⟨Nat.le_of_ble_eq_true rfl, Nat.le_of_ble_eq_true rfl⟩)
set_option maxRecDepth 20000 in
set_option maxHeartbeats 4000000 in
theorem s_L_nextPass (E : qE) (g : qG) (m : qM) (x : Nat) (O : kO) (hO : ObsV g m x O) (u : Nat) (hw : WfO u O) (hu : u ≤ 6144) (a1 : Int32) (w : Nat) (hwg : gAt g w (.inr (3, 1))) : SpH E yL_nextPass cL_nextPass 4 (some .int) [(0, 9, 12, 21)] 10 1 6 [.ref x, .int a1, .ref w] g m (pH x w g m (qOf O a1 (fun c => c 3))) := by
  refine SpH.of (by decide) [some (.ref x), some (.int a1), some (.ref w), none] rfl rfl (Nat.le_of_ble_eq_true rfl) (fun X hX => ?_)
  have b0 := hO.1
  refine r_known (fun hk => ?_)
  refine r_aload_n hX dL_nextPass_0 rfl ?_
  refine r_iconst (v := 0) hX dL_nextPass_1 (by decide) ?_
  refine r_aload_n hX dL_nextPass_2 rfl ?_
  refine r_iload_n hX dL_nextPass_3 rfl ?_
  refine r_callVX hX dL_nextPass_4 (s_X7_nextPass E g m x O hO u hw hu a1) ml_L_55 mk_L_55 rfl rfl b0.1 rfl ⟨Nat.le_of_ble_eq_true rfl, Nat.le_of_ble_eq_true rfl⟩ ⟨Nat.le_of_ble_eq_true rfl, Nat.le_of_ble_eq_true rfl, rfl, Nat.le_of_ble_eq_true rfl⟩ (fun v4 g4 m4 hp => ?_) (fun nm gx mx hp => ?_)
  rotate_left
  · obtain ⟨⟨k9, hk9, hn9⟩, hO9, hF9⟩ := hp
    rcases k9 with _ | k9
    · have e9 : "java/util/NoSuchElementException" = nm := Option.some.inj hn9
      subst e9
      refine r_catch (name := "java/util/NoSuchElementException") hX [] ⟨0, 9, 12, 21⟩ [] rfl (fun z hz => absurd hz List.not_mem_nil) rfl (by decide) ⟨List.mem_of_getElem? (i := 946) (by decide +kernel), by decide +kernel⟩ ⟨List.mem_of_getElem? (i := 962) (by decide +kernel), by decide +kernel⟩ (fun q => ?_)
      refine r_astore_n hX dL_nextPass_12 (Nat.le_of_ble_eq_true rfl) rfl ?_
      refine r_iconst (v := 1) hX dL_nextPass_13 (by decide) ?_
      exact r_x (r_iret hX dL_nextPass_14 ⟨by rw [hk9]; rfl, hO9, hF9.mono (fun a h => Or.inl h), fun h => absurd (hk9.symm.trans h) (by decide), by rw [hk9]; decide⟩ ⟨Nat.le_of_ble_eq_true rfl, Nat.le_of_ble_eq_true rfl⟩)
    · exact absurd hn9 (by simp)
  obtain ⟨h0, hv, hO1, hF1⟩ := hp
  subst v4
  refine r_i2l hX dL_nextPass_7 ?_
  refine r_lastore hX dL_nextPass_8 (hF1.gAt hwg (hk w _ hwg)) (pk_in 0 1 (by decide)) ?_
  refine r_goto (tgt := 15) hX dL_nextPass_9 (by decide) ?_
  refine r_iconst (v := 0) hX dL_nextPass_15 (by decide) ?_
  exact r_x (r_iret hX dL_nextPass_16 ⟨by rw [h0]; rfl, hO1, (hF1.mono (fun a h => Or.inl h)).tr (frp_wJ (Or.inr rfl)), fun _ => qJ_wJ_s _ _ _ _, by rw [h0]; decide⟩ ⟨Nat.le_of_ble_eq_true rfl, Nat.le_of_ble_eq_true rfl⟩)
set_option maxRecDepth 20000 in
set_option maxHeartbeats 4000000 in
theorem s_L_passesOf (E : qE) (g : qG) (m : qM) (x : Nat) (O : kO) (hO : ObsV g m x O) (u : Nat) (hw : WfO u O) (hu : u ≤ 6144) (a1 : Int32) (w : Nat) (hwg : gAt g w (.inr (3, 1))) : SpH E yL_passesOf cL_passesOf 4 (some .int) [(0, 9, 12, 21)] 10 1 6 [.ref x, .int a1, .ref w] g m (pH x w g m (qOf O a1 (fun c => c 4))) := by
  refine SpH.of (by decide) [some (.ref x), some (.int a1), some (.ref w), none] rfl rfl (Nat.le_of_ble_eq_true rfl) (fun X hX => ?_)
  have b0 := hO.1
  refine r_known (fun hk => ?_)
  refine r_aload_n hX dL_passesOf_0 rfl ?_
  refine r_iconst (v := 0) hX dL_passesOf_1 (by decide) ?_
  refine r_aload_n hX dL_passesOf_2 rfl ?_
  refine r_iload_n hX dL_passesOf_3 rfl ?_
  refine r_callVX hX dL_passesOf_4 (s_X7_passesOf E g m x O hO u hw hu a1) ml_L_58 mk_L_58 rfl rfl b0.1 rfl ⟨Nat.le_of_ble_eq_true rfl, Nat.le_of_ble_eq_true rfl⟩ ⟨Nat.le_of_ble_eq_true rfl, Nat.le_of_ble_eq_true rfl, rfl, Nat.le_of_ble_eq_true rfl⟩ (fun v4 g4 m4 hp => ?_) (fun nm gx mx hp => ?_)
  rotate_left
  · obtain ⟨⟨k9, hk9, hn9⟩, hO9, hF9⟩ := hp
    rcases k9 with _ | k9
    · have e9 : "java/util/NoSuchElementException" = nm := Option.some.inj hn9
      subst e9
      refine r_catch (name := "java/util/NoSuchElementException") hX [] ⟨0, 9, 12, 21⟩ [] rfl (fun z hz => absurd hz List.not_mem_nil) rfl (by decide) ⟨List.mem_of_getElem? (i := 946) (by decide +kernel), by decide +kernel⟩ ⟨List.mem_of_getElem? (i := 962) (by decide +kernel), by decide +kernel⟩ (fun q => ?_)
      refine r_astore_n hX dL_passesOf_12 (Nat.le_of_ble_eq_true rfl) rfl ?_
      refine r_iconst (v := 1) hX dL_passesOf_13 (by decide) ?_
      exact r_x (r_iret hX dL_passesOf_14 ⟨by rw [hk9]; rfl, hO9, hF9.mono (fun a h => Or.inl h), fun h => absurd (hk9.symm.trans h) (by decide), by rw [hk9]; decide⟩ ⟨Nat.le_of_ble_eq_true rfl, Nat.le_of_ble_eq_true rfl⟩)
    · exact absurd hn9 (by simp)
  obtain ⟨h0, hv, hO1, hF1⟩ := hp
  subst v4
  refine r_i2l hX dL_passesOf_7 ?_
  refine r_lastore hX dL_passesOf_8 (hF1.gAt hwg (hk w _ hwg)) (pk_in 0 1 (by decide)) ?_
  refine r_goto (tgt := 15) hX dL_passesOf_9 (by decide) ?_
  refine r_iconst (v := 0) hX dL_passesOf_15 (by decide) ?_
  exact r_x (r_iret hX dL_passesOf_16 ⟨by rw [h0]; rfl, hO1, (hF1.mono (fun a h => Or.inl h)).tr (frp_wJ (Or.inr rfl)), fun _ => qJ_wJ_s _ _ _ _, by rw [h0]; decide⟩ ⟨Nat.le_of_ble_eq_true rfl, Nat.le_of_ble_eq_true rfl⟩)
set_option maxRecDepth 20000 in
set_option maxHeartbeats 4000000 in
theorem s_L_lastPass (E : qE) (g : qG) (m : qM) (x : Nat) (O : kO) (hO : ObsV g m x O) (u : Nat) (hw : WfO u O) (hu : u ≤ 6144) (a1 : Int32) (w : Nat) (hwg : gAt g w (.inr (3, 1))) : SpH E yL_lastPass cL_lastPass 4 (some .int) [(0, 9, 12, 21)] 10 1 6 [.ref x, .int a1, .ref w] g m (pH x w g m (qOf O a1 (fun c => c 3 + (c 2 - 1) * c 1))) := by
  refine SpH.of (by decide) [some (.ref x), some (.int a1), some (.ref w), none] rfl rfl (Nat.le_of_ble_eq_true rfl) (fun X hX => ?_)
  have b0 := hO.1
  refine r_known (fun hk => ?_)
  refine r_aload_n hX dL_lastPass_0 rfl ?_
  refine r_iconst (v := 0) hX dL_lastPass_1 (by decide) ?_
  refine r_aload_n hX dL_lastPass_2 rfl ?_
  refine r_iload_n hX dL_lastPass_3 rfl ?_
  refine r_callVX hX dL_lastPass_4 (s_X7_lastPass E g m x O hO u hw hu a1) ml_L_61 mk_L_61 rfl rfl b0.1 rfl ⟨Nat.le_of_ble_eq_true rfl, Nat.le_of_ble_eq_true rfl⟩ ⟨Nat.le_of_ble_eq_true rfl, Nat.le_of_ble_eq_true rfl, rfl, Nat.le_of_ble_eq_true rfl⟩ (fun v4 g4 m4 hp => ?_) (fun nm gx mx hp => ?_)
  rotate_left
  · obtain ⟨⟨k9, hk9, hn9⟩, hO9, hF9⟩ := hp
    rcases k9 with _ | k9
    · have e9 : "java/util/NoSuchElementException" = nm := Option.some.inj hn9
      subst e9
      refine r_catch (name := "java/util/NoSuchElementException") hX [] ⟨0, 9, 12, 21⟩ [] rfl (fun z hz => absurd hz List.not_mem_nil) rfl (by decide) ⟨List.mem_of_getElem? (i := 946) (by decide +kernel), by decide +kernel⟩ ⟨List.mem_of_getElem? (i := 962) (by decide +kernel), by decide +kernel⟩ (fun q => ?_)
      refine r_astore_n hX dL_lastPass_12 (Nat.le_of_ble_eq_true rfl) rfl ?_
      refine r_iconst (v := 1) hX dL_lastPass_13 (by decide) ?_
      exact r_x (r_iret hX dL_lastPass_14 ⟨by rw [hk9]; rfl, hO9, hF9.mono (fun a h => Or.inl h), fun h => absurd (hk9.symm.trans h) (by decide), by rw [hk9]; decide⟩ ⟨Nat.le_of_ble_eq_true rfl, Nat.le_of_ble_eq_true rfl⟩)
    · exact absurd hn9 (by simp)
  obtain ⟨h0, hv, hO1, hF1⟩ := hp
  subst v4
  refine r_i2l hX dL_lastPass_7 ?_
  refine r_lastore hX dL_lastPass_8 (hF1.gAt hwg (hk w _ hwg)) (pk_in 0 1 (by decide)) ?_
  refine r_goto (tgt := 15) hX dL_lastPass_9 (by decide) ?_
  refine r_iconst (v := 0) hX dL_lastPass_15 (by decide) ?_
  exact r_x (r_iret hX dL_lastPass_16 ⟨by rw [h0]; rfl, hO1, (hF1.mono (fun a h => Or.inl h)).tr (frp_wJ (Or.inr rfl)), fun _ => qJ_wJ_s _ _ _ _, by rw [h0]; decide⟩ ⟨Nat.le_of_ble_eq_true rfl, Nat.le_of_ble_eq_true rfl⟩)
set_option maxRecDepth 20000 in
set_option maxHeartbeats 4000000 in
theorem s_L_cometAtRank (E : qE) (g : qG) (m : qM) (x : Nat) (O : kO) (hO : ObsV g m x O) (u : Nat) (hw : WfO u O) (hu : u ≤ 6144) (a1 : Int32) (w : Nat) (hwg : gAt g w (.inr (3, 1))) : SpH E yL_cometAtRank cL_cometAtRank 4 (some .int) [(0, 9, 12, 38)] 9 1 6 [.ref x, .int a1, .ref w] g m (pH x w g m (qRank O a1)) := by
  refine SpH.of (by decide) [some (.ref x), some (.int a1), some (.ref w), none] rfl rfl (Nat.le_of_ble_eq_true rfl) (fun X hX => ?_)
  have b0 := hO.1
  refine r_known (fun hk => ?_)
  refine r_aload_n hX dL_cometAtRank_0 rfl ?_
  refine r_iconst (v := 0) hX dL_cometAtRank_1 (by decide) ?_
  refine r_aload_n hX dL_cometAtRank_2 rfl ?_
  refine r_iload_n hX dL_cometAtRank_3 rfl ?_
  refine r_callVX hX dL_cometAtRank_4 (s_X7_cometAtRank E g m x O hO u hw hu a1) ml_L_64 mk_L_64 rfl rfl b0.1 rfl ⟨Nat.le_of_ble_eq_true rfl, Nat.le_of_ble_eq_true rfl⟩ ⟨Nat.le_of_ble_eq_true rfl, Nat.le_of_ble_eq_true rfl, rfl, Nat.le_of_ble_eq_true rfl⟩ (fun v4 g4 m4 hp => ?_) (fun nm gx mx hp => ?_)
  rotate_left
  · obtain ⟨⟨k9, hk9, hn9⟩, hO9, hF9⟩ := hp
    rcases k9 with _ | k9
    · have e9 : "java/lang/IndexOutOfBoundsException" = nm := Option.some.inj hn9
      subst e9
      refine r_catch (name := "java/lang/IndexOutOfBoundsException") hX [] ⟨0, 9, 12, 38⟩ [] rfl (fun z hz => absurd hz List.not_mem_nil) rfl (by decide) ⟨List.mem_of_getElem? (i := 1063) (by decide +kernel), by decide +kernel⟩ ⟨List.mem_of_getElem? (i := 1075) (by decide +kernel), by decide +kernel⟩ (fun q => ?_)
      refine r_astore_n hX dL_cometAtRank_12 (Nat.le_of_ble_eq_true rfl) rfl ?_
      refine r_iconst (v := 1) hX dL_cometAtRank_13 (by decide) ?_
      exact r_x (r_iret hX dL_cometAtRank_14 ⟨by rw [hk9]; rfl, hO9, hF9.mono (fun a h => Or.inl h), fun h => absurd (hk9.symm.trans h) (by decide), by rw [hk9]; decide⟩ ⟨Nat.le_of_ble_eq_true rfl, Nat.le_of_ble_eq_true rfl⟩)
    · exact absurd hn9 (by simp)
  obtain ⟨h0, hv, hO1, hF1⟩ := hp
  subst v4
  refine r_i2l hX dL_cometAtRank_7 ?_
  refine r_lastore hX dL_cometAtRank_8 (hF1.gAt hwg (hk w _ hwg)) (pk_in 0 1 (by decide)) ?_
  refine r_goto (tgt := 15) hX dL_cometAtRank_9 (by decide) ?_
  refine r_iconst (v := 0) hX dL_cometAtRank_15 (by decide) ?_
  exact r_x (r_iret hX dL_cometAtRank_16 ⟨by rw [h0]; rfl, hO1, (hF1.mono (fun a h => Or.inl h)).tr (frp_wJ (Or.inr rfl)), fun _ => qJ_wJ_s _ _ _ _, by rw [h0]; decide⟩ ⟨Nat.le_of_ble_eq_true rfl, Nat.le_of_ble_eq_true rfl⟩)
set_option maxRecDepth 20000 in
set_option maxHeartbeats 4000000 in
theorem s_L_passesIn (E : qE) (g : qG) (m : qM) (x : Nat) (O : kO) (hO : ObsV g m x O) (u : Nat) (hw : WfO u O) (hu : u ≤ 6144) (a1 : Int32) (w : Nat) (hwg : gAt g w (.inr (3, 1))) : SpH E yL_passesIn cL_passesIn 4 (some .int) [(0, 9, 12, 13)] 9 1 6 [.ref x, .int a1, .ref w] g m (pH x w g m (qIn O a1)) := by
  refine SpH.of (by decide) [some (.ref x), some (.int a1), some (.ref w), none] rfl rfl (Nat.le_of_ble_eq_true rfl) (fun X hX => ?_)
  have b0 := hO.1
  refine r_known (fun hk => ?_)
  refine r_aload_n hX dL_passesIn_0 rfl ?_
  refine r_iconst (v := 0) hX dL_passesIn_1 (by decide) ?_
  refine r_aload_n hX dL_passesIn_2 rfl ?_
  refine r_iload_n hX dL_passesIn_3 rfl ?_
  refine r_callVX hX dL_passesIn_4 (s_X7_passesIn E g m x O hO u hw hu a1) ml_L_67 mk_L_67 rfl rfl b0.1 rfl ⟨Nat.le_of_ble_eq_true rfl, Nat.le_of_ble_eq_true rfl⟩ ⟨Nat.le_of_ble_eq_true rfl, Nat.le_of_ble_eq_true rfl, rfl, Nat.le_of_ble_eq_true rfl⟩ (fun v4 g4 m4 hp => ?_) (fun nm gx mx hp => ?_)
  rotate_left
  · obtain ⟨⟨k9, hk9, hn9⟩, hO9, hF9⟩ := hp
    rcases k9 with _ | k9
    · have e9 : "java/lang/IllegalArgumentException" = nm := Option.some.inj hn9
      subst e9
      refine r_catch (name := "java/lang/IllegalArgumentException") hX [] ⟨0, 9, 12, 13⟩ [] rfl (fun z hz => absurd hz List.not_mem_nil) rfl (by decide) ⟨List.mem_of_getElem? (i := 896) (by decide +kernel), by decide +kernel⟩ ⟨List.mem_of_getElem? (i := 469) (by decide +kernel), by decide +kernel⟩ (fun q => ?_)
      refine r_astore_n hX dL_passesIn_12 (Nat.le_of_ble_eq_true rfl) rfl ?_
      refine r_iconst (v := 1) hX dL_passesIn_13 (by decide) ?_
      exact r_x (r_iret hX dL_passesIn_14 ⟨by rw [hk9]; rfl, hO9, hF9.mono (fun a h => Or.inl h), fun h => absurd (hk9.symm.trans h) (by decide), by rw [hk9]; decide⟩ ⟨Nat.le_of_ble_eq_true rfl, Nat.le_of_ble_eq_true rfl⟩)
    · exact absurd hn9 (by simp)
  obtain ⟨h0, hv, hO1, hF1⟩ := hp
  subst v4
  refine r_i2l hX dL_passesIn_7 ?_
  refine r_lastore hX dL_passesIn_8 (hF1.gAt hwg (hk w _ hwg)) (pk_in 0 1 (by decide)) ?_
  refine r_goto (tgt := 15) hX dL_passesIn_9 (by decide) ?_
  refine r_iconst (v := 0) hX dL_passesIn_15 (by decide) ?_
  exact r_x (r_iret hX dL_passesIn_16 ⟨by rw [h0]; rfl, hO1, (hF1.mono (fun a h => Or.inl h)).tr (frp_wJ (Or.inr rfl)), fun _ => qJ_wJ_s _ _ _ _, by rw [h0]; decide⟩ ⟨Nat.le_of_ble_eq_true rfl, Nat.le_of_ble_eq_true rfl⟩)
set_option maxRecDepth 20000 in
set_option maxHeartbeats 4000000 in
theorem s_L_nextMeeting (E : qE) (g : qG) (m : qM) (x : Nat) (O : kO) (hO : ObsV g m x O) (u : Nat) (hw : WfO u O) (hu : u ≤ 6144) (a1 a2 : Int32) (w : Nat) (hwg : gAt g w (.inr (3, 1))) : SpH E yL_nextMeeting cL_nextMeeting 5 (some .int) [(0, 10, 13, 21), (0, 10, 17, 13), (0, 10, 21, 30)] 10 3 18 [.ref x, .int a1, .int a2, .ref w] g m (pH x w g m (qMeet mWalk O a1 a2)) := by
  refine SpH.of (by decide) [some (.ref x), some (.int a1), some (.int a2), some (.ref w), none] rfl rfl (Nat.le_of_ble_eq_true rfl) (fun X hX => ?_)
  have b0 := hO.1
  refine r_known (fun hk => ?_)
  refine r_aload_n hX dL_nextMeeting_0 rfl ?_
  refine r_iconst (v := 0) hX dL_nextMeeting_1 (by decide) ?_
  refine r_aload_n hX dL_nextMeeting_2 rfl ?_
  refine r_iload_n hX dL_nextMeeting_3 rfl ?_
  refine r_iload_n hX dL_nextMeeting_4 rfl ?_
  refine r_callVX hX dL_nextMeeting_5 (s_X7_nextMeeting E g m x O hO u hw hu a1 a2) ml_L_70 mk_L_70 rfl rfl b0.1 rfl ⟨Nat.le_of_ble_eq_true rfl, Nat.le_of_ble_eq_true rfl⟩ ⟨Nat.le_of_ble_eq_true rfl, Nat.le_of_ble_eq_true rfl, rfl, Nat.le_of_ble_eq_true rfl⟩ (fun v5 g5 m5 hp => ?_) (fun nm gx mx hp => ?_)
  rotate_left
  · obtain ⟨⟨k9, hk9, hn9⟩, hO9, hF9⟩ := hp
    rcases k9 with _ | _ | _ | k9
    · have e9 : "java/util/NoSuchElementException" = nm := Option.some.inj hn9
      subst e9
      refine r_catch (name := "java/util/NoSuchElementException") hX [] ⟨0, 10, 13, 21⟩ [⟨0, 10, 17, 13⟩, ⟨0, 10, 21, 30⟩] rfl (fun z hz => absurd hz List.not_mem_nil) rfl (by decide) ⟨List.mem_of_getElem? (i := 946) (by decide +kernel), by decide +kernel⟩ ⟨List.mem_of_getElem? (i := 962) (by decide +kernel), by decide +kernel⟩ (fun q => ?_)
      refine r_astore hX dL_nextMeeting_13 (Nat.le_of_ble_eq_true rfl) rfl ?_
      refine r_iconst (v := 1) hX dL_nextMeeting_15 (by decide) ?_
      exact r_x (r_iret hX dL_nextMeeting_16 ⟨by rw [hk9]; rfl, hO9, hF9.mono (fun a h => Or.inl h), fun h => absurd (hk9.symm.trans h) (by decide), by rw [hk9]; decide⟩ ⟨Nat.le_of_ble_eq_true rfl, Nat.le_of_ble_eq_true rfl⟩)
    · have e9 : "java/lang/IllegalArgumentException" = nm := Option.some.inj hn9
      subst e9
      refine r_catch (name := "java/lang/IllegalArgumentException") hX [⟨0, 10, 13, 21⟩] ⟨0, 10, 17, 13⟩ [⟨0, 10, 21, 30⟩] rfl (fun z hz => by
        rcases List.mem_cons.mp hz with rfl | hz
        · exact ⟨by decide, "java/util/NoSuchElementException", ⟨List.mem_of_getElem? (i := 946) (by decide +kernel), by decide +kernel⟩, List.mem_of_getElem? (i := 1) rfl⟩
        exact absurd hz List.not_mem_nil) rfl (by decide) ⟨List.mem_of_getElem? (i := 896) (by decide +kernel), by decide +kernel⟩ ⟨List.mem_of_getElem? (i := 469) (by decide +kernel), by decide +kernel⟩ (fun q => ?_)
      refine r_astore hX dL_nextMeeting_17 (Nat.le_of_ble_eq_true rfl) rfl ?_
      refine r_iconst (v := 2) hX dL_nextMeeting_19 (by decide) ?_
      exact r_x (r_iret hX dL_nextMeeting_20 ⟨by rw [hk9]; rfl, hO9, hF9.mono (fun a h => Or.inl h), fun h => absurd (hk9.symm.trans h) (by decide), by rw [hk9]; decide⟩ ⟨Nat.le_of_ble_eq_true rfl, Nat.le_of_ble_eq_true rfl⟩)
    · have e9 : "java/lang/UnsupportedOperationException" = nm := Option.some.inj hn9
      subst e9
      refine r_catch (name := "java/lang/UnsupportedOperationException") hX [⟨0, 10, 13, 21⟩, ⟨0, 10, 17, 13⟩] ⟨0, 10, 21, 30⟩ [] rfl (fun z hz => by
        rcases List.mem_cons.mp hz with rfl | hz
        · exact ⟨by decide, "java/util/NoSuchElementException", ⟨List.mem_of_getElem? (i := 946) (by decide +kernel), by decide +kernel⟩, List.mem_of_getElem? (i := 3) rfl⟩
        rcases List.mem_cons.mp hz with rfl | hz
        · exact ⟨by decide, "java/lang/IllegalArgumentException", ⟨List.mem_of_getElem? (i := 896) (by decide +kernel), by decide +kernel⟩, List.mem_of_getElem? (i := 4) rfl⟩
        exact absurd hz List.not_mem_nil) rfl (by decide) ⟨List.mem_of_getElem? (i := 995) (by decide +kernel), by decide +kernel⟩ ⟨List.mem_of_getElem? (i := 1015) (by decide +kernel), by decide +kernel⟩ (fun q => ?_)
      refine r_astore hX dL_nextMeeting_21 (Nat.le_of_ble_eq_true rfl) rfl ?_
      refine r_iconst (v := 3) hX dL_nextMeeting_23 (by decide) ?_
      exact r_x (r_iret hX dL_nextMeeting_24 ⟨by rw [hk9]; rfl, hO9, hF9.mono (fun a h => Or.inl h), fun h => absurd (hk9.symm.trans h) (by decide), by rw [hk9]; decide⟩ ⟨Nat.le_of_ble_eq_true rfl, Nat.le_of_ble_eq_true rfl⟩)
    · exact absurd hn9 (by simp)
  obtain ⟨h0, hv, hO1, hF1⟩ := hp
  subst v5
  refine r_i2l hX dL_nextMeeting_8 ?_
  refine r_lastore hX dL_nextMeeting_9 (hF1.gAt hwg (hk w _ hwg)) (pk_in 0 1 (by decide)) ?_
  refine r_goto (tgt := 25) hX dL_nextMeeting_10 (by decide) ?_
  refine r_iconst (v := 0) hX dL_nextMeeting_25 (by decide) ?_
  exact r_x (r_iret hX dL_nextMeeting_26 ⟨by rw [h0]; rfl, hO1, (hF1.mono (fun a h => Or.inl h)).tr (frp_wJ (Or.inr rfl)), fun _ => qJ_wJ_s _ _ _ _, by rw [h0]; decide⟩ ⟨Nat.le_of_ble_eq_true rfl, Nat.le_of_ble_eq_true rfl⟩)
set_option maxRecDepth 20000 in
set_option maxHeartbeats 4000000 in
theorem s_L_nextMeetingByRemainders (E : qE) (g : qG) (m : qM) (x : Nat) (O : kO) (hO : ObsV g m x O) (u : Nat) (hw : WfO u O) (hu : u ≤ 6144) (a1 a2 : Int32) (w : Nat) (hwg : gAt g w (.inr (3, 1))) : SpH E yL_nextMeetingByRemainders cL_nextMeetingByRemainders 5 (some .int) [(0, 10, 13, 21), (0, 10, 17, 13), (0, 10, 21, 30)] 10 3 18 [.ref x, .int a1, .int a2, .ref w] g m (pH x w g m (qMeet mEuclid O a1 a2)) := by
  refine SpH.of (by decide) [some (.ref x), some (.int a1), some (.int a2), some (.ref w), none] rfl rfl (Nat.le_of_ble_eq_true rfl) (fun X hX => ?_)
  have b0 := hO.1
  refine r_known (fun hk => ?_)
  refine r_aload_n hX dL_nextMeetingByRemainders_0 rfl ?_
  refine r_iconst (v := 0) hX dL_nextMeetingByRemainders_1 (by decide) ?_
  refine r_aload_n hX dL_nextMeetingByRemainders_2 rfl ?_
  refine r_iload_n hX dL_nextMeetingByRemainders_3 rfl ?_
  refine r_iload_n hX dL_nextMeetingByRemainders_4 rfl ?_
  refine r_callVX hX dL_nextMeetingByRemainders_5 (s_X7_nextMeetingByRemainders E g m x O hO u hw hu a1 a2) ml_L_73 mk_L_73 rfl rfl b0.1 rfl ⟨Nat.le_of_ble_eq_true rfl, Nat.le_of_ble_eq_true rfl⟩ ⟨Nat.le_of_ble_eq_true rfl, Nat.le_of_ble_eq_true rfl, rfl, Nat.le_of_ble_eq_true rfl⟩ (fun v5 g5 m5 hp => ?_) (fun nm gx mx hp => ?_)
  rotate_left
  · obtain ⟨⟨k9, hk9, hn9⟩, hO9, hF9⟩ := hp
    rcases k9 with _ | _ | _ | k9
    · have e9 : "java/util/NoSuchElementException" = nm := Option.some.inj hn9
      subst e9
      refine r_catch (name := "java/util/NoSuchElementException") hX [] ⟨0, 10, 13, 21⟩ [⟨0, 10, 17, 13⟩, ⟨0, 10, 21, 30⟩] rfl (fun z hz => absurd hz List.not_mem_nil) rfl (by decide) ⟨List.mem_of_getElem? (i := 946) (by decide +kernel), by decide +kernel⟩ ⟨List.mem_of_getElem? (i := 962) (by decide +kernel), by decide +kernel⟩ (fun q => ?_)
      refine r_astore hX dL_nextMeetingByRemainders_13 (Nat.le_of_ble_eq_true rfl) rfl ?_
      refine r_iconst (v := 1) hX dL_nextMeetingByRemainders_15 (by decide) ?_
      exact r_x (r_iret hX dL_nextMeetingByRemainders_16 ⟨by rw [hk9]; rfl, hO9, hF9.mono (fun a h => Or.inl h), fun h => absurd (hk9.symm.trans h) (by decide), by rw [hk9]; decide⟩ ⟨Nat.le_of_ble_eq_true rfl, Nat.le_of_ble_eq_true rfl⟩)
    · have e9 : "java/lang/IllegalArgumentException" = nm := Option.some.inj hn9
      subst e9
      refine r_catch (name := "java/lang/IllegalArgumentException") hX [⟨0, 10, 13, 21⟩] ⟨0, 10, 17, 13⟩ [⟨0, 10, 21, 30⟩] rfl (fun z hz => by
        rcases List.mem_cons.mp hz with rfl | hz
        · exact ⟨by decide, "java/util/NoSuchElementException", ⟨List.mem_of_getElem? (i := 946) (by decide +kernel), by decide +kernel⟩, List.mem_of_getElem? (i := 1) rfl⟩
        exact absurd hz List.not_mem_nil) rfl (by decide) ⟨List.mem_of_getElem? (i := 896) (by decide +kernel), by decide +kernel⟩ ⟨List.mem_of_getElem? (i := 469) (by decide +kernel), by decide +kernel⟩ (fun q => ?_)
      refine r_astore hX dL_nextMeetingByRemainders_17 (Nat.le_of_ble_eq_true rfl) rfl ?_
      refine r_iconst (v := 2) hX dL_nextMeetingByRemainders_19 (by decide) ?_
      exact r_x (r_iret hX dL_nextMeetingByRemainders_20 ⟨by rw [hk9]; rfl, hO9, hF9.mono (fun a h => Or.inl h), fun h => absurd (hk9.symm.trans h) (by decide), by rw [hk9]; decide⟩ ⟨Nat.le_of_ble_eq_true rfl, Nat.le_of_ble_eq_true rfl⟩)
    · have e9 : "java/lang/UnsupportedOperationException" = nm := Option.some.inj hn9
      subst e9
      refine r_catch (name := "java/lang/UnsupportedOperationException") hX [⟨0, 10, 13, 21⟩, ⟨0, 10, 17, 13⟩] ⟨0, 10, 21, 30⟩ [] rfl (fun z hz => by
        rcases List.mem_cons.mp hz with rfl | hz
        · exact ⟨by decide, "java/util/NoSuchElementException", ⟨List.mem_of_getElem? (i := 946) (by decide +kernel), by decide +kernel⟩, List.mem_of_getElem? (i := 3) rfl⟩
        rcases List.mem_cons.mp hz with rfl | hz
        · exact ⟨by decide, "java/lang/IllegalArgumentException", ⟨List.mem_of_getElem? (i := 896) (by decide +kernel), by decide +kernel⟩, List.mem_of_getElem? (i := 4) rfl⟩
        exact absurd hz List.not_mem_nil) rfl (by decide) ⟨List.mem_of_getElem? (i := 995) (by decide +kernel), by decide +kernel⟩ ⟨List.mem_of_getElem? (i := 1015) (by decide +kernel), by decide +kernel⟩ (fun q => ?_)
      refine r_astore hX dL_nextMeetingByRemainders_21 (Nat.le_of_ble_eq_true rfl) rfl ?_
      refine r_iconst (v := 3) hX dL_nextMeetingByRemainders_23 (by decide) ?_
      exact r_x (r_iret hX dL_nextMeetingByRemainders_24 ⟨by rw [hk9]; rfl, hO9, hF9.mono (fun a h => Or.inl h), fun h => absurd (hk9.symm.trans h) (by decide), by rw [hk9]; decide⟩ ⟨Nat.le_of_ble_eq_true rfl, Nat.le_of_ble_eq_true rfl⟩)
    · exact absurd hn9 (by simp)
  obtain ⟨h0, hv, hO1, hF1⟩ := hp
  subst v5
  refine r_i2l hX dL_nextMeetingByRemainders_8 ?_
  refine r_lastore hX dL_nextMeetingByRemainders_9 (hF1.gAt hwg (hk w _ hwg)) (pk_in 0 1 (by decide)) ?_
  refine r_goto (tgt := 25) hX dL_nextMeetingByRemainders_10 (by decide) ?_
  refine r_iconst (v := 0) hX dL_nextMeetingByRemainders_25 (by decide) ?_
  exact r_x (r_iret hX dL_nextMeetingByRemainders_26 ⟨by rw [h0]; rfl, hO1, (hF1.mono (fun a h => Or.inl h)).tr (frp_wJ (Or.inr rfl)), fun _ => qJ_wJ_s _ _ _ _, by rw [h0]; decide⟩ ⟨Nat.le_of_ble_eq_true rfl, Nat.le_of_ble_eq_true rfl⟩)
set_option maxRecDepth 20000 in
set_option maxHeartbeats 4000000 in
theorem s_L_alignment (E : qE) (g : qG) (m : qM) (x : Nat) (O : kO) (hO : ObsV g m x O) (u : Nat) (hw : WfO u O) (hu : u ≤ 6144) (w : Nat) (hwg : gAt g w (.inr (3, 1))) : SpH E yL_alignment cL_alignment 3 (some .int) [(0, 7, 10, 80)] 9 1 6 [.ref x, .ref w] g m (pHJ x w g m (qAli O)) := by
  refine SpH.of (by decide) [some (.ref x), some (.ref w), none] rfl rfl (Nat.le_of_ble_eq_true rfl) (fun X hX => ?_)
  have b0 := hO.1
  refine r_known (fun hk => ?_)
  refine r_aload_n hX dL_alignment_0 rfl ?_
  refine r_iconst (v := 0) hX dL_alignment_1 (by decide) ?_
  refine r_aload_n hX dL_alignment_2 rfl ?_
  refine r_callVX hX dL_alignment_3 (s_X7_alignment E g m x O hO u hw hu) ml_L_76 mk_L_76 rfl rfl b0.1 rfl ⟨Nat.le_of_ble_eq_true rfl, Nat.le_of_ble_eq_true rfl⟩ ⟨Nat.le_of_ble_eq_true rfl, Nat.le_of_ble_eq_true rfl, rfl, Nat.le_of_ble_eq_true rfl⟩ (fun v3 g3 m3 hp => ?_) (fun nm gx mx hp => ?_)
  rotate_left
  · obtain ⟨⟨k9, hk9, hn9⟩, hO9, hF9⟩ := hp
    rcases k9 with _ | k9
    · have e9 : "java/lang/ArithmeticException" = nm := Option.some.inj hn9
      subst e9
      refine r_catch (name := "java/lang/ArithmeticException") hX [] ⟨0, 7, 10, 80⟩ [] rfl (fun z hz => absurd hz List.not_mem_nil) rfl (by decide) ⟨List.mem_of_getElem? (i := 1240) (by decide +kernel), by decide +kernel⟩ ⟨List.mem_of_getElem? (i := 1252) (by decide +kernel), by decide +kernel⟩ (fun q => ?_)
      refine r_astore_n hX dL_alignment_10 (Nat.le_of_ble_eq_true rfl) rfl ?_
      refine r_iconst (v := 1) hX dL_alignment_11 (by decide) ?_
      exact r_x (r_iret hX dL_alignment_12 ⟨by rw [hk9]; rfl, hO9, hF9.mono (fun a h => Or.inl h), fun h => absurd (hk9.symm.trans h) (by decide), by rw [hk9]; decide⟩ ⟨Nat.le_of_ble_eq_true rfl, Nat.le_of_ble_eq_true rfl⟩)
    · exact absurd hn9 (by simp)
  obtain ⟨h0, hv, hO1, hF1⟩ := hp
  subst v3
  have eV : ∃ v9, (qAli O).2.1 = .long v9 := by
    unfold qAli at h0 ⊢
    by_cases h9 : O.1.1.length = 0
    · rw [if_pos h9] at h0; exact absurd h0 Nat.one_ne_zero
    · rw [if_neg h9]; exact ⟨_, rfl⟩
  obtain ⟨v9, eV⟩ := eV
  rw [eV]
  refine r_lastore hX dL_alignment_6 (hF1.gAt hwg (hk w _ hwg)) (pk_in 0 1 (by decide)) ?_
  refine r_goto (tgt := 13) hX dL_alignment_7 (by decide) ?_
  refine r_iconst (v := 0) hX dL_alignment_13 (by decide) ?_
  exact r_x (r_iret hX dL_alignment_14 ⟨by rw [h0]; rfl, hO1, (hF1.mono (fun a h => Or.inl h)).tr (frp_wJ (Or.inr rfl)), fun _ => eV.trans (congrArg Value.long (qJ_wJ_s _ _ _ _).symm), by rw [h0]; decide⟩ ⟨Nat.le_of_ble_eq_true rfl, Nat.le_of_ble_eq_true rfl⟩)
set_option maxRecDepth 20000 in
set_option maxHeartbeats 4000000 in
theorem s_L_bestWorth (E : qE) (g : qG) (m : qM) (x : Nat) (O : kO) (hO : ObsV g m x O) (u : Nat) (hw : WfO u O) (hu : u ≤ 6144) (a1 : Int32) (w : Nat) (hwg : gAt g w (.inr (3, 1))) : SpH E yL_bestWorth cL_bestWorth 4 (some .int) [(0, 9, 12, 13)] 9 1 6 [.ref x, .int a1, .ref w] g m (pH x w g m (qWor O a1)) := by
  refine SpH.of (by decide) [some (.ref x), some (.int a1), some (.ref w), none] rfl rfl (Nat.le_of_ble_eq_true rfl) (fun X hX => ?_)
  have b0 := hO.1
  refine r_known (fun hk => ?_)
  refine r_aload_n hX dL_bestWorth_0 rfl ?_
  refine r_iconst (v := 0) hX dL_bestWorth_1 (by decide) ?_
  refine r_aload_n hX dL_bestWorth_2 rfl ?_
  refine r_iload_n hX dL_bestWorth_3 rfl ?_
  refine r_callVX hX dL_bestWorth_4 (s_X7_bestWorth E g m x O hO u hw hu a1) ml_L_82 mk_L_82 rfl rfl b0.1 rfl ⟨Nat.le_of_ble_eq_true rfl, Nat.le_of_ble_eq_true rfl⟩ ⟨Nat.le_of_ble_eq_true rfl, Nat.le_of_ble_eq_true rfl, rfl, Nat.le_of_ble_eq_true rfl⟩ (fun v4 g4 m4 hp => ?_) (fun nm gx mx hp => ?_)
  rotate_left
  · obtain ⟨⟨k9, hk9, hn9⟩, hO9, hF9⟩ := hp
    rcases k9 with _ | k9
    · have e9 : "java/lang/IllegalArgumentException" = nm := Option.some.inj hn9
      subst e9
      refine r_catch (name := "java/lang/IllegalArgumentException") hX [] ⟨0, 9, 12, 13⟩ [] rfl (fun z hz => absurd hz List.not_mem_nil) rfl (by decide) ⟨List.mem_of_getElem? (i := 896) (by decide +kernel), by decide +kernel⟩ ⟨List.mem_of_getElem? (i := 469) (by decide +kernel), by decide +kernel⟩ (fun q => ?_)
      refine r_astore_n hX dL_bestWorth_12 (Nat.le_of_ble_eq_true rfl) rfl ?_
      refine r_iconst (v := 1) hX dL_bestWorth_13 (by decide) ?_
      exact r_x (r_iret hX dL_bestWorth_14 ⟨by rw [hk9]; rfl, hO9, hF9.mono (fun a h => Or.inl h), fun h => absurd (hk9.symm.trans h) (by decide), by rw [hk9]; decide⟩ ⟨Nat.le_of_ble_eq_true rfl, Nat.le_of_ble_eq_true rfl⟩)
    · exact absurd hn9 (by simp)
  obtain ⟨h0, hv, hO1, hF1⟩ := hp
  subst v4
  refine r_i2l hX dL_bestWorth_7 ?_
  refine r_lastore hX dL_bestWorth_8 (hF1.gAt hwg (hk w _ hwg)) (pk_in 0 1 (by decide)) ?_
  refine r_goto (tgt := 15) hX dL_bestWorth_9 (by decide) ?_
  refine r_iconst (v := 0) hX dL_bestWorth_15 (by decide) ?_
  exact r_x (r_iret hX dL_bestWorth_16 ⟨by rw [h0]; rfl, hO1, (hF1.mono (fun a h => Or.inl h)).tr (frp_wJ (Or.inr rfl)), fun _ => qJ_wJ_s _ _ _ _, by rw [h0]; decide⟩ ⟨Nat.le_of_ble_eq_true rfl, Nat.le_of_ble_eq_true rfl⟩)
set_option maxRecDepth 20000 in
set_option maxHeartbeats 4000000 in
theorem s_L_bestWorthByDays (E : qE) (g : qG) (m : qM) (x : Nat) (O : kO) (hO : ObsV g m x O) (u : Nat) (hw : WfO u O) (hu : u ≤ 6144) (a1 : Int32) (w : Nat) (hwg : gAt g w (.inr (3, 1))) : SpH E yL_bestWorthByDays cL_bestWorthByDays 4 (some .int) [(0, 9, 12, 13)] 9 1 6 [.ref x, .int a1, .ref w] g m (pH x w g m (qWoD O a1)) := by
  refine SpH.of (by decide) [some (.ref x), some (.int a1), some (.ref w), none] rfl rfl (Nat.le_of_ble_eq_true rfl) (fun X hX => ?_)
  have b0 := hO.1
  refine r_known (fun hk => ?_)
  refine r_aload_n hX dL_bestWorthByDays_0 rfl ?_
  refine r_iconst (v := 0) hX dL_bestWorthByDays_1 (by decide) ?_
  refine r_aload_n hX dL_bestWorthByDays_2 rfl ?_
  refine r_iload_n hX dL_bestWorthByDays_3 rfl ?_
  refine r_callVX hX dL_bestWorthByDays_4 (s_X7_bestWorthByDays E g m x O hO u hw hu a1) ml_L_85 mk_L_85 rfl rfl b0.1 rfl ⟨Nat.le_of_ble_eq_true rfl, Nat.le_of_ble_eq_true rfl⟩ ⟨Nat.le_of_ble_eq_true rfl, Nat.le_of_ble_eq_true rfl, rfl, Nat.le_of_ble_eq_true rfl⟩ (fun v4 g4 m4 hp => ?_) (fun nm gx mx hp => ?_)
  rotate_left
  · obtain ⟨⟨k9, hk9, hn9⟩, hO9, hF9⟩ := hp
    rcases k9 with _ | k9
    · have e9 : "java/lang/IllegalArgumentException" = nm := Option.some.inj hn9
      subst e9
      refine r_catch (name := "java/lang/IllegalArgumentException") hX [] ⟨0, 9, 12, 13⟩ [] rfl (fun z hz => absurd hz List.not_mem_nil) rfl (by decide) ⟨List.mem_of_getElem? (i := 896) (by decide +kernel), by decide +kernel⟩ ⟨List.mem_of_getElem? (i := 469) (by decide +kernel), by decide +kernel⟩ (fun q => ?_)
      refine r_astore_n hX dL_bestWorthByDays_12 (Nat.le_of_ble_eq_true rfl) rfl ?_
      refine r_iconst (v := 1) hX dL_bestWorthByDays_13 (by decide) ?_
      exact r_x (r_iret hX dL_bestWorthByDays_14 ⟨by rw [hk9]; rfl, hO9, hF9.mono (fun a h => Or.inl h), fun h => absurd (hk9.symm.trans h) (by decide), by rw [hk9]; decide⟩ ⟨Nat.le_of_ble_eq_true rfl, Nat.le_of_ble_eq_true rfl⟩)
    · exact absurd hn9 (by simp)
  obtain ⟨h0, hv, hO1, hF1⟩ := hp
  subst v4
  refine r_i2l hX dL_bestWorthByDays_7 ?_
  refine r_lastore hX dL_bestWorthByDays_8 (hF1.gAt hwg (hk w _ hwg)) (pk_in 0 1 (by decide)) ?_
  refine r_goto (tgt := 15) hX dL_bestWorthByDays_9 (by decide) ?_
  refine r_iconst (v := 0) hX dL_bestWorthByDays_15 (by decide) ?_
  exact r_x (r_iret hX dL_bestWorthByDays_16 ⟨by rw [h0]; rfl, hO1, (hF1.mono (fun a h => Or.inl h)).tr (frp_wJ (Or.inr rfl)), fun _ => qJ_wJ_s _ _ _ _, by rw [h0]; decide⟩ ⟨Nat.le_of_ble_eq_true rfl, Nat.le_of_ble_eq_true rfl⟩)
set_option maxRecDepth 20000 in
set_option maxHeartbeats 4000000 in
theorem s_L_fewestPasses (E : qE) (g : qG) (m : qM) (x : Nat) (O : kO) (hO : ObsV g m x O) (u : Nat) (hw : WfO u O) (hu : u ≤ 6144) (a1 : Int32) (w : Nat) (hwg : gAt g w (.inr (3, 1))) : SpH E yL_fewestPasses cL_fewestPasses 4 (some .int) [(0, 9, 12, 13)] 9 1 6 [.ref x, .int a1, .ref w] g m (pH x w g m (qFew O a1)) := by
  refine SpH.of (by decide) [some (.ref x), some (.int a1), some (.ref w), none] rfl rfl (Nat.le_of_ble_eq_true rfl) (fun X hX => ?_)
  have b0 := hO.1
  refine r_known (fun hk => ?_)
  refine r_aload_n hX dL_fewestPasses_0 rfl ?_
  refine r_iconst (v := 0) hX dL_fewestPasses_1 (by decide) ?_
  refine r_aload_n hX dL_fewestPasses_2 rfl ?_
  refine r_iload_n hX dL_fewestPasses_3 rfl ?_
  refine r_callVX hX dL_fewestPasses_4 (s_X7_fewestPasses E g m x O hO u hw hu a1) ml_L_88 mk_L_88 rfl rfl b0.1 rfl ⟨Nat.le_of_ble_eq_true rfl, Nat.le_of_ble_eq_true rfl⟩ ⟨Nat.le_of_ble_eq_true rfl, Nat.le_of_ble_eq_true rfl, rfl, Nat.le_of_ble_eq_true rfl⟩ (fun v4 g4 m4 hp => ?_) (fun nm gx mx hp => ?_)
  rotate_left
  · obtain ⟨⟨k9, hk9, hn9⟩, hO9, hF9⟩ := hp
    rcases k9 with _ | k9
    · have e9 : "java/lang/IllegalArgumentException" = nm := Option.some.inj hn9
      subst e9
      refine r_catch (name := "java/lang/IllegalArgumentException") hX [] ⟨0, 9, 12, 13⟩ [] rfl (fun z hz => absurd hz List.not_mem_nil) rfl (by decide) ⟨List.mem_of_getElem? (i := 896) (by decide +kernel), by decide +kernel⟩ ⟨List.mem_of_getElem? (i := 469) (by decide +kernel), by decide +kernel⟩ (fun q => ?_)
      refine r_astore_n hX dL_fewestPasses_12 (Nat.le_of_ble_eq_true rfl) rfl ?_
      refine r_iconst (v := 1) hX dL_fewestPasses_13 (by decide) ?_
      exact r_x (r_iret hX dL_fewestPasses_14 ⟨by rw [hk9]; rfl, hO9, hF9.mono (fun a h => Or.inl h), fun h => absurd (hk9.symm.trans h) (by decide), by rw [hk9]; decide⟩ ⟨Nat.le_of_ble_eq_true rfl, Nat.le_of_ble_eq_true rfl⟩)
    · exact absurd hn9 (by simp)
  obtain ⟨h0, hv, hO1, hF1⟩ := hp
  subst v4
  refine r_i2l hX dL_fewestPasses_7 ?_
  refine r_lastore hX dL_fewestPasses_8 (hF1.gAt hwg (hk w _ hwg)) (pk_in 0 1 (by decide)) ?_
  refine r_goto (tgt := 15) hX dL_fewestPasses_9 (by decide) ?_
  refine r_iconst (v := 0) hX dL_fewestPasses_15 (by decide) ?_
  exact r_x (r_iret hX dL_fewestPasses_16 ⟨by rw [h0]; rfl, hO1, (hF1.mono (fun a h => Or.inl h)).tr (frp_wJ (Or.inr rfl)), fun _ => qJ_wJ_s _ _ _ _, by rw [h0]; decide⟩ ⟨Nat.le_of_ble_eq_true rfl, Nat.le_of_ble_eq_true rfl⟩)
set_option maxRecDepth 20000 in
set_option maxHeartbeats 4000000 in
theorem s_L_dust (E : qE) (g : qG) (m : qM) (x : Nat) (O : kO) (hO : ObsV g m x O) (u : Nat) (hw : WfO u O) (hu : u ≤ 6144) (a1 : Int32) (w : Nat) (hwg : gAt g w (.inr (3, 1))) : SpH E yL_dust cL_dust 4 (some .int) [(0, 9, 12, 38)] 9 1 6 [.ref x, .int a1, .ref w] g m (pH x w g m (qDust O a1)) := by
  refine SpH.of (by decide) [some (.ref x), some (.int a1), some (.ref w), none] rfl rfl (Nat.le_of_ble_eq_true rfl) (fun X hX => ?_)
  have b0 := hO.1
  refine r_known (fun hk => ?_)
  refine r_aload_n hX dL_dust_0 rfl ?_
  refine r_iconst (v := 0) hX dL_dust_1 (by decide) ?_
  refine r_aload_n hX dL_dust_2 rfl ?_
  refine r_iload_n hX dL_dust_3 rfl ?_
  refine r_callVX hX dL_dust_4 (s_X7_dust E g m x O hO u hw hu a1) ml_L_91 mk_L_91 rfl rfl b0.1 rfl ⟨Nat.le_of_ble_eq_true rfl, Nat.le_of_ble_eq_true rfl⟩ ⟨Nat.le_of_ble_eq_true rfl, Nat.le_of_ble_eq_true rfl, rfl, Nat.le_of_ble_eq_true rfl⟩ (fun v4 g4 m4 hp => ?_) (fun nm gx mx hp => ?_)
  rotate_left
  · obtain ⟨⟨k9, hk9, hn9⟩, hO9, hF9⟩ := hp
    rcases k9 with _ | k9
    · have e9 : "java/lang/IndexOutOfBoundsException" = nm := Option.some.inj hn9
      subst e9
      refine r_catch (name := "java/lang/IndexOutOfBoundsException") hX [] ⟨0, 9, 12, 38⟩ [] rfl (fun z hz => absurd hz List.not_mem_nil) rfl (by decide) ⟨List.mem_of_getElem? (i := 1063) (by decide +kernel), by decide +kernel⟩ ⟨List.mem_of_getElem? (i := 1075) (by decide +kernel), by decide +kernel⟩ (fun q => ?_)
      refine r_astore_n hX dL_dust_12 (Nat.le_of_ble_eq_true rfl) rfl ?_
      refine r_iconst (v := 1) hX dL_dust_13 (by decide) ?_
      exact r_x (r_iret hX dL_dust_14 ⟨by rw [hk9]; rfl, hO9, hF9.mono (fun a h => Or.inl h), fun h => absurd (hk9.symm.trans h) (by decide), by rw [hk9]; decide⟩ ⟨Nat.le_of_ble_eq_true rfl, Nat.le_of_ble_eq_true rfl⟩)
    · exact absurd hn9 (by simp)
  obtain ⟨h0, hv, hO1, hF1⟩ := hp
  subst v4
  refine r_i2l hX dL_dust_7 ?_
  refine r_lastore hX dL_dust_8 (hF1.gAt hwg (hk w _ hwg)) (pk_in 0 1 (by decide)) ?_
  refine r_goto (tgt := 15) hX dL_dust_9 (by decide) ?_
  refine r_iconst (v := 0) hX dL_dust_15 (by decide) ?_
  exact r_x (r_iret hX dL_dust_16 ⟨by rw [h0]; rfl, hO1, (hF1.mono (fun a h => Or.inl h)).tr (frp_wJ (Or.inr rfl)), fun _ => qJ_wJ_s _ _ _ _, by rw [h0]; decide⟩ ⟨Nat.le_of_ble_eq_true rfl, Nat.le_of_ble_eq_true rfl⟩)
set_option maxRecDepth 20000 in
set_option maxHeartbeats 4000000 in
theorem s_L_gain (E : qE) (g : qG) (m : qM) (x : Nat) (O : kO) (hO : ObsV g m x O) (u : Nat) (hw : WfO u O) (hu : u ≤ 6144) (a1 a2 : Int32) (w : Nat) (hwg : gAt g w (.inr (3, 1))) : SpH E yL_gain cL_gain 5 (some .int) [(0, 10, 13, 38), (0, 10, 17, 13)] 9 1 6 [.ref x, .int a1, .int a2, .ref w] g m (pH x w g m (qGain O a1 a2)) := by
  refine SpH.of (by decide) [some (.ref x), some (.int a1), some (.int a2), some (.ref w), none] rfl rfl (Nat.le_of_ble_eq_true rfl) (fun X hX => ?_)
  have b0 := hO.1
  refine r_known (fun hk => ?_)
  refine r_aload_n hX dL_gain_0 rfl ?_
  refine r_iconst (v := 0) hX dL_gain_1 (by decide) ?_
  refine r_aload_n hX dL_gain_2 rfl ?_
  refine r_iload_n hX dL_gain_3 rfl ?_
  refine r_iload_n hX dL_gain_4 rfl ?_
  refine r_callVX hX dL_gain_5 (s_X7_gain E g m x O hO u hw hu a1 a2) ml_L_94 mk_L_94 rfl rfl b0.1 rfl ⟨Nat.le_of_ble_eq_true rfl, Nat.le_of_ble_eq_true rfl⟩ ⟨Nat.le_of_ble_eq_true rfl, Nat.le_of_ble_eq_true rfl, rfl, Nat.le_of_ble_eq_true rfl⟩ (fun v5 g5 m5 hp => ?_) (fun nm gx mx hp => ?_)
  rotate_left
  · obtain ⟨⟨k9, hk9, hn9⟩, hO9, hF9⟩ := hp
    rcases k9 with _ | _ | k9
    · have e9 : "java/lang/IndexOutOfBoundsException" = nm := Option.some.inj hn9
      subst e9
      refine r_catch (name := "java/lang/IndexOutOfBoundsException") hX [] ⟨0, 10, 13, 38⟩ [⟨0, 10, 17, 13⟩] rfl (fun z hz => absurd hz List.not_mem_nil) rfl (by decide) ⟨List.mem_of_getElem? (i := 1063) (by decide +kernel), by decide +kernel⟩ ⟨List.mem_of_getElem? (i := 1075) (by decide +kernel), by decide +kernel⟩ (fun q => ?_)
      refine r_astore hX dL_gain_13 (Nat.le_of_ble_eq_true rfl) rfl ?_
      refine r_iconst (v := 1) hX dL_gain_15 (by decide) ?_
      exact r_x (r_iret hX dL_gain_16 ⟨by rw [hk9]; rfl, hO9, hF9.mono (fun a h => Or.inl h), fun h => absurd (hk9.symm.trans h) (by decide), by rw [hk9]; decide⟩ ⟨Nat.le_of_ble_eq_true rfl, Nat.le_of_ble_eq_true rfl⟩)
    · have e9 : "java/lang/IllegalArgumentException" = nm := Option.some.inj hn9
      subst e9
      refine r_catch (name := "java/lang/IllegalArgumentException") hX [⟨0, 10, 13, 38⟩] ⟨0, 10, 17, 13⟩ [] rfl (fun z hz => by
        rcases List.mem_cons.mp hz with rfl | hz
        · exact ⟨by decide, "java/lang/IndexOutOfBoundsException", ⟨List.mem_of_getElem? (i := 1063) (by decide +kernel), by decide +kernel⟩, List.mem_of_getElem? (i := 6) rfl⟩
        exact absurd hz List.not_mem_nil) rfl (by decide) ⟨List.mem_of_getElem? (i := 896) (by decide +kernel), by decide +kernel⟩ ⟨List.mem_of_getElem? (i := 469) (by decide +kernel), by decide +kernel⟩ (fun q => ?_)
      refine r_astore hX dL_gain_17 (Nat.le_of_ble_eq_true rfl) rfl ?_
      refine r_iconst (v := 2) hX dL_gain_19 (by decide) ?_
      exact r_x (r_iret hX dL_gain_20 ⟨by rw [hk9]; rfl, hO9, hF9.mono (fun a h => Or.inl h), fun h => absurd (hk9.symm.trans h) (by decide), by rw [hk9]; decide⟩ ⟨Nat.le_of_ble_eq_true rfl, Nat.le_of_ble_eq_true rfl⟩)
    · exact absurd hn9 (by simp)
  obtain ⟨h0, hv, hO1, hF1⟩ := hp
  subst v5
  refine r_i2l hX dL_gain_8 ?_
  refine r_lastore hX dL_gain_9 (hF1.gAt hwg (hk w _ hwg)) (pk_in 0 1 (by decide)) ?_
  refine r_goto (tgt := 21) hX dL_gain_10 (by decide) ?_
  refine r_iconst (v := 0) hX dL_gain_21 (by decide) ?_
  exact r_x (r_iret hX dL_gain_22 ⟨by rw [h0]; rfl, hO1, (hF1.mono (fun a h => Or.inl h)).tr (frp_wJ (Or.inr rfl)), fun _ => qJ_wJ_s _ _ _ _, by rw [h0]; decide⟩ ⟨Nat.le_of_ble_eq_true rfl, Nat.le_of_ble_eq_true rfl⟩)
set_option maxRecDepth 20000 in
set_option maxHeartbeats 4000000 in
theorem s_L_meanBrightness (E : qE) (g : qG) (m : qM) (x : Nat) (O : kO) (hO : ObsV g m x O) (u : Nat) (hw : WfO u O) (hu : u ≤ 6144) (w : Nat) (hwg : gAt g w (.inr (4, 1))) : SpH E yL_meanBrightness cL_meanBrightness 3 (some .int) [(0, 7, 10, 80)] 9 1 6 [.ref x, .ref w] g m (pHD x w g m (qMea O)) := by
  refine SpH.of (by decide) [some (.ref x), some (.ref w), none] rfl rfl (Nat.le_of_ble_eq_true rfl) (fun X hX => ?_)
  have b0 := hO.1
  refine r_known (fun hk => ?_)
  refine r_aload_n hX dL_meanBrightness_0 rfl ?_
  refine r_iconst (v := 0) hX dL_meanBrightness_1 (by decide) ?_
  refine r_aload_n hX dL_meanBrightness_2 rfl ?_
  refine r_callVX hX dL_meanBrightness_3 (s_X7_meanBrightness E g m x O hO u hw hu) ml_L_97 mk_L_97 rfl rfl b0.1 rfl ⟨Nat.le_of_ble_eq_true rfl, Nat.le_of_ble_eq_true rfl⟩ ⟨Nat.le_of_ble_eq_true rfl, Nat.le_of_ble_eq_true rfl, rfl, Nat.le_of_ble_eq_true rfl⟩ (fun v3 g3 m3 hp => ?_) (fun nm gx mx hp => ?_)
  rotate_left
  · obtain ⟨⟨k9, hk9, hn9⟩, hO9, hF9⟩ := hp
    rcases k9 with _ | k9
    · have e9 : "java/lang/ArithmeticException" = nm := Option.some.inj hn9
      subst e9
      refine r_catch (name := "java/lang/ArithmeticException") hX [] ⟨0, 7, 10, 80⟩ [] rfl (fun z hz => absurd hz List.not_mem_nil) rfl (by decide) ⟨List.mem_of_getElem? (i := 1240) (by decide +kernel), by decide +kernel⟩ ⟨List.mem_of_getElem? (i := 1252) (by decide +kernel), by decide +kernel⟩ (fun q => ?_)
      refine r_astore_n hX dL_meanBrightness_10 (Nat.le_of_ble_eq_true rfl) rfl ?_
      refine r_iconst (v := 1) hX dL_meanBrightness_11 (by decide) ?_
      exact r_x (r_iret hX dL_meanBrightness_12 ⟨by rw [hk9]; rfl, hO9, hF9.mono (fun a h => Or.inl h), fun h => absurd (hk9.symm.trans h) (by decide), by rw [hk9]; decide⟩ ⟨Nat.le_of_ble_eq_true rfl, Nat.le_of_ble_eq_true rfl⟩)
    · exact absurd hn9 (by simp)
  obtain ⟨h0, hv, hO1, hF1⟩ := hp
  subst v3
  have eV : ∃ v9, (qMea O).2.1 = .double v9 := by
    unfold qMea at h0 ⊢
    by_cases h9 : O.1.1.length = 0
    · rw [if_pos h9] at h0; exact absurd h0 Nat.one_ne_zero
    · rw [if_neg h9]; exact ⟨_, rfl⟩
  obtain ⟨v9, eV⟩ := eV
  rw [eV]
  refine r_dastore hX dL_meanBrightness_6 (hF1.gAt hwg (hk w _ hwg)) (pk_in 0 1 (by decide)) ?_
  refine r_goto (tgt := 13) hX dL_meanBrightness_7 (by decide) ?_
  refine r_iconst (v := 0) hX dL_meanBrightness_13 (by decide) ?_
  exact r_x (r_iret hX dL_meanBrightness_14 ⟨by rw [h0]; rfl, hO1, (hF1.mono (fun a h => Or.inl h)).tr (frp_wD (Or.inr rfl)), fun _ => eV.trans (congrArg Value.double (qD_wD_s _ _ _ _).symm), by rw [h0]; decide⟩ ⟨Nat.le_of_ble_eq_true rfl, Nat.le_of_ble_eq_true rfl⟩)
set_option maxRecDepth 20000 in
set_option maxHeartbeats 4000000 in
theorem s_L_append (E : qE) (g : qG) (m : qM) (x : Nat) (O : kO) (hO : ObsV g m x O) (u : Nat) (hw : WfO u O) (hu : u ≤ 6144) (e : Nat) (he : e < 65536) (w : Nat) (hwg : gAt g w (.inr (3, 1))) : SpH E yL_append cL_append 4 (some .int) [(0, 9, 12, 15)] 9 1 6 [.ref x, .int (nI e), .ref w] g m (pH x w g m (appO O e)) := by
  refine SpH.of (by decide) [some (.ref x), some (.int (nI e)), some (.ref w), none] rfl rfl (Nat.le_of_ble_eq_true rfl) (fun X hX => ?_)
  have b0 := hO.1
  refine r_known (fun hk => ?_)
  refine r_aload_n hX dL_append_0 rfl ?_
  refine r_iconst (v := 0) hX dL_append_1 (by decide) ?_
  refine r_aload_n hX dL_append_2 rfl ?_
  refine r_iload_n hX dL_append_3 rfl ?_
  refine r_callVX hX dL_append_4 (s_X7_append E g m x O hO u hw hu e he) ml_L_101 mk_L_101 rfl rfl b0.1 rfl ⟨Nat.le_of_ble_eq_true rfl, Nat.le_of_ble_eq_true rfl⟩ ⟨Nat.le_of_ble_eq_true rfl, Nat.le_of_ble_eq_true rfl, rfl, Nat.le_of_ble_eq_true rfl⟩ (fun v4 g4 m4 hp => ?_) (fun nm gx mx hp => ?_)
  rotate_left
  · obtain ⟨⟨k9, hk9, hn9⟩, hO9, hF9⟩ := hp
    rcases k9 with _ | k9
    · have e9 : "java/lang/IllegalStateException" = nm := Option.some.inj hn9
      subst e9
      refine r_catch (name := "java/lang/IllegalStateException") hX [] ⟨0, 9, 12, 15⟩ [] rfl (fun z hz => absurd hz List.not_mem_nil) rfl (by decide) ⟨List.mem_of_getElem? (i := 897) (by decide +kernel), by decide +kernel⟩ ⟨List.mem_of_getElem? (i := 918) (by decide +kernel), by decide +kernel⟩ (fun q => ?_)
      refine r_astore_n hX dL_append_12 (Nat.le_of_ble_eq_true rfl) rfl ?_
      refine r_iconst (v := 1) hX dL_append_13 (by decide) ?_
      exact r_x (r_iret hX dL_append_14 ⟨by rw [hk9]; rfl, hO9, hF9.mono (fun a h => Or.inl h), fun h => absurd (hk9.symm.trans h) (by decide), by rw [hk9]; decide⟩ ⟨Nat.le_of_ble_eq_true rfl, Nat.le_of_ble_eq_true rfl⟩)
    · exact absurd hn9 (by simp)
  obtain ⟨h0, hv, hO1, hF1⟩ := hp
  subst v4
  refine r_i2l hX dL_append_7 ?_
  refine r_lastore hX dL_append_8 (hF1.gAt hwg (hk w _ hwg)) (pk_in 0 1 (by decide)) ?_
  refine r_goto (tgt := 15) hX dL_append_9 (by decide) ?_
  refine r_iconst (v := 0) hX dL_append_15 (by decide) ?_
  exact r_x (r_iret hX dL_append_16 ⟨by rw [h0]; rfl, hO1, (hF1.mono (fun a h => Or.inl h)).tr (frp_wJ (Or.inr rfl)), fun _ => qJ_wJ_s _ _ _ _, by rw [h0]; decide⟩ ⟨Nat.le_of_ble_eq_true rfl, Nat.le_of_ble_eq_true rfl⟩)
set_option maxRecDepth 20000 in
set_option maxHeartbeats 4000000 in
theorem s_L_run (E : qE) (g : qG) (m : qM) (x : Nat) (O : kO) (hO : ObsV g m x O) (u : Nat) (hw : WfO u O) (hu : u ≤ 6144) (w : Nat) (hwg : gAt g w (.inr (3, 1))) : SpH E yL_run cL_run 3 (some .int) [(0, 8, 11, 13), (0, 8, 14, 30)] 11 2 12 [.ref x, .ref w] g m (pH x w g m (runO O)) := by
  refine SpH.of (by decide) [some (.ref x), some (.ref w), none] rfl rfl (Nat.le_of_ble_eq_true rfl) (fun X hX => ?_)
  have b0 := hO.1
  refine r_known (fun hk => ?_)
  refine r_aload_n hX dL_run_0 rfl ?_
  refine r_iconst (v := 0) hX dL_run_1 (by decide) ?_
  refine r_aload_n hX dL_run_2 rfl ?_
  refine r_callVX hX dL_run_3 (s_X7_run E g m x O hO u hw hu) ml_L_105 mk_L_105 rfl rfl b0.1 rfl ⟨Nat.le_of_ble_eq_true rfl, Nat.le_of_ble_eq_true rfl⟩ ⟨Nat.le_of_ble_eq_true rfl, Nat.le_of_ble_eq_true rfl, rfl, Nat.le_of_ble_eq_true rfl⟩ (fun v3 g3 m3 hp => ?_) (fun nm gx mx hp => ?_)
  rotate_left
  · obtain ⟨⟨k9, hk9, hn9⟩, hO9, hF9⟩ := hp
    rcases k9 with _ | _ | k9
    · have e9 : "java/lang/IllegalArgumentException" = nm := Option.some.inj hn9
      subst e9
      refine r_catch (name := "java/lang/IllegalArgumentException") hX [] ⟨0, 8, 11, 13⟩ [⟨0, 8, 14, 30⟩] rfl (fun z hz => absurd hz List.not_mem_nil) rfl (by decide) ⟨List.mem_of_getElem? (i := 896) (by decide +kernel), by decide +kernel⟩ ⟨List.mem_of_getElem? (i := 469) (by decide +kernel), by decide +kernel⟩ (fun q => ?_)
      refine r_astore_n hX dL_run_11 (Nat.le_of_ble_eq_true rfl) rfl ?_
      refine r_iconst (v := 1) hX dL_run_12 (by decide) ?_
      exact r_x (r_iret hX dL_run_13 ⟨by rw [hk9]; rfl, hO9, hF9.mono (fun a h => Or.inl h), fun h => absurd (hk9.symm.trans h) (by decide), by rw [hk9]; decide⟩ ⟨Nat.le_of_ble_eq_true rfl, Nat.le_of_ble_eq_true rfl⟩)
    · have e9 : "java/lang/UnsupportedOperationException" = nm := Option.some.inj hn9
      subst e9
      refine r_catch (name := "java/lang/UnsupportedOperationException") hX [⟨0, 8, 11, 13⟩] ⟨0, 8, 14, 30⟩ [] rfl (fun z hz => by
        rcases List.mem_cons.mp hz with rfl | hz
        · exact ⟨by decide, "java/lang/IllegalArgumentException", ⟨List.mem_of_getElem? (i := 896) (by decide +kernel), by decide +kernel⟩, List.mem_of_getElem? (i := 4) rfl⟩
        exact absurd hz List.not_mem_nil) rfl (by decide) ⟨List.mem_of_getElem? (i := 995) (by decide +kernel), by decide +kernel⟩ ⟨List.mem_of_getElem? (i := 1015) (by decide +kernel), by decide +kernel⟩ (fun q => ?_)
      refine r_astore_n hX dL_run_14 (Nat.le_of_ble_eq_true rfl) rfl ?_
      refine r_iconst (v := 2) hX dL_run_15 (by decide) ?_
      exact r_x (r_iret hX dL_run_16 ⟨by rw [hk9]; rfl, hO9, hF9.mono (fun a h => Or.inl h), fun h => absurd (hk9.symm.trans h) (by decide), by rw [hk9]; decide⟩ ⟨Nat.le_of_ble_eq_true rfl, Nat.le_of_ble_eq_true rfl⟩)
    · exact absurd hn9 (by simp)
  obtain ⟨h0, hv, hO1, hF1⟩ := hp
  subst v3
  refine r_i2l hX dL_run_6 ?_
  refine r_lastore hX dL_run_7 (hF1.gAt hwg (hk w _ hwg)) (pk_in 0 1 (by decide)) ?_
  refine r_goto (tgt := 17) hX dL_run_8 (by decide) ?_
  refine r_iconst (v := 0) hX dL_run_17 (by decide) ?_
  exact r_x (r_iret hX dL_run_18 ⟨by rw [h0]; rfl, hO1, (hF1.mono (fun a h => Or.inl h)).tr (frp_wJ (Or.inr rfl)), fun _ => qJ_wJ_s _ _ _ _, by rw [h0]; decide⟩ ⟨Nat.le_of_ble_eq_true rfl, Nat.le_of_ble_eq_true rfl⟩)
set_option maxRecDepth 20000 in
set_option maxHeartbeats 4000000 in
theorem s_L_errorPosition (E : qE) (g : qG) (m : qM) (x : Nat) (O : kO) (hO : ObsV g m x O) (u : Nat) (hw : WfO u O) (hu : u ≤ 6144) (w : Nat) (hwg : gAt g w (.inr (3, 1))) : SpH E yL_errorPosition cL_errorPosition 3 (some .int) [(0, 8, 11, 21)] 9 1 6 [.ref x, .ref w] g m (pH x w g m (qErr O)) := by
  refine SpH.of (by decide) [some (.ref x), some (.ref w), none] rfl rfl (Nat.le_of_ble_eq_true rfl) (fun X hX => ?_)
  have b0 := hO.1
  refine r_known (fun hk => ?_)
  refine r_aload_n hX dL_errorPosition_0 rfl ?_
  refine r_iconst (v := 0) hX dL_errorPosition_1 (by decide) ?_
  refine r_aload_n hX dL_errorPosition_2 rfl ?_
  refine r_callVX hX dL_errorPosition_3 (s_X7_errorPosition E g m x O hO u hw hu) ml_L_109 mk_L_109 rfl rfl b0.1 rfl ⟨Nat.le_of_ble_eq_true rfl, Nat.le_of_ble_eq_true rfl⟩ ⟨Nat.le_of_ble_eq_true rfl, Nat.le_of_ble_eq_true rfl, rfl, Nat.le_of_ble_eq_true rfl⟩ (fun v3 g3 m3 hp => ?_) (fun nm gx mx hp => ?_)
  rotate_left
  · obtain ⟨⟨k9, hk9, hn9⟩, hO9, hF9⟩ := hp
    rcases k9 with _ | k9
    · have e9 : "java/util/NoSuchElementException" = nm := Option.some.inj hn9
      subst e9
      refine r_catch (name := "java/util/NoSuchElementException") hX [] ⟨0, 8, 11, 21⟩ [] rfl (fun z hz => absurd hz List.not_mem_nil) rfl (by decide) ⟨List.mem_of_getElem? (i := 946) (by decide +kernel), by decide +kernel⟩ ⟨List.mem_of_getElem? (i := 962) (by decide +kernel), by decide +kernel⟩ (fun q => ?_)
      refine r_astore_n hX dL_errorPosition_11 (Nat.le_of_ble_eq_true rfl) rfl ?_
      refine r_iconst (v := 1) hX dL_errorPosition_12 (by decide) ?_
      exact r_x (r_iret hX dL_errorPosition_13 ⟨by rw [hk9]; rfl, hO9, hF9.mono (fun a h => Or.inl h), fun h => absurd (hk9.symm.trans h) (by decide), by rw [hk9]; decide⟩ ⟨Nat.le_of_ble_eq_true rfl, Nat.le_of_ble_eq_true rfl⟩)
    · exact absurd hn9 (by simp)
  obtain ⟨h0, hv, hO1, hF1⟩ := hp
  subst v3
  refine r_i2l hX dL_errorPosition_6 ?_
  refine r_lastore hX dL_errorPosition_7 (hF1.gAt hwg (hk w _ hwg)) (pk_in 0 1 (by decide)) ?_
  refine r_goto (tgt := 14) hX dL_errorPosition_8 (by decide) ?_
  refine r_iconst (v := 0) hX dL_errorPosition_14 (by decide) ?_
  exact r_x (r_iret hX dL_errorPosition_15 ⟨by rw [h0]; rfl, hO1, (hF1.mono (fun a h => Or.inl h)).tr (frp_wJ (Or.inr rfl)), fun _ => qJ_wJ_s _ _ _ _, by rw [h0]; decide⟩ ⟨Nat.le_of_ble_eq_true rfl, Nat.le_of_ble_eq_true rfl⟩)
set_option maxRecDepth 20000 in
set_option maxHeartbeats 4000000 in
theorem s_L_failedCommand (E : qE) (g : qG) (m : qM) (x : Nat) (O : kO) (hO : ObsV g m x O) (u : Nat) (hw : WfO u O) (hu : u ≤ 6144) (w : Nat) (hwg : gAt g w (.inr (3, 1))) : SpH E yL_failedCommand cL_failedCommand 3 (some .int) [(0, 8, 11, 21)] 9 1 6 [.ref x, .ref w] g m (pH x w g m (qFail O)) := by
  refine SpH.of (by decide) [some (.ref x), some (.ref w), none] rfl rfl (Nat.le_of_ble_eq_true rfl) (fun X hX => ?_)
  have b0 := hO.1
  refine r_known (fun hk => ?_)
  refine r_aload_n hX dL_failedCommand_0 rfl ?_
  refine r_iconst (v := 0) hX dL_failedCommand_1 (by decide) ?_
  refine r_aload_n hX dL_failedCommand_2 rfl ?_
  refine r_callVX hX dL_failedCommand_3 (s_X7_failedCommand E g m x O hO u hw hu) ml_L_112 mk_L_112 rfl rfl b0.1 rfl ⟨Nat.le_of_ble_eq_true rfl, Nat.le_of_ble_eq_true rfl⟩ ⟨Nat.le_of_ble_eq_true rfl, Nat.le_of_ble_eq_true rfl, rfl, Nat.le_of_ble_eq_true rfl⟩ (fun v3 g3 m3 hp => ?_) (fun nm gx mx hp => ?_)
  rotate_left
  · obtain ⟨⟨k9, hk9, hn9⟩, hO9, hF9⟩ := hp
    rcases k9 with _ | k9
    · have e9 : "java/util/NoSuchElementException" = nm := Option.some.inj hn9
      subst e9
      refine r_catch (name := "java/util/NoSuchElementException") hX [] ⟨0, 8, 11, 21⟩ [] rfl (fun z hz => absurd hz List.not_mem_nil) rfl (by decide) ⟨List.mem_of_getElem? (i := 946) (by decide +kernel), by decide +kernel⟩ ⟨List.mem_of_getElem? (i := 962) (by decide +kernel), by decide +kernel⟩ (fun q => ?_)
      refine r_astore_n hX dL_failedCommand_11 (Nat.le_of_ble_eq_true rfl) rfl ?_
      refine r_iconst (v := 1) hX dL_failedCommand_12 (by decide) ?_
      exact r_x (r_iret hX dL_failedCommand_13 ⟨by rw [hk9]; rfl, hO9, hF9.mono (fun a h => Or.inl h), fun h => absurd (hk9.symm.trans h) (by decide), by rw [hk9]; decide⟩ ⟨Nat.le_of_ble_eq_true rfl, Nat.le_of_ble_eq_true rfl⟩)
    · exact absurd hn9 (by simp)
  obtain ⟨h0, hv, hO1, hF1⟩ := hp
  subst v3
  refine r_i2l hX dL_failedCommand_6 ?_
  refine r_lastore hX dL_failedCommand_7 (hF1.gAt hwg (hk w _ hwg)) (pk_in 0 1 (by decide)) ?_
  refine r_goto (tgt := 14) hX dL_failedCommand_8 (by decide) ?_
  refine r_iconst (v := 0) hX dL_failedCommand_14 (by decide) ?_
  exact r_x (r_iret hX dL_failedCommand_15 ⟨by rw [h0]; rfl, hO1, (hF1.mono (fun a h => Or.inl h)).tr (frp_wJ (Or.inr rfl)), fun _ => qJ_wJ_s _ _ _ _, by rw [h0]; decide⟩ ⟨Nat.le_of_ble_eq_true rfl, Nat.le_of_ble_eq_true rfl⟩)
set_option maxRecDepth 20000 in
set_option maxHeartbeats 4000000 in
theorem s_L_writeComet (E : qE) (g : qG) (m : qM) (x : Nat) (O : kO) (hO : ObsV g m x O) (u : Nat) (hw : WfO u O) (hu : u ≤ 6144) (a1 : Int32) (w : Nat) (hwg : gAt g w (.inr (3, 1))) : SpH E yL_writeComet cL_writeComet 4 (some .int) [(0, 9, 12, 21)] 10 9 2400 [.ref x, .int a1, .ref w] g m (pH x w g m (wcO O a1)) := by
  refine SpH.of (by decide) [some (.ref x), some (.int a1), some (.ref w), none] rfl rfl (Nat.le_of_ble_eq_true rfl) (fun X hX => ?_)
  have b0 := hO.1
  refine r_known (fun hk => ?_)
  refine r_aload_n hX dL_writeComet_0 rfl ?_
  refine r_iconst (v := 0) hX dL_writeComet_1 (by decide) ?_
  refine r_aload_n hX dL_writeComet_2 rfl ?_
  refine r_iload_n hX dL_writeComet_3 rfl ?_
  refine r_callVX hX dL_writeComet_4 (s_X7_writeComet E g m x O hO u hw hu a1) ml_L_115 mk_L_115 rfl rfl b0.1 rfl ⟨Nat.le_of_ble_eq_true rfl, Nat.le_of_ble_eq_true rfl⟩ ⟨Nat.le_of_ble_eq_true rfl, Nat.le_of_ble_eq_true rfl, rfl, Nat.le_of_ble_eq_true rfl⟩ (fun v4 g4 m4 hp => ?_) (fun nm gx mx hp => ?_)
  rotate_left
  · obtain ⟨⟨k9, hk9, hn9⟩, hO9, hF9⟩ := hp
    rcases k9 with _ | k9
    · have e9 : "java/util/NoSuchElementException" = nm := Option.some.inj hn9
      subst e9
      refine r_catch (name := "java/util/NoSuchElementException") hX [] ⟨0, 9, 12, 21⟩ [] rfl (fun z hz => absurd hz List.not_mem_nil) rfl (by decide) ⟨List.mem_of_getElem? (i := 946) (by decide +kernel), by decide +kernel⟩ ⟨List.mem_of_getElem? (i := 962) (by decide +kernel), by decide +kernel⟩ (fun q => ?_)
      refine r_astore_n hX dL_writeComet_12 (Nat.le_of_ble_eq_true rfl) rfl ?_
      refine r_iconst (v := 1) hX dL_writeComet_13 (by decide) ?_
      exact r_x (r_iret hX dL_writeComet_14 ⟨by rw [hk9]; rfl, hO9, hF9.mono (fun a h => Or.inl h), fun h => absurd (hk9.symm.trans h) (by decide), by rw [hk9]; decide⟩ ⟨Nat.le_of_ble_eq_true rfl, Nat.le_of_ble_eq_true rfl⟩)
    · exact absurd hn9 (by simp)
  obtain ⟨h0, hv, hO1, hF1⟩ := hp
  subst v4
  refine r_i2l hX dL_writeComet_7 ?_
  refine r_lastore hX dL_writeComet_8 (hF1.gAt hwg (hk w _ hwg)) (pk_in 0 1 (by decide)) ?_
  refine r_goto (tgt := 15) hX dL_writeComet_9 (by decide) ?_
  refine r_iconst (v := 0) hX dL_writeComet_15 (by decide) ?_
  exact r_x (r_iret hX dL_writeComet_16 ⟨by rw [h0]; rfl, hO1, (hF1.mono (fun a h => Or.inl h)).tr (frp_wJ (Or.inr rfl)), fun _ => qJ_wJ_s _ _ _ _, by rw [h0]; decide⟩ ⟨Nat.le_of_ble_eq_true rfl, Nat.le_of_ble_eq_true rfl⟩)
set_option maxRecDepth 20000 in
set_option maxHeartbeats 4000000 in
theorem s_L_outputAt (E : qE) (g : qG) (m : qM) (x : Nat) (O : kO) (hO : ObsV g m x O) (u : Nat) (hw : WfO u O) (hu : u ≤ 6144) (a1 : Int32) (w : Nat) (hwg : gAt g w (.inr (3, 1))) : SpH E yL_outputAt cL_outputAt 4 (some .int) [(0, 9, 12, 38)] 9 1 6 [.ref x, .int a1, .ref w] g m (pH x w g m (qOut O a1)) := by
  refine SpH.of (by decide) [some (.ref x), some (.int a1), some (.ref w), none] rfl rfl (Nat.le_of_ble_eq_true rfl) (fun X hX => ?_)
  have b0 := hO.1
  refine r_known (fun hk => ?_)
  refine r_aload_n hX dL_outputAt_0 rfl ?_
  refine r_iconst (v := 0) hX dL_outputAt_1 (by decide) ?_
  refine r_aload_n hX dL_outputAt_2 rfl ?_
  refine r_iload_n hX dL_outputAt_3 rfl ?_
  refine r_callVX hX dL_outputAt_4 (s_X7_outputAt E g m x O hO u hw hu a1) ml_L_118 mk_L_118 rfl rfl b0.1 rfl ⟨Nat.le_of_ble_eq_true rfl, Nat.le_of_ble_eq_true rfl⟩ ⟨Nat.le_of_ble_eq_true rfl, Nat.le_of_ble_eq_true rfl, rfl, Nat.le_of_ble_eq_true rfl⟩ (fun v4 g4 m4 hp => ?_) (fun nm gx mx hp => ?_)
  rotate_left
  · obtain ⟨⟨k9, hk9, hn9⟩, hO9, hF9⟩ := hp
    rcases k9 with _ | k9
    · have e9 : "java/lang/IndexOutOfBoundsException" = nm := Option.some.inj hn9
      subst e9
      refine r_catch (name := "java/lang/IndexOutOfBoundsException") hX [] ⟨0, 9, 12, 38⟩ [] rfl (fun z hz => absurd hz List.not_mem_nil) rfl (by decide) ⟨List.mem_of_getElem? (i := 1063) (by decide +kernel), by decide +kernel⟩ ⟨List.mem_of_getElem? (i := 1075) (by decide +kernel), by decide +kernel⟩ (fun q => ?_)
      refine r_astore_n hX dL_outputAt_12 (Nat.le_of_ble_eq_true rfl) rfl ?_
      refine r_iconst (v := 1) hX dL_outputAt_13 (by decide) ?_
      exact r_x (r_iret hX dL_outputAt_14 ⟨by rw [hk9]; rfl, hO9, hF9.mono (fun a h => Or.inl h), fun h => absurd (hk9.symm.trans h) (by decide), by rw [hk9]; decide⟩ ⟨Nat.le_of_ble_eq_true rfl, Nat.le_of_ble_eq_true rfl⟩)
    · exact absurd hn9 (by simp)
  obtain ⟨h0, hv, hO1, hF1⟩ := hp
  subst v4
  refine r_i2l hX dL_outputAt_7 ?_
  refine r_lastore hX dL_outputAt_8 (hF1.gAt hwg (hk w _ hwg)) (pk_in 0 1 (by decide)) ?_
  refine r_goto (tgt := 15) hX dL_outputAt_9 (by decide) ?_
  refine r_iconst (v := 0) hX dL_outputAt_15 (by decide) ?_
  exact r_x (r_iret hX dL_outputAt_16 ⟨by rw [h0]; rfl, hO1, (hF1.mono (fun a h => Or.inl h)).tr (frp_wJ (Or.inr rfl)), fun _ => qJ_wJ_s _ _ _ _, by rw [h0]; decide⟩ ⟨Nat.le_of_ble_eq_true rfl, Nat.le_of_ble_eq_true rfl⟩)
set_option maxRecDepth 20000 in
set_option maxHeartbeats 4000000 in
theorem s_L_undo (E : qE) (g : qG) (m : qM) (x : Nat) (O : kO) (hO : ObsV g m x O) (u : Nat) (hw : WfO u O) (hu : u ≤ 6144) (w : Nat) (hwg : gAt g w (.inr (3, 1))) : SpH E yL_undo cL_undo 3 (some .int) [(0, 8, 11, 15)] 9 1 6 [.ref x, .ref w] g m (pH x w g m (undoO O)) := by
  refine SpH.of (by decide) [some (.ref x), some (.ref w), none] rfl rfl (Nat.le_of_ble_eq_true rfl) (fun X hX => ?_)
  have b0 := hO.1
  refine r_known (fun hk => ?_)
  refine r_aload_n hX dL_undo_0 rfl ?_
  refine r_iconst (v := 0) hX dL_undo_1 (by decide) ?_
  refine r_aload_n hX dL_undo_2 rfl ?_
  refine r_callVX hX dL_undo_3 (s_X7_undo E g m x O hO u hw hu) ml_L_122 mk_L_122 rfl rfl b0.1 rfl ⟨Nat.le_of_ble_eq_true rfl, Nat.le_of_ble_eq_true rfl⟩ ⟨Nat.le_of_ble_eq_true rfl, Nat.le_of_ble_eq_true rfl, rfl, Nat.le_of_ble_eq_true rfl⟩ (fun v3 g3 m3 hp => ?_) (fun nm gx mx hp => ?_)
  rotate_left
  · obtain ⟨⟨k9, hk9, hn9⟩, hO9, hF9⟩ := hp
    rcases k9 with _ | k9
    · have e9 : "java/lang/IllegalStateException" = nm := Option.some.inj hn9
      subst e9
      refine r_catch (name := "java/lang/IllegalStateException") hX [] ⟨0, 8, 11, 15⟩ [] rfl (fun z hz => absurd hz List.not_mem_nil) rfl (by decide) ⟨List.mem_of_getElem? (i := 897) (by decide +kernel), by decide +kernel⟩ ⟨List.mem_of_getElem? (i := 918) (by decide +kernel), by decide +kernel⟩ (fun q => ?_)
      refine r_astore_n hX dL_undo_11 (Nat.le_of_ble_eq_true rfl) rfl ?_
      refine r_iconst (v := 1) hX dL_undo_12 (by decide) ?_
      exact r_x (r_iret hX dL_undo_13 ⟨by rw [hk9]; rfl, hO9, hF9.mono (fun a h => Or.inl h), fun h => absurd (hk9.symm.trans h) (by decide), by rw [hk9]; decide⟩ ⟨Nat.le_of_ble_eq_true rfl, Nat.le_of_ble_eq_true rfl⟩)
    · exact absurd hn9 (by simp)
  obtain ⟨h0, hv, hO1, hF1⟩ := hp
  subst v3
  refine r_i2l hX dL_undo_6 ?_
  refine r_lastore hX dL_undo_7 (hF1.gAt hwg (hk w _ hwg)) (pk_in 0 1 (by decide)) ?_
  refine r_goto (tgt := 14) hX dL_undo_8 (by decide) ?_
  refine r_iconst (v := 0) hX dL_undo_14 (by decide) ?_
  exact r_x (r_iret hX dL_undo_15 ⟨by rw [h0]; rfl, hO1, (hF1.mono (fun a h => Or.inl h)).tr (frp_wJ (Or.inr rfl)), fun _ => qJ_wJ_s _ _ _ _, by rw [h0]; decide⟩ ⟨Nat.le_of_ble_eq_true rfl, Nat.le_of_ble_eq_true rfl⟩)
set_option maxRecDepth 20000 in
set_option maxHeartbeats 4000000 in
theorem s_L_restore (E : qE) (g : qG) (m : qM) (x : Nat) (O : kO) (hO : ObsV g m x O) (u : Nat) (hw : WfO u O) (hu : u ≤ 6144) : SpH E yL_restore cL_restore 2 (some .int) [(0, 4, 7, 15)] 9 1 6 [.ref x] g m (pHV x g m (restO O)) := by
  refine SpH.of (by decide) [some (.ref x), none] rfl rfl (Nat.le_of_ble_eq_true rfl) (fun X hX => ?_)
  have b0 := hO.1
  refine r_aload_n hX dL_restore_0 rfl ?_
  refine r_callVX hX dL_restore_1 (s_X7_restore E g m x O hO u hw hu) ml_L_125 mk_L_125 rfl rfl b0.1 rfl ⟨Nat.le_of_ble_eq_true rfl, Nat.le_of_ble_eq_true rfl⟩ ⟨Nat.le_of_ble_eq_true rfl, Nat.le_of_ble_eq_true rfl, rfl, Nat.le_of_ble_eq_true rfl⟩ (fun v1 g1 m1 hp => ?_) (fun nm gx mx hp => ?_)
  rotate_left
  · obtain ⟨⟨k9, hk9, hn9⟩, hO9, hF9⟩ := hp
    rcases k9 with _ | k9
    · have e9 : "java/lang/IllegalStateException" = nm := Option.some.inj hn9
      subst e9
      refine r_catch (name := "java/lang/IllegalStateException") hX [] ⟨0, 4, 7, 15⟩ [] rfl (fun z hz => absurd hz List.not_mem_nil) rfl (by decide) ⟨List.mem_of_getElem? (i := 897) (by decide +kernel), by decide +kernel⟩ ⟨List.mem_of_getElem? (i := 918) (by decide +kernel), by decide +kernel⟩ (fun q => ?_)
      refine r_astore_n hX dL_restore_7 (Nat.le_of_ble_eq_true rfl) rfl ?_
      refine r_iconst (v := 1) hX dL_restore_8 (by decide) ?_
      exact r_x (r_iret hX dL_restore_9 ⟨by rw [hk9]; rfl, hO9, hF9, by rw [hk9]; decide⟩ ⟨Nat.le_of_ble_eq_true rfl, Nat.le_of_ble_eq_true rfl⟩)
    · exact absurd hn9 (by simp)
  obtain ⟨h0, hv, hO1, hF1⟩ := hp
  subst v1
  refine r_goto (tgt := 10) hX dL_restore_4 (by decide) ?_
  refine r_iconst (v := 0) hX dL_restore_10 (by decide) ?_
  exact r_x (r_iret hX dL_restore_11 ⟨by rw [h0]; rfl, hO1, hF1, by rw [h0]; decide⟩ ⟨Nat.le_of_ble_eq_true rfl, Nat.le_of_ble_eq_true rfl⟩)
