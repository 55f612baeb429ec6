/-! ===== CometObservatory.Sky, changes ===== -/
set_option maxRecDepth 20000 in
set_option maxHeartbeats 4000000 in
theorem s_X5_copyFrom_l {E : qE} {X : qX} {Q : State → Prop} {g : qG} {m : qM} (hX : MC E yX5_copyFrom cX5_copyFrom 3 none 1 0 0 [] X) {q q2 : Nat} {ad : Nat → Nat} (hs : SkySh g q) (hr : SkyR m q ad) {ad2 : Nat → Nat} (hs2 : SkySh g q2) (hr2 : SkyR m q2 ad2) {S2 : kS} (hV2 : SkyV m q2 ad2 S2) (hne : q + 10 ≤ q2 ∨ q2 + 10 ≤ q) : ∀ (k i : Nat) (m1 : qM), i + k = 6 → ((∀ k j, k < i → j < 5 → qI m1 (ad k) j = S2.2.1 k j) ∧ (∀ c j, (∀ k, k < 6 → c ≠ ad k) → qI m1 c j = qI m c j) ∧ m1.2 = m.2) → (∀ (j : Int32) (m2 : qM), ((∀ k j, k < 6 → j < 5 → qI m2 (ad k) j = S2.2.1 k j) ∧ (∀ c j, (∀ k, k < 6 → c ≠ ad k) → qI m2 c j = qI m c j) ∧ m2.2 = m.2) → WS E X 0 0 Q g m2 29 [some (.ref q), some (.ref q2), some (.int j)] []) → WS E X 0 0 Q g m1 2 [some (.ref q), some (.ref q2), some (.int (nI i))] [] := by
  intro k
  induction k with
  | zero =>
    intro i m1 hi hm1 K
    have hib : i = 6 := by omega
    subst hib
    refine r_iload_n hX dX5_copyFrom_2 rfl ?_
    refine r_bipush (v := 6) hX dX5_copyFrom_3 (by decide) ?_
    refine r_icmp_ge (tgt := 29) hX dX5_copyFrom_5 (by decide) (fun c5 => ?_) (fun c5 => ?_)
    · exact K _ _ hm1
    · exact absurd (by decide) c5
  | succ k ih =>
    intro i m1 hi hm1 K
    have hi6 : i < 6 := by omega
    have d1 := hr.2.2.2.2.1 i hi6
    have d2 := hr2.2.2.2.2.1 i hi6
    refine r_iload_n hX dX5_copyFrom_2 rfl ?_
    refine r_bipush (v := 6) hX dX5_copyFrom_3 (by decide) ?_
    refine r_icmp_ge (tgt := 29) hX dX5_copyFrom_5 (by decide) (fun c5 => ?_) (fun c5 => ?_)
    · exact absurd c5 (nI_ge (b := 6) (by omega) (by omega))
    · refine r_aload_n hX dX5_copyFrom_8 rfl ?_
      refine r_getR hX dX5_copyFrom_9 hs.1 fl_X5_11 (hr.to hm1.2.2).1 ?_
      refine r_iload_n hX dX5_copyFrom_12 rfl ?_
      refine r_aaload5N hX dX5_copyFrom_13 hs.2.1 hi6 (by decide) ((hr.to hm1.2.2).2.2.2.1 i hi6) ?_
      refine r_aload_n hX dX5_copyFrom_14 rfl ?_
      refine r_getR hX dX5_copyFrom_15 hs2.1 fl_X5_11 (hr2.to hm1.2.2).1 ?_
      refine r_iload_n hX dX5_copyFrom_18 rfl ?_
      refine r_aaload5N hX dX5_copyFrom_19 hs2.2.1 hi6 (by decide) ((hr2.to hm1.2.2).2.2.2.1 i hi6) ?_
      refine r_callV hX dX5_copyFrom_20 (s_X0_copyFrom E g m1 (ad i) (ad2 i) (adAt hs hr hi6) (adAt hs2 hr2 hi6)) ml_X5_32 rfl rfl (adAt hs hr hi6) rfl ⟨Nat.le_of_ble_eq_true rfl, Nat.le_of_ble_eq_true rfl⟩ ⟨Nat.le_of_ble_eq_true rfl, Nat.le_of_ble_eq_true rfl, rfl, Nat.le_of_ble_eq_true rfl⟩ (fun v20 g20 m20 hp => ?_)
      obtain ⟨hv, hg, hI, hM⟩ := hp
      subst v20
      subst g20
      refine r_iinc (v := nI (i + 1)) hX dX5_copyFrom_23 rfl (ii1 i) rfl ?_
      refine r_goto (tgt := 2) hX dX5_copyFrom_26 (by decide) ?_
      refine ih (i + 1) _ (by omega) ⟨fun k j hk hj => ?_, fun c j hc => ?_, hM.trans hm1.2.2⟩ K
      · rw [hI]
        have d3 := hr.2.2.2.2.1 k (by omega)
        by_cases e : k = i
        · subst e
          rw [if_pos ⟨rfl, hj⟩, hm1.2.1 _ _ (fun k2 hk2 => by have := hr.2.2.2.2.1 k2 hk2; omega), hV2.c k j hi6 hj]
        · rw [if_neg (fun h => e (hr.2.2.2.2.2 k i (by omega) hi6 h.1)), hm1.1 k j (by omega) hj]
      · rw [hI, if_neg (fun h => hc i hi6 h.1), hm1.2.1 c j hc]
set_option maxRecDepth 20000 in
set_option maxHeartbeats 4000000 in
theorem s_X5_copyFrom (E : qE) (g : qG) (m : qM) (q q2 : Nat) (S S2 : kS) (hS : SkyIs g m q S) (hS2 : SkyIs g m q2 S2) (hne : q + 10 ≤ q2 ∨ q2 + 10 ≤ q) : Sp E yX5_copyFrom cX5_copyFrom 3 none 1 0 0 [.ref q, .ref q2] g m (fun v g' m' => v = none ∧ g' = g ∧ SkyIs g m' q (S2) ∧ Outs q 10 m m') := by
  obtain ⟨hs, ad, hr, hV⟩ := hS
  obtain ⟨hs2, ad2, hr2, hV2⟩ := hS2
  refine Sp.of (by decide) [some (.ref q), some (.ref q2), none] rfl rfl (Nat.le_of_ble_eq_true rfl) (fun X hX => ?_)
  refine r_iconst (v := 0) hX dX5_copyFrom_0 (by decide) ?_
  refine r_istore_n hX dX5_copyFrom_1 (Nat.le_of_ble_eq_true rfl) rfl ?_
  refine s_X5_copyFrom_l hX hs hr hs2 hr2 hV2 hne 6 0 m rfl ⟨fun k j hk => absurd hk (by omega), fun c j _ => rfl, rfl⟩ (fun j m1 hm1 => ?_)
  refine r_aload_n hX dX5_copyFrom_29 rfl ?_
  refine r_getR hX dX5_copyFrom_30 hs.1 fl_X5_21 (hr.to hm1.2.2).2.1 ?_
  refine r_aload_n hX dX5_copyFrom_33 rfl ?_
  refine r_getR hX dX5_copyFrom_34 hs2.1 fl_X5_21 (hr2.to hm1.2.2).2.1 ?_
  refine r_callV hX dX5_copyFrom_37 (s_X4_copyFrom E g m1 (q + 8) (q + 9) (q2 + 8) (q2 + 9) ((hr.to hm1.2.2).ring hs) ((hr2.to hm1.2.2).ring hs2) (by omega) (by omega)) ml_X5_36 rfl rfl hs.2.2.2.1 rfl ⟨Nat.le_of_ble_eq_true rfl, Nat.le_of_ble_eq_true rfl⟩ ⟨Nat.le_of_ble_eq_true rfl, Nat.le_of_ble_eq_true rfl, rfl, Nat.le_of_ble_eq_true rfl⟩ (fun v37 g37 m37 hp => ?_)
  obtain ⟨hv, hg, hI, hM⟩ := hp
  subst v37
  subst g37
  refine r_aload_n hX dX5_copyFrom_40 rfl ?_
  refine r_aload_n hX dX5_copyFrom_41 rfl ?_
  refine r_getI hX dX5_copyFrom_42 hs2.1 fl_X5_39 ?_
  refine r_putI hX dX5_copyFrom_45 hs.1 fl_X5_39 ?_
  refine r_aload_n hX dX5_copyFrom_48 rfl ?_
  refine r_aload_n hX dX5_copyFrom_49 rfl ?_
  refine r_getI hX dX5_copyFrom_50 hs2.1 fl_X5_42 ?_
  refine r_putI hX dX5_copyFrom_53 hs.1 fl_X5_42 ?_
  refine r_aload_n hX dX5_copyFrom_56 rfl ?_
  refine r_aload_n hX dX5_copyFrom_57 rfl ?_
  refine r_getI hX dX5_copyFrom_58 hs2.1 fl_X5_45 ?_
  refine r_putI hX dX5_copyFrom_61 hs.1 fl_X5_45 ?_
  refine r_aload_n hX dX5_copyFrom_64 rfl ?_
  refine r_aload_n hX dX5_copyFrom_65 rfl ?_
  refine r_getI hX dX5_copyFrom_66 hs2.1 fl_X5_25 ?_
  refine r_putI hX dX5_copyFrom_69 hs.1 fl_X5_25 ?_
  refine r_aload_n hX dX5_copyFrom_72 rfl ?_
  refine r_aload_n hX dX5_copyFrom_73 rfl ?_
  refine r_getI hX dX5_copyFrom_74 hs2.1 fl_X5_29 ?_
  refine r_putI hX dX5_copyFrom_77 hs.1 fl_X5_29 ?_
  refine r_aload_n hX dX5_copyFrom_80 rfl ?_
  refine r_aload_n hX dX5_copyFrom_81 rfl ?_
  refine r_getI hX dX5_copyFrom_82 hs2.1 fl_X5_48 ?_
  refine r_putI hX dX5_copyFrom_85 hs.1 fl_X5_48 ?_
  refine r_aload_n hX dX5_copyFrom_88 rfl ?_
  refine r_aload_n hX dX5_copyFrom_89 rfl ?_
  refine r_getI hX dX5_copyFrom_90 hs2.1 fl_X5_51 ?_
  refine r_putI hX dX5_copyFrom_93 hs.1 fl_X5_51 ?_
  refine r_vret hX dX5_copyFrom_96 ⟨rfl, rfl, ⟨hs, ad, (hr.to (hM.trans hm1.2.2)).to rfl, ?_⟩, ?_⟩ ⟨Nat.le_of_ble_eq_true rfl, Nat.le_of_ble_eq_true rfl⟩
  · have r5 := hr.2.2.2.2.1
    have r52 := hr2.2.2.2.2.1
    have hA : ∀ j, qI m37 q2 j = qI m q2 j := fun j => by
      rw [hI, if_neg (by omega), if_neg (by omega), hm1.2.1 _ _ (fun k hk => by have := r5 k hk; omega)]
    obtain ⟨w1, w2, w3, w4, w5⟩ := hV2
    refine ⟨fun k hk => ?_, fun i k hi hk => ?_, fun j hj => ?_, ?_, ?_⟩
    · have := w1 k hk
      have := hA (k + 2)
      have hq : q2 ≠ q := by omega
      have h2 := hA 2
      have h3 := hA 3
      have h4 := hA 4
      have h5 := hA 5
      have h6 := hA 6
      have h7 := hA 7
      have h8 := hA 8
      simp only [qI_wI]
      grind
    · have := r5 i hi
      simp only [qI_wI]
      rw [if_neg (by omega), if_neg (by omega), if_neg (by omega), if_neg (by omega), if_neg (by omega), if_neg (by omega), if_neg (by omega), hI, if_neg (by omega), if_neg (by omega)]
      exact hm1.1 i k hi hk
    · simp only [qI_wI]
      rw [if_neg (by omega), if_neg (by omega), if_neg (by omega), if_neg (by omega), if_neg (by omega), if_neg (by omega), if_neg (by omega), hI, if_pos ⟨rfl, hj⟩, hm1.2.1 _ _ (fun k hk => by have := r5 k hk; omega)]
      exact w3 j hj
    · simp only [qI_wI]
      rw [if_neg (by omega), if_neg (by omega), if_neg (by omega), if_neg (by omega), if_neg (by omega), if_neg (by omega), if_neg (by omega), hI, if_neg (by omega), if_pos (by simp), hm1.2.1 _ _ (fun k hk => by have := r5 k hk; omega)]
      exact w4
    · simp only [qI_wI]
      rw [if_neg (by omega), if_neg (by omega), if_neg (by omega), if_neg (by omega), if_neg (by omega), if_neg (by omega), if_neg (by omega), hI, if_neg (by omega), if_pos (by simp), hm1.2.1 _ _ (fun k hk => by have := r5 k hk; omega)]
      exact w5
  · refine (((((((Outs.wI ⟨fun a j ha => ⟨?_, ?_⟩, ?_⟩ (by omega)).wI (by omega)).wI (by omega)).wI (by omega)).wI (by omega)).wI (by omega)).wI (by omega))
    · rw [hI, if_neg (by omega), if_neg (by omega), hm1.2.1 _ _ (fun k hk => by have := hr.2.2.2.2.1 k hk; omega)]
    · unfold qR
      rw [hM, hm1.2.2]
    · rw [hM, hm1.2.2]
