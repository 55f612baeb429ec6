/-! ===== CometObservatory.isConsistent ===== -/
theorem ahd_all (S : kS) : ∀ n i, (∀ j, i ≤ j → j < i + n → S.1 2 < S.2.1 j 3) → ahd S i n = true
  | 0, _, _ => rfl
  | n + 1, i, h => by
    unfold ahd
    rw [if_pos (h i (Nat.le_refl _) (by omega))]
    exact ahd_all S n (i + 1) (fun j a b => h j (by omega) (by omega))
def qCon (O : kO) : kR := (0, 1, O)
set_option maxRecDepth 20000 in
set_option maxHeartbeats 4000000 in
theorem s_X7_isConsistent (E : qE) (g : qG) (m : qM) (x : Nat) (O : kO) (hO : ObsV g m x O) (u : Nat) (hw : WfO u O) (hu : u ≤ 6144) : Sp E yX7_isConsistent cX7_isConsistent 1 (some .boolean) 9 2 12 [.ref x] g m (pO x g m (qCon O)) := by
  refine Sp.of (by decide) [some (.ref x)] rfl rfl (Nat.le_of_ble_eq_true rfl) (fun X hX => ?_)
  have h20 : rng (20 : Int32) 0 60 := ⟨by decide, by decide⟩
  refine r_aload_n hX dX7_isConsistent_0 rfl ?_
  refine r_callV hX dX7_isConsistent_1 (s_X7_dustTotal E g m x O hO u hw hu) ml_X7_298 rfl rfl hO.1.1 rfl ⟨Nat.le_of_ble_eq_true rfl, Nat.le_of_ble_eq_true rfl⟩ ⟨Nat.le_of_ble_eq_true rfl, Nat.le_of_ble_eq_true rfl, rfl, Nat.le_of_ble_eq_true rfl⟩ (fun v1 g1 m1 hp => ?_)
  obtain ⟨-, hv, hO1, hF1⟩ := hp
  subst v1
  refine r_aload_n hX dX7_isConsistent_4 rfl ?_
  refine r_callV hX dX7_isConsistent_5 (s_X7_dustByAccounts E g1 m1 x O hO1 u hw hu) ml_X7_301 rfl rfl hO1.1.1 rfl ⟨Nat.le_of_ble_eq_true rfl, Nat.le_of_ble_eq_true rfl⟩ ⟨Nat.le_of_ble_eq_true rfl, Nat.le_of_ble_eq_true rfl, rfl, Nat.le_of_ble_eq_true rfl⟩ (fun v5 g5 m5 hp => ?_)
  obtain ⟨-, hv, hO5, hF5⟩ := hp
  subst v5
  refine r_icmp_ne (tgt := 51) hX dX7_isConsistent_8 (by decide) (fun c8 => ?_) (fun c8 => ?_)
  · exact absurd rfl c8
  · refine r_aload_n hX dX7_isConsistent_11 rfl ?_
    refine r_callV hX dX7_isConsistent_12 (s_X7_bestGain E g5 m5 x O hO5 u hw hu) ml_X7_304 rfl rfl hO5.1.1 rfl ⟨Nat.le_of_ble_eq_true rfl, Nat.le_of_ble_eq_true rfl⟩ ⟨Nat.le_of_ble_eq_true rfl, Nat.le_of_ble_eq_true rfl, rfl, Nat.le_of_ble_eq_true rfl⟩ (fun v12 g12 m12 hp => ?_)
    obtain ⟨-, hv, hO12, hF12⟩ := hp
    subst v12
    refine r_aload_n hX dX7_isConsistent_15 rfl ?_
    refine r_callV hX dX7_isConsistent_16 (s_X7_bestGainByArcs E g12 m12 x O hO12 u hw hu) ml_X7_307 rfl rfl hO12.1.1 rfl ⟨Nat.le_of_ble_eq_true rfl, Nat.le_of_ble_eq_true rfl⟩ ⟨Nat.le_of_ble_eq_true rfl, Nat.le_of_ble_eq_true rfl, rfl, Nat.le_of_ble_eq_true rfl⟩ (fun v16 g16 m16 hp => ?_)
    obtain ⟨-, hv, hO16, hF16⟩ := hp
    subst v16
    refine r_icmp_ne (tgt := 51) hX dX7_isConsistent_19 (by decide) (fun c19 => ?_) (fun c19 => ?_)
    · exact absurd (congrArg (fun R : kR => R.2.1) (kad_eq hw hu)) c19
    · refine r_aload_n hX dX7_isConsistent_22 rfl ?_
      refine r_bipush (v := 20) hX dX7_isConsistent_23 (by decide) ?_
      refine r_callVX hX dX7_isConsistent_25 (s_X7_bestWorth E g16 m16 x O hO16 u hw hu 20) ml_X7_310 mk_X7_310 rfl rfl hO16.1.1 rfl ⟨Nat.le_of_ble_eq_true rfl, Nat.le_of_ble_eq_true rfl⟩ ⟨Nat.le_of_ble_eq_true rfl, Nat.le_of_ble_eq_true rfl, rfl, Nat.le_of_ble_eq_true rfl⟩ (fun v25 g25 m25 hp => ?_) (fun nm gx mx hp => ?_)
      rotate_left
      · obtain ⟨⟨k9, hk9, -⟩, -⟩ := hp
        have e25 : (qWor O 20).1 = 0 := by unfold qWor; rw [if_pos h20]
        rw [e25] at hk9
        cases hk9
      obtain ⟨-, hv, hO25, hF25⟩ := hp
      subst v25
      have e25 : (qWor O 20).2.2 = O := by unfold qWor; rw [if_pos h20]
      rw [e25] at hO25
      refine r_aload_n hX dX7_isConsistent_28 rfl ?_
      refine r_bipush (v := 20) hX dX7_isConsistent_29 (by decide) ?_
      refine r_callVX hX dX7_isConsistent_31 (s_X7_bestWorthByDays E g25 m25 x O hO25 u hw hu 20) ml_X7_313 mk_X7_313 rfl rfl hO25.1.1 rfl ⟨Nat.le_of_ble_eq_true rfl, Nat.le_of_ble_eq_true rfl⟩ ⟨Nat.le_of_ble_eq_true rfl, Nat.le_of_ble_eq_true rfl, rfl, Nat.le_of_ble_eq_true rfl⟩ (fun v31 g31 m31 hp => ?_) (fun nm gx mx hp => ?_)
      rotate_left
      · obtain ⟨⟨k9, hk9, -⟩, -⟩ := hp
        have e31 : (qWoD O 20).1 = 0 := by unfold qWoD; rw [if_pos h20]
        rw [e31] at hk9
        cases hk9
      obtain ⟨-, hv, hO31, hF31⟩ := hp
      subst v31
      have e31 : (qWoD O 20).2.2 = O := by unfold qWoD; rw [if_pos h20]
      rw [e31] at hO31
      refine r_icmp_ne (tgt := 51) hX dX7_isConsistent_34 (by decide) (fun c34 => ?_) (fun c34 => ?_)
      · exact absurd (congrArg (fun R : kR => R.2.1) (wor_eq hw hu 20)) c34
      · obtain ⟨S, hSk, hR⟩ := hO31.2.1
        have hah : ahd S 0 O.1.1.length = true := ahd_all S _ 0 (fun j _ hj => by
          have hj : j < O.1.1.length := by omega
          obtain ⟨a1, a2, a3, a4, a5, a6, a7, a8⟩ := hw.com hu hj
          have hd := hw.day hu
          rw [hR.2.1 2 (by decide) (by decide), hR.2.2.1 j 3 hj (by decide)]
          exact nI_lt (by omega) (by omega))
        have hFa := (((((hF1.tr hF5).tr hF12).tr hF16).tr hF25).tr hF31)
        refine r_aload_n hX dX7_isConsistent_37 rfl ?_
        refine r_getR hX dX7_isConsistent_38 hO31.1.1 fl_X7_10 hO31.1.2.1.1 ?_
        refine r_callV hX dX7_isConsistent_41 (s_X5_ahead E g31 m31 (x + 1) S hSk O.1.1.length ⟨hR.1, hw.len⟩) ml_X7_316 rfl rfl hSk.1.1 rfl ⟨Nat.le_of_ble_eq_true rfl, Nat.le_of_ble_eq_true rfl⟩ ⟨Nat.le_of_ble_eq_true rfl, Nat.le_of_ble_eq_true rfl, rfl, Nat.le_of_ble_eq_true rfl⟩ (fun v41 g41 m41 hp => ?_)
        obtain ⟨hv, hg, hm⟩ := hp
        subst v41
        subst g41
        subst m41
        rw [if_pos hah]
        refine r_if_eq (tgt := 51) hX dX7_isConsistent_44 (by decide) (fun c44 => ?_) (fun c44 => ?_)
        · exact absurd c44 (by decide)
        · refine r_iconst (v := 1) hX dX7_isConsistent_47 (by decide) ?_
          refine r_goto (tgt := 52) hX dX7_isConsistent_48 (by decide) ?_
          exact r_zret hX dX7_isConsistent_52 rfl ⟨rfl, rfl, hO31, hFa⟩ ⟨Nat.le_of_ble_eq_true rfl, Nat.le_of_ble_eq_true rfl⟩
