/-! ===== CometObservatory: what its methods ask ===== -/
theorem i_lt {x : Int32} {k : Nat} (hk : k < 2 ^ 31) : x < nI k ↔ x.toInt < (k : Int) := by rw [Int32.lt_iff_toInt_lt, nI_toInt hk]
theorem i_gt {x : Int32} {k : Nat} (hk : k < 2 ^ 31) : nI k < x ↔ (k : Int) < x.toInt := by rw [Int32.lt_iff_toInt_lt, nI_toInt hk]
theorem i_ge {x : Int32} {k : Nat} (hk : k < 2 ^ 31) : nI k ≤ x ↔ (k : Int) ≤ x.toInt := by rw [Int32.le_iff_toInt_le, nI_toInt hk]
theorem i_le {x : Int32} {k : Nat} (hk : k < 2 ^ 31) : x ≤ nI k ↔ x.toInt ≤ (k : Int) := by rw [Int32.le_iff_toInt_le, nI_toInt hk]
theorem rng_i {x : Int32} {a b : Nat} (ha : a < 2 ^ 31) (hb : b < 2 ^ 31) : rng x a b ↔ (a : Int) ≤ x.toInt ∧ x.toInt ≤ (b : Int) := by
  unfold rng
  rw [i_ge ha, i_le hb]
set_option maxRecDepth 20000 in
set_option maxHeartbeats 4000000 in
theorem s_X7_isPeriod (E : qE) (g : qG) (m : qM) (x : Int32) : Sp E yX7_isPeriod cX7_isPeriod 1 (some .boolean) 0 0 0 [.int x] g m (fun v g' m' => v = some (.int (if rng x 2 60 then 1 else 0)) ∧ g' = g ∧ m' = m) := by
  refine Sp.of (by decide) [some (.int x)] rfl rfl (Nat.le_of_ble_eq_true rfl) (fun X hX => ?_)
  refine r_iload_n hX dX7_isPeriod_0 rfl ?_
  refine r_iconst (v := 2) hX dX7_isPeriod_1 (by decide) ?_
  refine r_icmp_lt (tgt := 15) hX dX7_isPeriod_2 (by decide) (fun c2 => ?_) (fun c2 => ?_)
  · have h1 := (i_lt (k := 2) (by decide)).mp c2
    have hb : ¬ rng x 2 60 := fun h => by
      have h3 := (rng_i (by decide) (by decide)).mp h
      omega
    refine r_iconst (v := 0) hX dX7_isPeriod_15 (by decide) ?_
    exact r_zret hX dX7_isPeriod_16 rfl ⟨by rw [if_neg hb], rfl, rfl⟩ ⟨Nat.le_of_ble_eq_true rfl, Nat.le_of_ble_eq_true rfl⟩
  · refine r_iload_n hX dX7_isPeriod_5 rfl ?_
    refine r_bipush (v := 60) hX dX7_isPeriod_6 (by decide) ?_
    refine r_icmp_gt (tgt := 15) hX dX7_isPeriod_8 (by decide) (fun c8 => ?_) (fun c8 => ?_)
    · have h2 := (i_gt (k := 60) (by decide)).mp c8
      have hb : ¬ rng x 2 60 := fun h => by
        have h3 := (rng_i (by decide) (by decide)).mp h
        omega
      refine r_iconst (v := 0) hX dX7_isPeriod_15 (by decide) ?_
      exact r_zret hX dX7_isPeriod_16 rfl ⟨by rw [if_neg hb], rfl, rfl⟩ ⟨Nat.le_of_ble_eq_true rfl, Nat.le_of_ble_eq_true rfl⟩
    · have h1 := (not_congr (i_lt (k := 2) (by decide))).mp c2
      have h2 := (not_congr (i_gt (k := 60) (by decide))).mp c8
      have hb : rng x 2 60 := (rng_i (by decide) (by decide)).mpr (by omega)
      refine r_iconst (v := 1) hX dX7_isPeriod_11 (by decide) ?_
      refine r_goto (tgt := 16) hX dX7_isPeriod_12 (by decide) ?_
      exact r_zret hX dX7_isPeriod_16 rfl ⟨by rw [if_pos hb], rfl, rfl⟩ ⟨Nat.le_of_ble_eq_true rfl, Nat.le_of_ble_eq_true rfl⟩
set_option maxRecDepth 20000 in
set_option maxHeartbeats 4000000 in
theorem s_X7_isAmount (E : qE) (g : qG) (m : qM) (x : Int32) : Sp E yX7_isAmount cX7_isAmount 1 (some .boolean) 0 0 0 [.int x] g m (fun v g' m' => v = some (.int (if rng x 1 19 then 1 else 0)) ∧ g' = g ∧ m' = m) := by
  refine Sp.of (by decide) [some (.int x)] rfl rfl (Nat.le_of_ble_eq_true rfl) (fun X hX => ?_)
  refine r_iload_n hX dX7_isAmount_0 rfl ?_
  refine r_iconst (v := 1) hX dX7_isAmount_1 (by decide) ?_
  refine r_icmp_lt (tgt := 15) hX dX7_isAmount_2 (by decide) (fun c2 => ?_) (fun c2 => ?_)
  · have h1 := (i_lt (k := 1) (by decide)).mp c2
    have hb : ¬ rng x 1 19 := fun h => by
      have h3 := (rng_i (by decide) (by decide)).mp h
      omega
    refine r_iconst (v := 0) hX dX7_isAmount_15 (by decide) ?_
    exact r_zret hX dX7_isAmount_16 rfl ⟨by rw [if_neg hb], rfl, rfl⟩ ⟨Nat.le_of_ble_eq_true rfl, Nat.le_of_ble_eq_true rfl⟩
  · refine r_iload_n hX dX7_isAmount_5 rfl ?_
    refine r_bipush (v := 20) hX dX7_isAmount_6 (by decide) ?_
    refine r_icmp_ge (tgt := 15) hX dX7_isAmount_8 (by decide) (fun c8 => ?_) (fun c8 => ?_)
    · have h2 := (i_ge (k := 20) (by decide)).mp c8
      have hb : ¬ rng x 1 19 := fun h => by
        have h3 := (rng_i (by decide) (by decide)).mp h
        omega
      refine r_iconst (v := 0) hX dX7_isAmount_15 (by decide) ?_
      exact r_zret hX dX7_isAmount_16 rfl ⟨by rw [if_neg hb], rfl, rfl⟩ ⟨Nat.le_of_ble_eq_true rfl, Nat.le_of_ble_eq_true rfl⟩
    · have h1 := (not_congr (i_lt (k := 1) (by decide))).mp c2
      have h2 := (not_congr (i_ge (k := 20) (by decide))).mp c8
      have hb : rng x 1 19 := (rng_i (by decide) (by decide)).mpr (by omega)
      refine r_iconst (v := 1) hX dX7_isAmount_11 (by decide) ?_
      refine r_goto (tgt := 16) hX dX7_isAmount_12 (by decide) ?_
      exact r_zret hX dX7_isAmount_16 rfl ⟨by rw [if_pos hb], rfl, rfl⟩ ⟨Nat.le_of_ble_eq_true rfl, Nat.le_of_ble_eq_true rfl⟩
set_option maxRecDepth 20000 in
set_option maxHeartbeats 4000000 in
theorem s_X7_isSpanOfDays (E : qE) (g : qG) (m : qM) (x : Int32) : Sp E yX7_isSpanOfDays cX7_isSpanOfDays 1 (some .boolean) 0 0 0 [.int x] g m (fun v g' m' => v = some (.int (if rng x 1 60 then 1 else 0)) ∧ g' = g ∧ m' = m) := by
  refine Sp.of (by decide) [some (.int x)] rfl rfl (Nat.le_of_ble_eq_true rfl) (fun X hX => ?_)
  refine r_iload_n hX dX7_isSpanOfDays_0 rfl ?_
  refine r_iconst (v := 1) hX dX7_isSpanOfDays_1 (by decide) ?_
  refine r_icmp_lt (tgt := 15) hX dX7_isSpanOfDays_2 (by decide) (fun c2 => ?_) (fun c2 => ?_)
  · have h1 := (i_lt (k := 1) (by decide)).mp c2
    have hb : ¬ rng x 1 60 := fun h => by
      have h3 := (rng_i (by decide) (by decide)).mp h
      omega
    refine r_iconst (v := 0) hX dX7_isSpanOfDays_15 (by decide) ?_
    exact r_zret hX dX7_isSpanOfDays_16 rfl ⟨by rw [if_neg hb], rfl, rfl⟩ ⟨Nat.le_of_ble_eq_true rfl, Nat.le_of_ble_eq_true rfl⟩
  · refine r_iload_n hX dX7_isSpanOfDays_5 rfl ?_
    refine r_bipush (v := 60) hX dX7_isSpanOfDays_6 (by decide) ?_
    refine r_icmp_gt (tgt := 15) hX dX7_isSpanOfDays_8 (by decide) (fun c8 => ?_) (fun c8 => ?_)
    · have h2 := (i_gt (k := 60) (by decide)).mp c8
      have hb : ¬ rng x 1 60 := fun h => by
        have h3 := (rng_i (by decide) (by decide)).mp h
        omega
      refine r_iconst (v := 0) hX dX7_isSpanOfDays_15 (by decide) ?_
      exact r_zret hX dX7_isSpanOfDays_16 rfl ⟨by rw [if_neg hb], rfl, rfl⟩ ⟨Nat.le_of_ble_eq_true rfl, Nat.le_of_ble_eq_true rfl⟩
    · have h1 := (not_congr (i_lt (k := 1) (by decide))).mp c2
      have h2 := (not_congr (i_gt (k := 60) (by decide))).mp c8
      have hb : rng x 1 60 := (rng_i (by decide) (by decide)).mpr (by omega)
      refine r_iconst (v := 1) hX dX7_isSpanOfDays_11 (by decide) ?_
      refine r_goto (tgt := 16) hX dX7_isSpanOfDays_12 (by decide) ?_
      exact r_zret hX dX7_isSpanOfDays_16 rfl ⟨by rw [if_pos hb], rfl, rfl⟩ ⟨Nat.le_of_ble_eq_true rfl, Nat.le_of_ble_eq_true rfl⟩
set_option maxRecDepth 20000 in
set_option maxHeartbeats 4000000 in
theorem s_X7_isSpanToLookAt (E : qE) (g : qG) (m : qM) (x : Int32) : Sp E yX7_isSpanToLookAt cX7_isSpanToLookAt 1 (some .boolean) 0 0 0 [.int x] g m (fun v g' m' => v = some (.int (if rng x 0 60 then 1 else 0)) ∧ g' = g ∧ m' = m) := by
  refine Sp.of (by decide) [some (.int x)] rfl rfl (Nat.le_of_ble_eq_true rfl) (fun X hX => ?_)
  refine r_iload_n hX dX7_isSpanToLookAt_0 rfl ?_
  refine r_if_lt (tgt := 14) hX dX7_isSpanToLookAt_1 (by decide) (fun c1 => ?_) (fun c1 => ?_)
  · have h1 := (i_lt (k := 0) (by decide)).mp c1
    have hb : ¬ rng x 0 60 := fun h => by
      have h3 := (rng_i (by decide) (by decide)).mp h
      omega
    refine r_iconst (v := 0) hX dX7_isSpanToLookAt_14 (by decide) ?_
    exact r_zret hX dX7_isSpanToLookAt_15 rfl ⟨by rw [if_neg hb], rfl, rfl⟩ ⟨Nat.le_of_ble_eq_true rfl, Nat.le_of_ble_eq_true rfl⟩
  · refine r_iload_n hX dX7_isSpanToLookAt_4 rfl ?_
    refine r_bipush (v := 60) hX dX7_isSpanToLookAt_5 (by decide) ?_
    refine r_icmp_gt (tgt := 14) hX dX7_isSpanToLookAt_7 (by decide) (fun c7 => ?_) (fun c7 => ?_)
    · have h2 := (i_gt (k := 60) (by decide)).mp c7
      have hb : ¬ rng x 0 60 := fun h => by
        have h3 := (rng_i (by decide) (by decide)).mp h
        omega
      refine r_iconst (v := 0) hX dX7_isSpanToLookAt_14 (by decide) ?_
      exact r_zret hX dX7_isSpanToLookAt_15 rfl ⟨by rw [if_neg hb], rfl, rfl⟩ ⟨Nat.le_of_ble_eq_true rfl, Nat.le_of_ble_eq_true rfl⟩
    · have h1 := (not_congr (i_lt (k := 0) (by decide))).mp c1
      have h2 := (not_congr (i_gt (k := 60) (by decide))).mp c7
      have hb : rng x 0 60 := (rng_i (by decide) (by decide)).mpr (by omega)
      refine r_iconst (v := 1) hX dX7_isSpanToLookAt_10 (by decide) ?_
      refine r_goto (tgt := 15) hX dX7_isSpanToLookAt_11 (by decide) ?_
      exact r_zret hX dX7_isSpanToLookAt_15 rfl ⟨by rw [if_pos hb], rfl, rfl⟩ ⟨Nat.le_of_ble_eq_true rfl, Nat.le_of_ble_eq_true rfl⟩
set_option maxRecDepth 20000 in
set_option maxHeartbeats 4000000 in
theorem s_X7_isPlace (E : qE) (g : qG) (m : qM) (x : Int32) : Sp E yX7_isPlace cX7_isPlace 1 (some .boolean) 0 0 0 [.int x] g m (fun v g' m' => v = some (.int (if rng x 0 11 then 1 else 0)) ∧ g' = g ∧ m' = m) := by
  refine Sp.of (by decide) [some (.int x)] rfl rfl (Nat.le_of_ble_eq_true rfl) (fun X hX => ?_)
  refine r_iload_n hX dX7_isPlace_0 rfl ?_
  refine r_if_lt (tgt := 14) hX dX7_isPlace_1 (by decide) (fun c1 => ?_) (fun c1 => ?_)
  · have h1 := (i_lt (k := 0) (by decide)).mp c1
    have hb : ¬ rng x 0 11 := fun h => by
      have h3 := (rng_i (by decide) (by decide)).mp h
      omega
    refine r_iconst (v := 0) hX dX7_isPlace_14 (by decide) ?_
    exact r_zret hX dX7_isPlace_15 rfl ⟨by rw [if_neg hb], rfl, rfl⟩ ⟨Nat.le_of_ble_eq_true rfl, Nat.le_of_ble_eq_true rfl⟩
  · refine r_iload_n hX dX7_isPlace_4 rfl ?_
    refine r_bipush (v := 12) hX dX7_isPlace_5 (by decide) ?_
    refine r_icmp_ge (tgt := 14) hX dX7_isPlace_7 (by decide) (fun c7 => ?_) (fun c7 => ?_)
    · have h2 := (i_ge (k := 12) (by decide)).mp c7
      have hb : ¬ rng x 0 11 := fun h => by
        have h3 := (rng_i (by decide) (by decide)).mp h
        omega
      refine r_iconst (v := 0) hX dX7_isPlace_14 (by decide) ?_
      exact r_zret hX dX7_isPlace_15 rfl ⟨by rw [if_neg hb], rfl, rfl⟩ ⟨Nat.le_of_ble_eq_true rfl, Nat.le_of_ble_eq_true rfl⟩
    · have h1 := (not_congr (i_lt (k := 0) (by decide))).mp c1
      have h2 := (not_congr (i_ge (k := 12) (by decide))).mp c7
      have hb : rng x 0 11 := (rng_i (by decide) (by decide)).mpr (by omega)
      refine r_iconst (v := 1) hX dX7_isPlace_10 (by decide) ?_
      refine r_goto (tgt := 15) hX dX7_isPlace_11 (by decide) ?_
      exact r_zret hX dX7_isPlace_15 rfl ⟨by rw [if_pos hb], rfl, rfl⟩ ⟨Nat.le_of_ble_eq_true rfl, Nat.le_of_ble_eq_true rfl⟩
set_option maxRecDepth 20000 in
set_option maxHeartbeats 4000000 in
theorem s_X7_isLengthOfArc (E : qE) (g : qG) (m : qM) (x : Int32) : Sp E yX7_isLengthOfArc cX7_isLengthOfArc 1 (some .boolean) 0 0 0 [.int x] g m (fun v g' m' => v = some (.int (if rng x 1 12 then 1 else 0)) ∧ g' = g ∧ m' = m) := by
  refine Sp.of (by decide) [some (.int x)] rfl rfl (Nat.le_of_ble_eq_true rfl) (fun X hX => ?_)
  refine r_iload_n hX dX7_isLengthOfArc_0 rfl ?_
  refine r_iconst (v := 1) hX dX7_isLengthOfArc_1 (by decide) ?_
  refine r_icmp_lt (tgt := 15) hX dX7_isLengthOfArc_2 (by decide) (fun c2 => ?_) (fun c2 => ?_)
  · have h1 := (i_lt (k := 1) (by decide)).mp c2
    have hb : ¬ rng x 1 12 := fun h => by
      have h3 := (rng_i (by decide) (by decide)).mp h
      omega
    refine r_iconst (v := 0) hX dX7_isLengthOfArc_15 (by decide) ?_
    exact r_zret hX dX7_isLengthOfArc_16 rfl ⟨by rw [if_neg hb], rfl, rfl⟩ ⟨Nat.le_of_ble_eq_true rfl, Nat.le_of_ble_eq_true rfl⟩
  · refine r_iload_n hX dX7_isLengthOfArc_5 rfl ?_
    refine r_bipush (v := 12) hX dX7_isLengthOfArc_6 (by decide) ?_
    refine r_icmp_gt (tgt := 15) hX dX7_isLengthOfArc_8 (by decide) (fun c8 => ?_) (fun c8 => ?_)
    · have h2 := (i_gt (k := 12) (by decide)).mp c8
      have hb : ¬ rng x 1 12 := fun h => by
        have h3 := (rng_i (by decide) (by decide)).mp h
        omega
      refine r_iconst (v := 0) hX dX7_isLengthOfArc_15 (by decide) ?_
      exact r_zret hX dX7_isLengthOfArc_16 rfl ⟨by rw [if_neg hb], rfl, rfl⟩ ⟨Nat.le_of_ble_eq_true rfl, Nat.le_of_ble_eq_true rfl⟩
    · have h1 := (not_congr (i_lt (k := 1) (by decide))).mp c2
      have h2 := (not_congr (i_gt (k := 12) (by decide))).mp c8
      have hb : rng x 1 12 := (rng_i (by decide) (by decide)).mpr (by omega)
      refine r_iconst (v := 1) hX dX7_isLengthOfArc_11 (by decide) ?_
      refine r_goto (tgt := 16) hX dX7_isLengthOfArc_12 (by decide) ?_
      exact r_zret hX dX7_isLengthOfArc_16 rfl ⟨by rw [if_pos hb], rfl, rfl⟩ ⟨Nat.le_of_ble_eq_true rfl, Nat.le_of_ble_eq_true rfl⟩
set_option maxRecDepth 20000 in
set_option maxHeartbeats 4000000 in
theorem s_X7_isRate (E : qE) (g : qG) (m : qM) (x : Int32) : Sp E yX7_isRate cX7_isRate 1 (some .boolean) 0 0 0 [.int x] g m (fun v g' m' => v = some (.int (if rng x 0 9 then 1 else 0)) ∧ g' = g ∧ m' = m) := by
  refine Sp.of (by decide) [some (.int x)] rfl rfl (Nat.le_of_ble_eq_true rfl) (fun X hX => ?_)
  refine r_iload_n hX dX7_isRate_0 rfl ?_
  refine r_if_lt (tgt := 14) hX dX7_isRate_1 (by decide) (fun c1 => ?_) (fun c1 => ?_)
  · have h1 := (i_lt (k := 0) (by decide)).mp c1
    have hb : ¬ rng x 0 9 := fun h => by
      have h3 := (rng_i (by decide) (by decide)).mp h
      omega
    refine r_iconst (v := 0) hX dX7_isRate_14 (by decide) ?_
    exact r_zret hX dX7_isRate_15 rfl ⟨by rw [if_neg hb], rfl, rfl⟩ ⟨Nat.le_of_ble_eq_true rfl, Nat.le_of_ble_eq_true rfl⟩
  · refine r_iload_n hX dX7_isRate_4 rfl ?_
    refine r_bipush (v := 9) hX dX7_isRate_5 (by decide) ?_
    refine r_icmp_gt (tgt := 14) hX dX7_isRate_7 (by decide) (fun c7 => ?_) (fun c7 => ?_)
    · have h2 := (i_gt (k := 9) (by decide)).mp c7
      have hb : ¬ rng x 0 9 := fun h => by
        have h3 := (rng_i (by decide) (by decide)).mp h
        omega
      refine r_iconst (v := 0) hX dX7_isRate_14 (by decide) ?_
      exact r_zret hX dX7_isRate_15 rfl ⟨by rw [if_neg hb], rfl, rfl⟩ ⟨Nat.le_of_ble_eq_true rfl, Nat.le_of_ble_eq_true rfl⟩
    · have h1 := (not_congr (i_lt (k := 0) (by decide))).mp c1
      have h2 := (not_congr (i_gt (k := 9) (by decide))).mp c7
      have hb : rng x 0 9 := (rng_i (by decide) (by decide)).mpr (by omega)
      refine r_iconst (v := 1) hX dX7_isRate_10 (by decide) ?_
      refine r_goto (tgt := 15) hX dX7_isRate_11 (by decide) ?_
      exact r_zret hX dX7_isRate_15 rfl ⟨by rw [if_pos hb], rfl, rfl⟩ ⟨Nat.le_of_ble_eq_true rfl, Nat.le_of_ble_eq_true rfl⟩
set_option maxRecDepth 20000 in
set_option maxHeartbeats 4000000 in
theorem s_X7_isNewComet (E : qE) (g : qG) (m : qM) (p d b : Int32) : Sp E yX7_isNewComet cX7_isNewComet 3 (some .boolean) 1 0 0 [.int p, .int d, .int b] g m (fun v g' m' => v = some (.int (if (rng p 2 60 ∧ rng d 1 60 ∧ rng b 1 20) then 1 else 0)) ∧ g' = g ∧ m' = m) := by
  refine Sp.of (by decide) [some (.int p), some (.int d), some (.int b)] rfl rfl (Nat.le_of_ble_eq_true rfl) (fun X hX => ?_)
  refine r_iload_n hX dX7_isNewComet_0 rfl ?_
  refine r_callS hX dX7_isNewComet_1 (s_X7_isPeriod E g m p) ml_X7_105 rfl rfl ⟨Nat.le_of_ble_eq_true rfl, Nat.le_of_ble_eq_true rfl⟩ ⟨Nat.le_of_ble_eq_true rfl, Nat.le_of_ble_eq_true rfl, rfl, Nat.le_of_ble_eq_true rfl⟩ (fun v1 g1 m1 hp => ?_)
  obtain ⟨hv, hg, hm⟩ := hp
  subst v1
  subst g1
  subst m1
  refine r_if_eq (tgt := 29) hX dX7_isNewComet_4 (by decide) (fun c4 => ?_) (fun c4 => ?_)
  · have hb : ¬ (rng p 2 60 ∧ rng d 1 60 ∧ rng b 1 20) := fun h => by
      rw [if_pos h.1] at c4
      exact absurd c4 (by decide)
    refine r_iconst (v := 0) hX dX7_isNewComet_29 (by decide) ?_
    exact r_zret hX dX7_isNewComet_30 rfl ⟨by rw [if_neg hb], rfl, rfl⟩ ⟨Nat.le_of_ble_eq_true rfl, Nat.le_of_ble_eq_true rfl⟩
  · refine r_iload_n hX dX7_isNewComet_7 rfl ?_
    refine r_callS hX dX7_isNewComet_8 (s_X7_isSpanOfDays E g m d) ml_X7_138 rfl rfl ⟨Nat.le_of_ble_eq_true rfl, Nat.le_of_ble_eq_true rfl⟩ ⟨Nat.le_of_ble_eq_true rfl, Nat.le_of_ble_eq_true rfl, rfl, Nat.le_of_ble_eq_true rfl⟩ (fun v8 g8 m8 hp => ?_)
    obtain ⟨hv, hg, hm⟩ := hp
    subst v8
    subst g8
    subst m8
    refine r_if_eq (tgt := 29) hX dX7_isNewComet_11 (by decide) (fun c11 => ?_) (fun c11 => ?_)
    · have hb : ¬ (rng p 2 60 ∧ rng d 1 60 ∧ rng b 1 20) := fun h => by
        rw [if_pos h.2.1] at c11
        exact absurd c11 (by decide)
      refine r_iconst (v := 0) hX dX7_isNewComet_29 (by decide) ?_
      exact r_zret hX dX7_isNewComet_30 rfl ⟨by rw [if_neg hb], rfl, rfl⟩ ⟨Nat.le_of_ble_eq_true rfl, Nat.le_of_ble_eq_true rfl⟩
    · refine r_iload_n hX dX7_isNewComet_14 rfl ?_
      refine r_iconst (v := 1) hX dX7_isNewComet_15 (by decide) ?_
      refine r_icmp_lt (tgt := 29) hX dX7_isNewComet_16 (by decide) (fun c16 => ?_) (fun c16 => ?_)
      · have hb : ¬ (rng p 2 60 ∧ rng d 1 60 ∧ rng b 1 20) := fun h => by
          have h1 := (i_lt (k := 1) (by decide)).mp c16
          have h3 := (rng_i (by decide) (by decide)).mp h.2.2
          omega
        refine r_iconst (v := 0) hX dX7_isNewComet_29 (by decide) ?_
        exact r_zret hX dX7_isNewComet_30 rfl ⟨by rw [if_neg hb], rfl, rfl⟩ ⟨Nat.le_of_ble_eq_true rfl, Nat.le_of_ble_eq_true rfl⟩
      · refine r_iload_n hX dX7_isNewComet_19 rfl ?_
        refine r_bipush (v := 20) hX dX7_isNewComet_20 (by decide) ?_
        refine r_icmp_gt (tgt := 29) hX dX7_isNewComet_22 (by decide) (fun c22 => ?_) (fun c22 => ?_)
        · have hb : ¬ (rng p 2 60 ∧ rng d 1 60 ∧ rng b 1 20) := fun h => by
            have h1 := (i_gt (k := 20) (by decide)).mp c22
            have h3 := (rng_i (by decide) (by decide)).mp h.2.2
            omega
          refine r_iconst (v := 0) hX dX7_isNewComet_29 (by decide) ?_
          exact r_zret hX dX7_isNewComet_30 rfl ⟨by rw [if_neg hb], rfl, rfl⟩ ⟨Nat.le_of_ble_eq_true rfl, Nat.le_of_ble_eq_true rfl⟩
        · have h1 := (not_congr (i_lt (k := 1) (by decide))).mp c16
          have h2 := (not_congr (i_gt (k := 20) (by decide))).mp c22
          have hb : (rng p 2 60 ∧ rng d 1 60 ∧ rng b 1 20) := ⟨Classical.byContradiction (fun h => c4 (by rw [if_neg h])), Classical.byContradiction (fun h => c11 (by rw [if_neg h])), (rng_i (by decide) (by decide)).mpr (by omega)⟩
          refine r_iconst (v := 1) hX dX7_isNewComet_25 (by decide) ?_
          refine r_goto (tgt := 30) hX dX7_isNewComet_26 (by decide) ?_
          exact r_zret hX dX7_isNewComet_30 rfl ⟨by rw [if_pos hb], rfl, rfl⟩ ⟨Nat.le_of_ble_eq_true rfl, Nat.le_of_ble_eq_true rfl⟩
set_option maxRecDepth 20000 in
set_option maxHeartbeats 4000000 in
theorem s_X7_existing (E : qE) (g : qG) (m : qM) (x : Nat) (c : Int32) (O : kO) (S : kS) (ad : Nat → Nat) (b0 : ObH g m x O) (hs : SkySh g (x + 1)) (hr : SkyR m (x + 1) ad) (hV : SkyV m (x + 1) ad S) (hR : RepS S O.1) (hl : O.1.1.length ≤ 6) : SpX E yX7_existing cX7_existing 3 (some (.object "CometObservatory$Comet")) 8 1 6 [.ref x, .int c] g m (fun v g' m' => ∃ i, plV O.1.1 c = some i ∧ v = some (.ref (ad i)) ∧ g' = g ∧ m' = m) (fun nm g' m' => plV O.1.1 c = none ∧ nm = "java/util/NoSuchElementException" ∧ (∃ n, g.2 ≤ n ∧ g' = (g.1, n)) ∧ m' = m) := by
  refine SpX.of (by decide) [some (.ref x), some (.int c), none] rfl rfl (Nat.le_of_ble_eq_true rfl) (fun X hX => ?_)
  have hN : qI m (x + 1) 2 = nI O.1.1.length := (hV.1 0 (by decide)).trans hR.1
  have hp : slotF (fun i => qI m (ad i) 0) c 0 O.1.1.length = plV O.1.1 c := slotF_congr _ 0 (fun j _ hj => (hV.2.1 j 0 (by omega) (by decide)).trans (hR.2.2.1 j 0 (by omega) (by decide)))
  refine r_aload_n hX dX7_existing_0 rfl ?_
  refine r_getR hX dX7_existing_1 b0.1 fl_X7_10 b0.2.1.1 ?_
  refine r_iload_n hX dX7_existing_4 rfl ?_
  refine r_callV hX dX7_existing_5 (s_X5_find E g m (x + 1) c hs ad hr O.1.1.length ⟨hN, hl⟩) ml_X7_390 rfl rfl hs.1 rfl ⟨Nat.le_of_ble_eq_true rfl, Nat.le_of_ble_eq_true rfl⟩ ⟨Nat.le_of_ble_eq_true rfl, Nat.le_of_ble_eq_true rfl, rfl, Nat.le_of_ble_eq_true rfl⟩ (fun v5 g5 m5 hp => ?_)
  obtain ⟨hv, hg, hm⟩ := hp
  subst v5
  subst g5
  subst m5
  rw [hp]
  rcases hq : plV O.1.1 c with _ | i
  · refine r_astore_nN hX dX7_existing_8 (Nat.le_of_ble_eq_true rfl) rfl ?_
    refine r_aload_nN hX dX7_existing_9 rfl ?_
    refine r_ifnonnullN hX dX7_existing_10 ?_
    exact r_throwSWX hX dX7_existing_13 dX7_existing_16 dX7_existing_17 dX7_existing_20 dX7_existing_23 th_NoSuchElement_393 ⟨Nat.le_of_ble_eq_true rfl, rfl, Nat.le_of_ble_eq_true rfl⟩ ⟨Nat.le_of_ble_eq_true rfl, Nat.le_of_ble_eq_true rfl⟩ (fun n hn => ⟨rfl, rfl, ⟨n, hn, rfl⟩, rfl⟩)
  · refine r_astore_n hX dX7_existing_8 (Nat.le_of_ble_eq_true rfl) rfl ?_
    refine r_aload_n hX dX7_existing_9 rfl ?_
    refine r_ifnonnull (tgt := 24) hX dX7_existing_10 (by decide) ?_
    refine r_aload_n hX dX7_existing_24 rfl ?_
    exact r_x (r_aret hX dX7_existing_25 (Or.inl ⟨_, rfl⟩) (Or.inr ⟨_, rfl⟩) ⟨i, rfl, rfl, rfl, rfl⟩ ⟨Nat.le_of_ble_eq_true rfl, Nat.le_of_ble_eq_true rfl⟩)
