/-! ===== CometObservatory.Comet ===== -/
set_option maxRecDepth 20000 in
set_option maxHeartbeats 4000000 in
theorem s_X0_init (E : qE) (g : qG) (m : qM) (a : Nat) : Sp E yX0_init cX0_init 1 none 1 0 0 [.ref a] g m (fun v g' m' => v = none ∧ g' = g ∧ m' = m) := by
  refine Sp.of (by decide) [some (.ref a)] rfl rfl (Nat.le_of_ble_eq_true rfl) (fun X hX => ?_)
  refine r_aload_n hX dX0_init_0 rfl ?_
  refine r_objInit hX dX0_init_1 mo_X0_3 ⟨Nat.le_of_ble_eq_true rfl, rfl, Nat.le_of_ble_eq_true rfl⟩ ?_
  exact r_vret hX dX0_init_4 ⟨rfl, rfl, rfl⟩ ⟨Nat.le_of_ble_eq_true rfl, Nat.le_of_ble_eq_true rfl⟩
set_option maxRecDepth 20000 in
set_option maxHeartbeats 4000000 in
theorem s_X0_canTake (E : qE) (g : qG) (m : qM) (a : Nat) (x : Int32) (ha : gAt g a (.inl 4)) : Sp E yX0_canTake cX0_canTake 2 (some .boolean) 0 0 0 [.ref a, .int x] g m (fun v g' m' => v = some (.int (if 20 < qI m a 2 + x then 0 else 1)) ∧ g' = g ∧ m' = m) := by
  refine Sp.of (by decide) [some (.ref a), some (.int x)] rfl rfl (Nat.le_of_ble_eq_true rfl) (fun X hX => ?_)
  refine r_aload_n hX dX0_canTake_0 rfl ?_
  refine r_getI hX dX0_canTake_1 ha fl_X0_18 ?_
  refine r_iload_n hX dX0_canTake_4 rfl ?_
  refine r_iadd hX dX0_canTake_5 ?_
  refine r_bipush (v := 20) hX dX0_canTake_6 (by decide) ?_
  refine r_icmp_gt (tgt := 15) hX dX0_canTake_8 (by decide) (fun c8 => ?_) (fun c8 => ?_)
  · refine r_iconst (v := 0) hX dX0_canTake_15 (by decide) ?_
    exact r_zret hX dX0_canTake_16 rfl ⟨by rw [if_pos c8], rfl, rfl⟩ ⟨Nat.le_of_ble_eq_true rfl, Nat.le_of_ble_eq_true rfl⟩
  · refine r_iconst (v := 1) hX dX0_canTake_11 (by decide) ?_
    refine r_goto (tgt := 16) hX dX0_canTake_12 (by decide) ?_
    exact r_zret hX dX0_canTake_16 rfl ⟨by rw [if_neg c8], rfl, rfl⟩ ⟨Nat.le_of_ble_eq_true rfl, Nat.le_of_ble_eq_true rfl⟩
def cPassesUpTo (b n p d : Int32) : Int32 := if d < n then 0 else if 1 ≤ p then (if 1 + (d - n) / p < b then 1 + (d - n) / p else b) else 0
set_option maxRecDepth 20000 in
set_option maxHeartbeats 4000000 in
theorem s_X0_passesUpTo (E : qE) (g : qG) (m : qM) (a : Nat) (x : Int32) (ha : gAt g a (.inl 4)) : Sp E yX0_passesUpTo cX0_passesUpTo 2 (some .int) 1 0 0 [.ref a, .int x] g m (fun v g' m' => v = some (.int (cPassesUpTo (qI m a 2) (qI m a 3) (qI m a 1) x)) ∧ g' = g ∧ m' = m) := by
  refine Sp.of (by decide) [some (.ref a), some (.int x)] rfl rfl (Nat.le_of_ble_eq_true rfl) (fun X hX => ?_)
  refine r_iload_n hX dX0_passesUpTo_0 rfl ?_
  refine r_aload_n hX dX0_passesUpTo_1 rfl ?_
  refine r_getI hX dX0_passesUpTo_2 ha fl_X0_21 ?_
  refine r_icmp_lt (tgt := 16) hX dX0_passesUpTo_5 (by decide) (fun c5 => ?_) (fun c5 => ?_)
  · refine r_iconst (v := 0) hX dX0_passesUpTo_16 (by decide) ?_
    exact r_iret hX dX0_passesUpTo_17 ⟨by unfold cPassesUpTo; rw [if_pos c5], rfl, rfl⟩ ⟨Nat.le_of_ble_eq_true rfl, Nat.le_of_ble_eq_true rfl⟩
  · refine r_aload_n hX dX0_passesUpTo_8 rfl ?_
    refine r_getI hX dX0_passesUpTo_9 ha fl_X0_15 ?_
    refine r_iconst (v := 1) hX dX0_passesUpTo_12 (by decide) ?_
    refine r_icmp_ge (tgt := 18) hX dX0_passesUpTo_13 (by decide) (fun c13 => ?_) (fun c13 => ?_)
    · refine r_aload_n hX dX0_passesUpTo_18 rfl ?_
      refine r_getI hX dX0_passesUpTo_19 ha fl_X0_18 ?_
      refine r_iconst (v := 1) hX dX0_passesUpTo_22 (by decide) ?_
      refine r_iload_n hX dX0_passesUpTo_23 rfl ?_
      refine r_aload_n hX dX0_passesUpTo_24 rfl ?_
      refine r_getI hX dX0_passesUpTo_25 ha fl_X0_21 ?_
      refine r_isub hX dX0_passesUpTo_28 ?_
      refine r_aload_n hX dX0_passesUpTo_29 rfl ?_
      refine r_getI hX dX0_passesUpTo_30 ha fl_X0_15 ?_
      refine r_idiv hX dX0_passesUpTo_33 (fun h => absurd (h ▸ c13) (by decide)) ?_
      refine r_iadd hX dX0_passesUpTo_34 ?_
      refine r_mmin hX dX0_passesUpTo_35 mm_X0_27 ⟨Nat.le_of_ble_eq_true rfl, rfl, Nat.le_of_ble_eq_true rfl⟩ ⟨Nat.le_of_ble_eq_true rfl, Nat.le_of_ble_eq_true rfl⟩ ?_
      exact r_iret hX dX0_passesUpTo_38 ⟨by unfold cPassesUpTo; rw [if_neg c5, if_pos c13], rfl, rfl⟩ ⟨Nat.le_of_ble_eq_true rfl, Nat.le_of_ble_eq_true rfl⟩
    · refine r_iconst (v := 0) hX dX0_passesUpTo_16 (by decide) ?_
      exact r_iret hX dX0_passesUpTo_17 ⟨by unfold cPassesUpTo; rw [if_neg c5, if_neg c13], rfl, rfl⟩ ⟨Nat.le_of_ble_eq_true rfl, Nat.le_of_ble_eq_true rfl⟩
def cRanks (b1 n1 i1 b2 n2 i2 : Int32) : Int32 := if b1 = b2 then (if n1 = n2 then (if i2 ≤ i1 then 0 else 1) else (if n2 ≤ n1 then 0 else 1)) else if b1 ≤ b2 then 0 else 1
set_option maxRecDepth 20000 in
set_option maxHeartbeats 4000000 in
theorem s_X0_ranksBefore (E : qE) (g : qG) (m : qM) (a b : Nat) (ha : gAt g a (.inl 4)) (hb : gAt g b (.inl 4)) : Sp E yX0_ranksBefore cX0_ranksBefore 2 (some .boolean) 0 0 0 [.ref a, .ref b] g m (fun v g' m' => v = some (.int (cRanks (qI m a 2) (qI m a 3) (qI m a 0) (qI m b 2) (qI m b 3) (qI m b 0))) ∧ g' = g ∧ m' = m) := by
  refine Sp.of (by decide) [some (.ref a), some (.ref b)] rfl rfl (Nat.le_of_ble_eq_true rfl) (fun X hX => ?_)
  refine r_aload_n hX dX0_ranksBefore_0 rfl ?_
  refine r_getI hX dX0_ranksBefore_1 ha fl_X0_18 ?_
  refine r_aload_n hX dX0_ranksBefore_4 rfl ?_
  refine r_getI hX dX0_ranksBefore_5 hb fl_X0_18 ?_
  refine r_icmp_eq (tgt := 28) hX dX0_ranksBefore_8 (by decide) (fun c8 => ?_) (fun c8 => ?_)
  · refine r_aload_n hX dX0_ranksBefore_28 rfl ?_
    refine r_getI hX dX0_ranksBefore_29 ha fl_X0_21 ?_
    refine r_aload_n hX dX0_ranksBefore_32 rfl ?_
    refine r_getI hX dX0_ranksBefore_33 hb fl_X0_21 ?_
    refine r_icmp_eq (tgt := 56) hX dX0_ranksBefore_36 (by decide) (fun c36 => ?_) (fun c36 => ?_)
    · refine r_aload_n hX dX0_ranksBefore_56 rfl ?_
      refine r_getI hX dX0_ranksBefore_57 ha fl_X0_9 ?_
      refine r_aload_n hX dX0_ranksBefore_60 rfl ?_
      refine r_getI hX dX0_ranksBefore_61 hb fl_X0_9 ?_
      refine r_icmp_ge (tgt := 71) hX dX0_ranksBefore_64 (by decide) (fun c64 => ?_) (fun c64 => ?_)
      · refine r_iconst (v := 0) hX dX0_ranksBefore_71 (by decide) ?_
        exact r_zret hX dX0_ranksBefore_72 rfl ⟨by unfold cRanks; rw [if_pos c8, if_pos c36, if_pos c64], rfl, rfl⟩ ⟨Nat.le_of_ble_eq_true rfl, Nat.le_of_ble_eq_true rfl⟩
      · refine r_iconst (v := 1) hX dX0_ranksBefore_67 (by decide) ?_
        refine r_goto (tgt := 72) hX dX0_ranksBefore_68 (by decide) ?_
        exact r_zret hX dX0_ranksBefore_72 rfl ⟨by unfold cRanks; rw [if_pos c8, if_pos c36, if_neg c64], rfl, rfl⟩ ⟨Nat.le_of_ble_eq_true rfl, Nat.le_of_ble_eq_true rfl⟩
    · refine r_aload_n hX dX0_ranksBefore_39 rfl ?_
      refine r_getI hX dX0_ranksBefore_40 ha fl_X0_21 ?_
      refine r_aload_n hX dX0_ranksBefore_43 rfl ?_
      refine r_getI hX dX0_ranksBefore_44 hb fl_X0_21 ?_
      refine r_icmp_ge (tgt := 54) hX dX0_ranksBefore_47 (by decide) (fun c47 => ?_) (fun c47 => ?_)
      · refine r_iconst (v := 0) hX dX0_ranksBefore_54 (by decide) ?_
        exact r_zret hX dX0_ranksBefore_55 rfl ⟨by unfold cRanks; rw [if_pos c8, if_neg c36, if_pos c47], rfl, rfl⟩ ⟨Nat.le_of_ble_eq_true rfl, Nat.le_of_ble_eq_true rfl⟩
      · refine r_iconst (v := 1) hX dX0_ranksBefore_50 (by decide) ?_
        refine r_goto (tgt := 55) hX dX0_ranksBefore_51 (by decide) ?_
        exact r_zret hX dX0_ranksBefore_55 rfl ⟨by unfold cRanks; rw [if_pos c8, if_neg c36, if_neg c47], rfl, rfl⟩ ⟨Nat.le_of_ble_eq_true rfl, Nat.le_of_ble_eq_true rfl⟩
  · refine r_aload_n hX dX0_ranksBefore_11 rfl ?_
    refine r_getI hX dX0_ranksBefore_12 ha fl_X0_18 ?_
    refine r_aload_n hX dX0_ranksBefore_15 rfl ?_
    refine r_getI hX dX0_ranksBefore_16 hb fl_X0_18 ?_
    refine r_icmp_le (tgt := 26) hX dX0_ranksBefore_19 (by decide) (fun c19 => ?_) (fun c19 => ?_)
    · refine r_iconst (v := 0) hX dX0_ranksBefore_26 (by decide) ?_
      exact r_zret hX dX0_ranksBefore_27 rfl ⟨by unfold cRanks; rw [if_neg c8, if_pos c19], rfl, rfl⟩ ⟨Nat.le_of_ble_eq_true rfl, Nat.le_of_ble_eq_true rfl⟩
    · refine r_iconst (v := 1) hX dX0_ranksBefore_22 (by decide) ?_
      refine r_goto (tgt := 27) hX dX0_ranksBefore_23 (by decide) ?_
      exact r_zret hX dX0_ranksBefore_27 rfl ⟨by unfold cRanks; rw [if_neg c8, if_neg c19], rfl, rfl⟩ ⟨Nat.le_of_ble_eq_true rfl, Nat.le_of_ble_eq_true rfl⟩
set_option maxRecDepth 20000 in
set_option maxHeartbeats 4000000 in
theorem s_X0_copyFrom (E : qE) (g : qG) (m : qM) (a b : Nat) (ha : gAt g a (.inl 4)) (hb : gAt g b (.inl 4)) : Sp E yX0_copyFrom cX0_copyFrom 2 none 0 0 0 [.ref a, .ref b] g m (fun v g' m' => v = none ∧ g' = g ∧ (∀ c j, qI m' c j = if c = a ∧ j < 5 then qI m b j else qI m c j) ∧ m'.2 = m.2) := by
  refine Sp.of (by decide) [some (.ref a), some (.ref b)] rfl rfl (Nat.le_of_ble_eq_true rfl) (fun X hX => ?_)
  refine r_aload_n hX dX0_copyFrom_0 rfl ?_
  refine r_aload_n hX dX0_copyFrom_1 rfl ?_
  refine r_getI hX dX0_copyFrom_2 hb fl_X0_9 ?_
  refine r_putI hX dX0_copyFrom_5 ha fl_X0_9 ?_
  refine r_aload_n hX dX0_copyFrom_8 rfl ?_
  refine r_aload_n hX dX0_copyFrom_9 rfl ?_
  refine r_getI hX dX0_copyFrom_10 hb fl_X0_15 ?_
  refine r_putI hX dX0_copyFrom_13 ha fl_X0_15 ?_
  refine r_aload_n hX dX0_copyFrom_16 rfl ?_
  refine r_aload_n hX dX0_copyFrom_17 rfl ?_
  refine r_getI hX dX0_copyFrom_18 hb fl_X0_18 ?_
  refine r_putI hX dX0_copyFrom_21 ha fl_X0_18 ?_
  refine r_aload_n hX dX0_copyFrom_24 rfl ?_
  refine r_aload_n hX dX0_copyFrom_25 rfl ?_
  refine r_getI hX dX0_copyFrom_26 hb fl_X0_21 ?_
  refine r_putI hX dX0_copyFrom_29 ha fl_X0_21 ?_
  refine r_aload_n hX dX0_copyFrom_32 rfl ?_
  refine r_aload_n hX dX0_copyFrom_33 rfl ?_
  refine r_getI hX dX0_copyFrom_34 hb fl_X0_24 ?_
  refine r_putI hX dX0_copyFrom_37 ha fl_X0_24 ?_
  refine r_vret hX dX0_copyFrom_40 ⟨rfl, rfl, ?_, rfl⟩ ⟨Nat.le_of_ble_eq_true rfl, Nat.le_of_ble_eq_true rfl⟩
  intro c j
  by_cases hc : c = a
  · subst hc
    by_cases hj : j < 5
    · rw [if_pos ⟨rfl, hj⟩]
      have : j = 0 ∨ j = 1 ∨ j = 2 ∨ j = 3 ∨ j = 4 := by omega
      rcases this with rfl | rfl | rfl | rfl | rfl <;> simp [qI_wI]
    · rw [if_neg (fun q => hj q.2)]
      simp only [qI_wI]
      rw [if_neg (by omega), if_neg (by omega), if_neg (by omega), if_neg (by omega), if_neg (by omega)]
  · rw [if_neg (fun q => hc q.1)]
    simp [qI_wI, hc]
