/-! ===== CometObservatoryModel: made ===== -/
def gMod (g : qG) : qG := gNew (gNew (gNew (gNew (gNew (gNew g (.inr (0, 539))) (.inr (0, 62))) (.inr (0, 62))) (.inr (1, 60))) (.inr (0, 244))) (.inr (1, 160))
def modSh6 : Nat → qSh
  | 0 => .inr (0, 539)
  | 1 => .inr (0, 62)
  | 2 => .inr (0, 62)
  | 3 => .inr (1, 60)
  | 4 => .inr (0, 244)
  | _ => .inr (1, 160)
theorem gM_at (g : qG) {t j : Nat} (hg : g.2 = t + 1) (hj : j < 6) : gAt (gMod g) (t + 1 + j) (modSh6 j) := by
  unfold gMod gAt gNew
  simp only
  rcases j with _ | _ | _ | _ | _ | _ | j
  all_goals first | omega | skip
  all_goals
    repeat (first | rw [if_pos (by omega)] | rw [if_neg (by omega)])
    try rfl
theorem gMod_sz (g : qG) : (gMod g).2 = g.2 + 6 := rfl
theorem gMod_old {g : qG} {a : Nat} (h : a < g.2) : (gMod g).1 a = g.1 a := by
  unfold gMod gNew
  simp only
  rw [if_neg (by omega), if_neg (by omega), if_neg (by omega), if_neg (by omega), if_neg (by omega), if_neg (by omega)]
theorem qI_wZ (m : qM) (a b j : Nat) : qI (wZ m a) b j = if b = a then 0 else qI m b j := by
  by_cases e : b = a
  · rw [if_pos e, e]; exact qI_wZ_s _ _ _
  · rw [if_neg e]; exact qI_wZ_a _ _ e
theorem qR_wZ (m : qM) (a b j : Nat) : qR (wZ m a) b j = if b = a then none else qR m b j := by
  by_cases e : b = a
  · rw [if_pos e, e]; exact qR_wZ_s _ _ _
  · rw [if_neg e]; exact qR_wZ_a _ _ e
set_option maxRecDepth 20000 in
set_option maxHeartbeats 4000000 in
theorem s_X8_init (E : qE) (g : qG) (m : qM) (y : Nat) (hy : gAt g y (.inl 11)) (hg : g.2 = y + 1) (hz : ∀ k, qI m y k = 0) : Sp E yX8_init cX8_init 1 none 1 6 1127 [.ref y] g m (fun v g' m' => v = none ∧ g' = gMod g ∧ ModV g' m' y O0 ∧ OutN y 7 m m') := by
  refine Sp.of (by decide) [some (.ref y)] rfl rfl (Nat.le_of_ble_eq_true rfl) (fun X hX => ?_)
  refine r_aload_n hX dX8_init_0 rfl ?_
  refine r_objInit hX dX8_init_1 mo_X8_1 ⟨Nat.le_of_ble_eq_true rfl, rfl, Nat.le_of_ble_eq_true rfl⟩ ?_
  refine r_aload_n hX dX8_init_4 rfl ?_
  refine r_sipush (v := 539) hX dX8_init_5 (by decide) ?_
  refine r_newa (t := 0) (n := 539) hX dX8_init_8 ⟨List.mem_of_getElem? (i := 174) (by decide +kernel), by decide +kernel⟩ ⟨by decide, rfl⟩ ⟨by decide, by decide, by decide⟩ (Nat.le_of_ble_eq_true rfl) (Nat.le_of_ble_eq_true rfl) ?_
  rw [show g.2 = y + 1 by omega]
  refine r_putFR hX dX8_init_10 (gNew_old hy (by show y < g.2 ; omega)) ff_X8_9 rfl rfl rfl ?_
  refine r_aload_n hX dX8_init_13 rfl ?_
  refine r_bipush (v := 62) hX dX8_init_14 (by decide) ?_
  refine r_newa (t := 0) (n := 62) hX dX8_init_16 ⟨List.mem_of_getElem? (i := 174) (by decide +kernel), by decide +kernel⟩ ⟨by decide, rfl⟩ ⟨by decide, by decide, by decide⟩ (Nat.le_of_ble_eq_true rfl) (Nat.le_of_ble_eq_true rfl) ?_
  rw [show (gNew g _).2 = y + 2 by show g.2 + 1 = _; omega]
  refine r_putFR hX dX8_init_18 (gNew_old (gNew_old hy (by show y < g.2 ; omega)) (by show y < g.2 + 1 ; omega)) ff_X8_13 rfl rfl rfl ?_
  refine r_aload_n hX dX8_init_21 rfl ?_
  refine r_bipush (v := 62) hX dX8_init_22 (by decide) ?_
  refine r_newa (t := 0) (n := 62) hX dX8_init_24 ⟨List.mem_of_getElem? (i := 174) (by decide +kernel), by decide +kernel⟩ ⟨by decide, rfl⟩ ⟨by decide, by decide, by decide⟩ (Nat.le_of_ble_eq_true rfl) (Nat.le_of_ble_eq_true rfl) ?_
  rw [show (gNew (gNew g _) _).2 = y + 3 by show g.2 + 1 + 1 = _; omega]
  refine r_putFR hX dX8_init_26 (gNew_old (gNew_old (gNew_old hy (by show y < g.2 ; omega)) (by show y < g.2 + 1 ; omega)) (by show y < g.2 + 1 + 1 ; omega)) ff_X8_16 rfl rfl rfl ?_
  refine r_aload_n hX dX8_init_29 rfl ?_
  refine r_bipush (v := 60) hX dX8_init_30 (by decide) ?_
  refine r_newa (t := 1) (n := 60) hX dX8_init_32 ⟨List.mem_of_getElem? (i := 296) (by decide +kernel), by decide +kernel⟩ ⟨by decide, rfl⟩ ⟨by decide, by decide, by decide⟩ (Nat.le_of_ble_eq_true rfl) (Nat.le_of_ble_eq_true rfl) ?_
  rw [show (gNew (gNew (gNew g _) _) _).2 = y + 4 by show g.2 + 1 + 1 + 1 = _; omega]
  refine r_putFR hX dX8_init_34 (gNew_old (gNew_old (gNew_old (gNew_old hy (by show y < g.2 ; omega)) (by show y < g.2 + 1 ; omega)) (by show y < g.2 + 1 + 1 ; omega)) (by show y < g.2 + 1 + 1 + 1 ; omega)) ff_X8_19 rfl rfl rfl ?_
  refine r_aload_n hX dX8_init_37 rfl ?_
  refine r_iconst (v := (-1)) hX dX8_init_38 (by decide) ?_
  refine r_putI hX dX8_init_39 (gNew_old (gNew_old (gNew_old (gNew_old hy (by show y < g.2 ; omega)) (by show y < g.2 + 1 ; omega)) (by show y < g.2 + 1 + 1 ; omega)) (by show y < g.2 + 1 + 1 + 1 ; omega)) fl_X8_23 ?_
  refine r_aload_n hX dX8_init_42 rfl ?_
  refine r_iconst (v := (-1)) hX dX8_init_43 (by decide) ?_
  refine r_putI hX dX8_init_44 (gNew_old (gNew_old (gNew_old (gNew_old hy (by show y < g.2 ; omega)) (by show y < g.2 + 1 ; omega)) (by show y < g.2 + 1 + 1 ; omega)) (by show y < g.2 + 1 + 1 + 1 ; omega)) fl_X8_27 ?_
  refine r_aload_n hX dX8_init_47 rfl ?_
  refine r_sipush (v := 244) hX dX8_init_48 (by decide) ?_
  refine r_newa (t := 0) (n := 244) hX dX8_init_51 ⟨List.mem_of_getElem? (i := 174) (by decide +kernel), by decide +kernel⟩ ⟨by decide, rfl⟩ ⟨by decide, by decide, by decide⟩ (Nat.le_of_ble_eq_true rfl) (Nat.le_of_ble_eq_true rfl) ?_
  rw [show (gNew (gNew (gNew (gNew g _) _) _) _).2 = y + 5 by show g.2 + 1 + 1 + 1 + 1 = _; omega]
  refine r_putFR hX dX8_init_53 (gNew_old (gNew_old (gNew_old (gNew_old (gNew_old hy (by show y < g.2 ; omega)) (by show y < g.2 + 1 ; omega)) (by show y < g.2 + 1 + 1 ; omega)) (by show y < g.2 + 1 + 1 + 1 ; omega)) (by show y < g.2 + 1 + 1 + 1 + 1 ; omega)) ff_X8_30 rfl rfl rfl ?_
  refine r_aload_n hX dX8_init_56 rfl ?_
  refine r_sipush (v := 160) hX dX8_init_57 (by decide) ?_
  refine r_newa (t := 1) (n := 160) hX dX8_init_60 ⟨List.mem_of_getElem? (i := 296) (by decide +kernel), by decide +kernel⟩ ⟨by decide, rfl⟩ ⟨by decide, by decide, by decide⟩ (Nat.le_of_ble_eq_true rfl) (Nat.le_of_ble_eq_true rfl) ?_
  rw [show (gNew (gNew (gNew (gNew (gNew g _) _) _) _) _).2 = y + 6 by show g.2 + 1 + 1 + 1 + 1 + 1 = _; omega]
  refine r_putFR hX dX8_init_62 (gNew_old (gNew_old (gNew_old (gNew_old (gNew_old (gNew_old hy (by show y < g.2 ; omega)) (by show y < g.2 + 1 ; omega)) (by show y < g.2 + 1 + 1 ; omega)) (by show y < g.2 + 1 + 1 + 1 ; omega)) (by show y < g.2 + 1 + 1 + 1 + 1 ; omega)) (by show y < g.2 + 1 + 1 + 1 + 1 + 1 ; omega)) ff_X8_33 rfl rfl rfl ?_
  obtain ⟨M, hM⟩ : ∃ M, M = wI (wI (wR (wZ (wR (wZ (wI (wI (wR (wZ (wR (wZ (wR (wZ (wR (wZ m (y + 1)) y 1 (some (y + 1))) (y + 2)) y 5 (some (y + 2))) (y + 3)) y 6 (some (y + 3))) (y + 4)) y 7 (some (y + 4))) y 11 (-1)) y 12 (-1)) (y + 5)) y 13 (some (y + 5))) (y + 6)) y 15 (some (y + 6))) (y + 1) 3 20) (y + 1) 4 2 := ⟨_, rfl⟩
  have hall : qR (wR (wZ (wR (wZ (wI (wI (wR (wZ (wR (wZ (wR (wZ (wR (wZ m (y + 1)) y 1 (some (y + 1))) (y + 2)) y 5 (some (y + 2))) (y + 3)) y 6 (some (y + 3))) (y + 4)) y 7 (some (y + 4))) y 11 (-1)) y 12 (-1)) (y + 5)) y 13 (some (y + 5))) (y + 6)) y 15 (some (y + 6))) y 1 = some (y + 1) := by
    simp [qR_wR, qR_wZ, qR_wI]
  refine r_aload_n hX dX8_init_65 rfl ?_
  refine r_getR hX dX8_init_66 (gNew_old (gNew_old (gNew_old (gNew_old (gNew_old (gNew_old hy (by show y < g.2 ; omega)) (by show y < g.2 + 1 ; omega)) (by show y < g.2 + 1 + 1 ; omega)) (by show y < g.2 + 1 + 1 + 1 ; omega)) (by show y < g.2 + 1 + 1 + 1 + 1 ; omega)) (by show y < g.2 + 1 + 1 + 1 + 1 + 1 ; omega)) fl_X8_9 hall ?_
  refine r_iconst (v := 3) hX dX8_init_69 (by decide) ?_
  refine r_bipush (v := 20) hX dX8_init_70 (by decide) ?_
  refine r_iastoreN hX dX8_init_72 (gM_at g (j := 0) hg (by decide)) (show 3 < 539 by decide) (by decide) ?_
  refine r_aload_n hX dX8_init_73 rfl ?_
  refine r_getR hX dX8_init_74 (gNew_old (gNew_old (gNew_old (gNew_old (gNew_old (gNew_old hy (by show y < g.2 ; omega)) (by show y < g.2 + 1 ; omega)) (by show y < g.2 + 1 + 1 ; omega)) (by show y < g.2 + 1 + 1 + 1 ; omega)) (by show y < g.2 + 1 + 1 + 1 + 1 ; omega)) (by show y < g.2 + 1 + 1 + 1 + 1 + 1 ; omega)) fl_X8_9 hall ?_
  refine r_iconst (v := 4) hX dX8_init_77 (by decide) ?_
  refine r_iconst (v := 2) hX dX8_init_78 (by decide) ?_
  refine r_iastoreN hX dX8_init_79 (gM_at g (j := 0) hg (by decide)) (show 4 < 539 by decide) (by decide) ?_
  refine r_vret hX dX8_init_80 ?_ ⟨Nat.le_of_ble_eq_true rfl, Nat.le_of_ble_eq_true rfl⟩
  show _ ∧ _ ∧ ModV (gMod g) (wI (wI (wR (wZ (wR (wZ (wI (wI (wR (wZ (wR (wZ (wR (wZ (wR (wZ m (y + 1)) y 1 (some (y + 1))) (y + 2)) y 5 (some (y + 2))) (y + 3)) y 6 (some (y + 3))) (y + 4)) y 7 (some (y + 4))) y 11 (-1)) y 12 (-1)) (y + 5)) y 13 (some (y + 5))) (y + 6)) y 15 (some (y + 6))) (y + 1) 3 20) (y + 1) 4 2) y O0 ∧ OutN y 7 m (wI (wI (wR (wZ (wR (wZ (wI (wI (wR (wZ (wR (wZ (wR (wZ (wR (wZ m (y + 1)) y 1 (some (y + 1))) (y + 2)) y 5 (some (y + 2))) (y + 3)) y 6 (some (y + 3))) (y + 4)) y 7 (some (y + 4))) y 11 (-1)) y 12 (-1)) (y + 5)) y 13 (some (y + 5))) (y + 6)) y 15 (some (y + 6))) (y + 1) 3 20) (y + 1) 4 2)
  have hN : OutN y 7 m (wI (wI (wR (wZ (wR (wZ (wI (wI (wR (wZ (wR (wZ (wR (wZ (wR (wZ m (y + 1)) y 1 (some (y + 1))) (y + 2)) y 5 (some (y + 2))) (y + 3)) y 6 (some (y + 3))) (y + 4)) y 7 (some (y + 4))) y 11 (-1)) y 12 (-1)) (y + 5)) y 13 (some (y + 5))) (y + 6)) y 15 (some (y + 6))) (y + 1) 3 20) (y + 1) 4 2) := (((((((((((((((((OutN.rf y 7 m).wZ (by omega)).wR (by omega)).wZ (by omega)).wR (by omega)).wZ (by omega)).wR (by omega)).wZ (by omega)).wR (by omega)).wI (by omega)).wI (by omega)).wZ (by omega)).wR (by omega)).wZ (by omega)).wR (by omega)).wI (by omega)).wI (by omega))
  rw [← hM] at hN ⊢
  have hr : ∀ k, qR M y k = if k = 15 then some (y + 6) else if k = 13 then some (y + 5) else if k = 7 then some (y + 4) else if k = 6 then some (y + 3) else if k = 5 then some (y + 2) else if k = 1 then some (y + 1) else qR m y k := fun k => by
    rw [hM]
    simp only [qR_wR, qR_wZ, qR_wI, true_and]
    repeat rw [if_neg (show ¬ y = y + 6 by omega)]
    repeat rw [if_neg (show ¬ y = y + 5 by omega)]
    repeat rw [if_neg (show ¬ y = y + 4 by omega)]
    repeat rw [if_neg (show ¬ y = y + 3 by omega)]
    repeat rw [if_neg (show ¬ y = y + 2 by omega)]
    repeat rw [if_neg (show ¬ y = y + 1 by omega)]
  have hy0 : ∀ k, qI M y k = if k = 12 then -1 else if k = 11 then -1 else 0 := fun k => by
    rw [hM]
    simp only [qI_wR, qI_wZ, qI_wI, true_and]
    rw [if_neg (show ¬ (y = y + 1 ∧ k = 4) by omega), if_neg (show ¬ (y = y + 1 ∧ k = 3) by omega), if_neg (show ¬ y = y + 6 by omega), if_neg (show ¬ y = y + 5 by omega), if_neg (show ¬ y = y + 4 by omega), if_neg (show ¬ y = y + 3 by omega), if_neg (show ¬ y = y + 2 by omega), if_neg (show ¬ y = y + 1 by omega), hz]
  have ha0 : ∀ k, qI M (y + 1) k = if k = 4 then 2 else if k = 3 then 20 else 0 := fun k => by
    rw [hM]
    simp only [qI_wR, qI_wZ, qI_wI, true_and]
    rw [if_neg (show ¬ y + 1 = y + 6 by omega), if_neg (show ¬ y + 1 = y + 5 by omega), if_neg (show ¬ (y + 1 = y ∧ k = 12) by omega), if_neg (show ¬ (y + 1 = y ∧ k = 11) by omega), if_neg (show ¬ y + 1 = y + 4 by omega), if_neg (show ¬ y + 1 = y + 3 by omega), if_neg (show ¬ y + 1 = y + 2 by omega), if_pos trivial]
  refine ⟨rfl, rfl, ⟨⟨⟨⟨(gNew_old (gNew_old (gNew_old (gNew_old (gNew_old (gNew_old hy (by show y < g.2 ; omega)) (by show y < g.2 + 1 ; omega)) (by show y < g.2 + 1 + 1 ; omega)) (by show y < g.2 + 1 + 1 + 1 ; omega)) (by show y < g.2 + 1 + 1 + 1 + 1 ; omega)) (by show y < g.2 + 1 + 1 + 1 + 1 + 1 ; omega)), gM_at g (j := 0) hg (by decide), gM_at g (j := 1) hg (by decide), gM_at g (j := 2) hg (by decide), gM_at g (j := 3) hg (by decide), gM_at g (j := 4) hg (by decide), gM_at g (j := 5) hg (by decide)⟩, ⟨hr 1, hr 5, hr 6, hr 7, hr 13, hr 15⟩⟩, ⟨hy0 2, Nat.zero_le _, fun i V hi => ?_⟩, ⟨hy0 3, fun V hV => (nomatch hV)⟩, ⟨hy0 11, hy0 12⟩, ⟨hy0 8, fun j hj => absurd hj (Nat.not_lt_zero _)⟩, hy0 16, fun j hj => absurd hj (Nat.not_lt_zero _)⟩, by decide, ?_⟩, hN⟩
  · have hi : ([] : List kV)[i]? = some V := hi
    simp at hi
  · have hR : ∀ k, rowF M y 0 k = if k = 4 then 2 else if k = 3 then 20 else 0 := fun k => by rw [rowF_0]; exact ha0 k
    refine ⟨hR 0, fun k h1 h2 => ?_, fun i k hi => absurd hi (Nat.not_lt_zero _), fun j hj => ?_⟩
    · rw [hR]
      show _ = nI (if k = 3 then 20 else if k = 4 then 2 else 0)
      obtain rfl | rfl | rfl | rfl | rfl | rfl : k = 1 ∨ k = 2 ∨ k = 3 ∨ k = 4 ∨ k = 5 ∨ k = 6 := by omega
      all_goals rfl
    · rw [hR, if_neg (by omega), if_neg (by omega)]
      rfl
