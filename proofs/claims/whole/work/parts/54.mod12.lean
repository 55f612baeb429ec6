/-! ===== CometObservatoryModel: the line ===== -/
def PL (y : Nat) : Nat → Nat → Prop := fun a j => a = y + 6 ∨ (a = y ∧ j = 16)
def PN (y : Nat) : Nat → Nat → Prop := fun a j => a = y + 6 ∨ (a = y ∧ (j = 16 ∨ j = 0))
theorem decL_1 {w : Nat} (h : w < 10) : decL w = [48 + w] := by
  unfold decL
  rw [show digs w = 1 from if_pos h]
  show [dg w (1 - 1 - 0)] = _
  unfold dg
  rw [show 48 + w / 10 ^ (1 - 1 - 0) % 10 = 48 + w by show 48 + w / 1 % 10 = _; rw [Nat.div_one, Nat.mod_eq_of_lt h]]
theorem decL_10 {w : Nat} (h : 10 ≤ w) (h9 : w < 1000000000) : decL w = decL (w / 10) ++ [48 + w % 10] := by
  unfold decL
  rw [digs_10 h h9, List.range_succ, List.map_append]
  refine congr (congrArg HAppend.hAppend (List.map_congr_left (fun i hi => ?_))) ?_
  · have hi := List.mem_range.mp hi
    unfold dg
    rw [show digs (w / 10) + 1 - 1 - i = digs (w / 10) - 1 - i + 1 by omega, Nat.pow_succ, Nat.mul_comm, ← Nat.div_div_eq_div_mul]
  · show [dg w (digs (w / 10) + 1 - 1 - digs (w / 10))] = _
    rw [show digs (w / 10) + 1 - 1 - digs (w / 10) = 0 by omega]
    unfold dg
    rw [Nat.pow_zero, Nat.div_one]
theorem ModV.ln {g : qG} {m m' : qM} {y : Nat} {O : kO} (h : ModV g m y O) {l : List Nat} (hM : MF (PN y) m m') (hL : LnM m' y l) : ModV g m' y (setLn O l) := by
  obtain ⟨⟨b1, ⟨b2, b3, b4⟩, ⟨b5, b6⟩, ⟨b7, b8⟩, ⟨b9, b10⟩, b11⟩, hl, hR⟩ := h
  have eo : ∀ a j, ¬ PN y a j → qI m' a j = qI m a j := hM.1
  have er : ∀ w, rowF m' y w = rowF m y w := fun w => by funext k; exact eo _ _ (by unfold PN; omega)
  refine ⟨⟨b1.to hM.2, ⟨?_, b3, fun i W hi => ?_⟩, ⟨?_, fun W hW => ?_⟩, ⟨?_, ?_⟩, ⟨?_, fun j hj => ?_⟩, hL⟩, hl, ?_⟩
  · rw [eo _ _ (by unfold PN; omega)]; exact b2
  · rw [er]; exact b4 i W hi
  · rw [eo _ _ (by unfold PN; omega)]; exact b5
  · rw [er]; exact b6 W hW
  · rw [eo _ _ (by unfold PN; omega)]; exact b7
  · rw [eo _ _ (by unfold PN; omega)]; exact b8
  · rw [eo _ _ (by unfold PN; omega)]; exact b9
  · rw [eo _ _ (by unfold PN; omega)]; exact b10 j hj
  · rw [er]; exact hR
theorem PL_N {y : Nat} {m m' : qM} (h : MF (PL y) m m') : MF (PN y) m m' := h.mono (fun a j hp => by unfold PL at hp; unfold PN; omega)
theorem PN_M {y : Nat} {m m' : qM} (h : MF (PN y) m m') : MF (PM y) m m' := h.mono (fun a j hp => by unfold PN at hp; unfold PM; omega)
theorem PL_row {y : Nat} {m m' : qM} (h : MF (PL y) m m') : rowF m' y 0 = rowF m y 0 := by funext k; exact h.1 _ _ (by unfold PL; omega)
theorem PN_row {y : Nat} {m m' : qM} (h : MF (PN y) m m') : rowF m' y 0 = rowF m y 0 := by funext k; exact h.1 _ _ (by unfold PN; omega)
set_option maxRecDepth 20000 in
set_option maxHeartbeats 4000000 in
theorem s_X8_writes (E : qE) (g : qG) (m : qM) (y : Nat) (hs : ModS g m y) (cs : List Nat) (hL : LnM m y cs) (hl : cs.length < 160) (c : Nat) (hc : c < 65536) : Sp E yX8_writes cX8_writes 2 none 0 0 0 [.ref y, .int (nI c)] g m (fun v g' m' => v = none ∧ g' = g ∧ LnM m' y (cs ++ [c]) ∧ MF (PL y) m m') := by
  refine Sp.of (by decide) [some (.ref y), some (.int (nI c))] rfl rfl (Nat.le_of_ble_eq_true rfl) (fun X hX => ?_)
  refine r_aload_n hX dX8_writes_0 rfl ?_
  refine r_getR hX dX8_writes_1 hs.1.1 fl_X8_33 hs.2.2.2.2.2.2 ?_
  refine r_aload_n hX dX8_writes_4 rfl ?_
  refine r_getI hX dX8_writes_5 hs.1.1 fl_X8_199 ?_
  rw [hL.1]
  refine r_iload_n hX dX8_writes_8 rfl ?_
  refine r_i2c hX dX8_writes_9 ?_
  rw [i2c_n hc]
  refine r_castoreN hX dX8_writes_10 hs.1.2.2.2.2.2.2 hl (by decide) ?_
  rw [nar_c hc]
  refine r_aload_n hX dX8_writes_11 rfl ?_
  refine r_dup hX dX8_writes_12 rfl ?_
  refine r_getI hX dX8_writes_13 hs.1.1 fl_X8_199 ?_
  rw [qI_wI_a _ _ _ _ (by omega), hL.1]
  refine r_iconst (v := 1) hX dX8_writes_16 (by decide) ?_
  refine r_iadd hX dX8_writes_17 ?_
  rw [nI_1]
  refine r_putI hX dX8_writes_18 hs.1.1 fl_X8_199 ?_
  refine r_vret hX dX8_writes_21 ⟨rfl, rfl, ⟨?_, fun j hj => ?_⟩, ?_⟩ ⟨Nat.le_of_ble_eq_true rfl, Nat.le_of_ble_eq_true rfl⟩
  · rw [qI_wI_s, List.length_append]
    rfl
  · rw [List.length_append] at hj
    have hj : j < cs.length + 1 := hj
    rw [qI_wI_a _ _ _ _ (by omega), qI_wI, getD_app]
    by_cases e : j = cs.length
    · subst e
      rw [if_pos ⟨rfl, rfl⟩, if_neg (by omega), Nat.sub_self]
      rfl
    · rw [if_neg (fun h => e h.2), if_pos (by omega)]
      exact hL.2 j (by omega)
  · exact ((MF.rf _ _).wI (Or.inl rfl)).wI (Or.inr ⟨rfl, rfl⟩)
set_option maxRecDepth 20000 in
set_option maxHeartbeats 4000000 in
theorem s_X8_wn1 (E : qE) (g : qG) (m : qM) (y : Nat) (hs : ModS g m y) (cs : List Nat) (hL : LnM m y cs) (w : Nat) (hw : w < 10) (hl : cs.length + digs w ≤ 160) : Sp E yX8_writesNumber cX8_writesNumber 2 none 1 0 0 [.ref y, .int (nI w)] g m (fun v g' m' => v = none ∧ g' = g ∧ LnM m' y (cs ++ decL w) ∧ MF (PL y) m m') := by
  refine Sp.of (by decide) [some (.ref y), some (.int (nI w))] rfl rfl (Nat.le_of_ble_eq_true rfl) (fun X hX => ?_)
  refine r_iload_n hX dX8_writesNumber_0 rfl ?_
  refine r_bipush (v := 9) hX dX8_writesNumber_1 (by decide) ?_
  refine r_icmp_le (tgt := 14) hX dX8_writesNumber_3 (by decide) (fun c3 => ?_) (fun c3 => ?_)
  · have h10 : w < 10 := by have := (nI_leI (b := 9) (by omega) (by decide)).mp c3; omega
    have hd1 : digs w = 1 := if_pos h10
    refine r_aload_n hX dX8_writesNumber_14 rfl ?_
    refine r_bipush (v := 48) hX dX8_writesNumber_15 (by decide) ?_
    refine r_iload_n hX dX8_writesNumber_17 rfl ?_
    refine r_bipush (v := 10) hX dX8_writesNumber_18 (by decide) ?_
    refine r_irem hX dX8_writesNumber_20 (by decide) ?_
    rw [show nI w - nI w / 10 * 10 = nI (w % 10) from pk_rem (d := 10) (by omega) (by decide) (by decide)]
    refine r_iadd hX dX8_writesNumber_21 ?_
    rw [show (48 : Int32) + nI (w % 10) = nI (48 + w % 10) from nI_add 48 _]
    refine r_callV hX dX8_writesNumber_22 (s_X8_writes E g m y hs (cs) hL (by omega) (48 + w % 10) (by omega)) ml_X8_205 rfl rfl hs.1.1 rfl ⟨Nat.le_of_ble_eq_true rfl, Nat.le_of_ble_eq_true rfl⟩ ⟨Nat.le_of_ble_eq_true rfl, Nat.le_of_ble_eq_true rfl, rfl, Nat.le_of_ble_eq_true rfl⟩ (fun v22 g22 m22 hp => ?_)
    obtain ⟨hv, hg, hL2, hM2⟩ := hp
    subst v22
    subst g22
    rw [Nat.mod_eq_of_lt h10, ← decL_1 h10] at hL2
    exact r_vret hX dX8_writesNumber_25 ⟨rfl, rfl, hL2, hM2⟩ ⟨Nat.le_of_ble_eq_true rfl, Nat.le_of_ble_eq_true rfl⟩
  · exact absurd (nI_le (b := 9) (by omega) (by decide)) c3
set_option maxRecDepth 20000 in
set_option maxHeartbeats 4000000 in
theorem s_X8_wn2 (E : qE) (g : qG) (m : qM) (y : Nat) (hs : ModS g m y) (cs : List Nat) (hL : LnM m y cs) (w : Nat) (hw : w < 100) (hl : cs.length + digs w ≤ 160) : Sp E yX8_writesNumber cX8_writesNumber 2 none 2 0 0 [.ref y, .int (nI w)] g m (fun v g' m' => v = none ∧ g' = g ∧ LnM m' y (cs ++ decL w) ∧ MF (PL y) m m') := by
  refine Sp.of (by decide) [some (.ref y), some (.int (nI w))] rfl rfl (Nat.le_of_ble_eq_true rfl) (fun X hX => ?_)
  refine r_iload_n hX dX8_writesNumber_0 rfl ?_
  refine r_bipush (v := 9) hX dX8_writesNumber_1 (by decide) ?_
  refine r_icmp_le (tgt := 14) hX dX8_writesNumber_3 (by decide) (fun c3 => ?_) (fun c3 => ?_)
  · have h10 : w < 10 := by have := (nI_leI (b := 9) (by omega) (by decide)).mp c3; omega
    have hd1 : digs w = 1 := if_pos h10
    refine r_aload_n hX dX8_writesNumber_14 rfl ?_
    refine r_bipush (v := 48) hX dX8_writesNumber_15 (by decide) ?_
    refine r_iload_n hX dX8_writesNumber_17 rfl ?_
    refine r_bipush (v := 10) hX dX8_writesNumber_18 (by decide) ?_
    refine r_irem hX dX8_writesNumber_20 (by decide) ?_
    rw [show nI w - nI w / 10 * 10 = nI (w % 10) from pk_rem (d := 10) (by omega) (by decide) (by decide)]
    refine r_iadd hX dX8_writesNumber_21 ?_
    rw [show (48 : Int32) + nI (w % 10) = nI (48 + w % 10) from nI_add 48 _]
    refine r_callV hX dX8_writesNumber_22 (s_X8_writes E g m y hs (cs) hL (by omega) (48 + w % 10) (by omega)) ml_X8_205 rfl rfl hs.1.1 rfl ⟨Nat.le_of_ble_eq_true rfl, Nat.le_of_ble_eq_true rfl⟩ ⟨Nat.le_of_ble_eq_true rfl, Nat.le_of_ble_eq_true rfl, rfl, Nat.le_of_ble_eq_true rfl⟩ (fun v22 g22 m22 hp => ?_)
    obtain ⟨hv, hg, hL2, hM2⟩ := hp
    subst v22
    subst g22
    rw [Nat.mod_eq_of_lt h10, ← decL_1 h10] at hL2
    exact r_vret hX dX8_writesNumber_25 ⟨rfl, rfl, hL2, hM2⟩ ⟨Nat.le_of_ble_eq_true rfl, Nat.le_of_ble_eq_true rfl⟩
  · have h10 : 10 ≤ w := Nat.lt_of_not_le (fun h => c3 ((nI_leI (b := 9) (by omega) (by decide)).mpr (by omega)))
    have hd1 := digs_10 h10 (by omega)
    refine r_aload_n hX dX8_writesNumber_6 rfl ?_
    refine r_iload_n hX dX8_writesNumber_7 rfl ?_
    refine r_bipush (v := 10) hX dX8_writesNumber_8 (by decide) ?_
    refine r_idiv hX dX8_writesNumber_10 (by decide) ?_
    rw [show nI w / (10 : Int32) = nI (w / 10) from pk_div (d := 10) (by omega) (by decide) (by decide)]
    refine r_callV hX dX8_writesNumber_11 (s_X8_wn1 E g m y hs cs hL (w / 10) (by omega) (by omega)) ml_X8_202 rfl rfl hs.1.1 rfl ⟨Nat.le_of_ble_eq_true rfl, Nat.le_of_ble_eq_true rfl⟩ ⟨Nat.le_of_ble_eq_true rfl, Nat.le_of_ble_eq_true rfl, rfl, Nat.le_of_ble_eq_true rfl⟩ (fun v11 g11 m11 hp => ?_)
    obtain ⟨hv, hg, hL1, hM1⟩ := hp
    subst v11
    subst g11
    have hl1 : (cs ++ decL (w / 10)).length = cs.length + digs (w / 10) := by rw [List.length_append, decL_len]
    refine r_aload_n hX dX8_writesNumber_14 rfl ?_
    refine r_bipush (v := 48) hX dX8_writesNumber_15 (by decide) ?_
    refine r_iload_n hX dX8_writesNumber_17 rfl ?_
    refine r_bipush (v := 10) hX dX8_writesNumber_18 (by decide) ?_
    refine r_irem hX dX8_writesNumber_20 (by decide) ?_
    rw [show nI w - nI w / 10 * 10 = nI (w % 10) from pk_rem (d := 10) (by omega) (by decide) (by decide)]
    refine r_iadd hX dX8_writesNumber_21 ?_
    rw [show (48 : Int32) + nI (w % 10) = nI (48 + w % 10) from nI_add 48 _]
    refine r_callV hX dX8_writesNumber_22 (s_X8_writes E g m11 y (hs.to hM1.2) (cs ++ decL (w / 10)) hL1 (by omega) (48 + w % 10) (by omega)) ml_X8_205 rfl rfl hs.1.1 rfl ⟨Nat.le_of_ble_eq_true rfl, Nat.le_of_ble_eq_true rfl⟩ ⟨Nat.le_of_ble_eq_true rfl, Nat.le_of_ble_eq_true rfl, rfl, Nat.le_of_ble_eq_true rfl⟩ (fun v22 g22 m22 hp => ?_)
    obtain ⟨hv, hg, hL2, hM2⟩ := hp
    subst v22
    subst g22
    rw [List.append_assoc, ← decL_10 h10 (by omega)] at hL2
    exact r_vret hX dX8_writesNumber_25 ⟨rfl, rfl, hL2, hM1.tr hM2⟩ ⟨Nat.le_of_ble_eq_true rfl, Nat.le_of_ble_eq_true rfl⟩
set_option maxRecDepth 20000 in
set_option maxHeartbeats 4000000 in
theorem s_X8_wn3 (E : qE) (g : qG) (m : qM) (y : Nat) (hs : ModS g m y) (cs : List Nat) (hL : LnM m y cs) (w : Nat) (hw : w < 1000) (hl : cs.length + digs w ≤ 160) : Sp E yX8_writesNumber cX8_writesNumber 2 none 3 0 0 [.ref y, .int (nI w)] g m (fun v g' m' => v = none ∧ g' = g ∧ LnM m' y (cs ++ decL w) ∧ MF (PL y) m m') := by
  refine Sp.of (by decide) [some (.ref y), some (.int (nI w))] rfl rfl (Nat.le_of_ble_eq_true rfl) (fun X hX => ?_)
  refine r_iload_n hX dX8_writesNumber_0 rfl ?_
  refine r_bipush (v := 9) hX dX8_writesNumber_1 (by decide) ?_
  refine r_icmp_le (tgt := 14) hX dX8_writesNumber_3 (by decide) (fun c3 => ?_) (fun c3 => ?_)
  · have h10 : w < 10 := by have := (nI_leI (b := 9) (by omega) (by decide)).mp c3; omega
    have hd1 : digs w = 1 := if_pos h10
    refine r_aload_n hX dX8_writesNumber_14 rfl ?_
    refine r_bipush (v := 48) hX dX8_writesNumber_15 (by decide) ?_
    refine r_iload_n hX dX8_writesNumber_17 rfl ?_
    refine r_bipush (v := 10) hX dX8_writesNumber_18 (by decide) ?_
    refine r_irem hX dX8_writesNumber_20 (by decide) ?_
    rw [show nI w - nI w / 10 * 10 = nI (w % 10) from pk_rem (d := 10) (by omega) (by decide) (by decide)]
    refine r_iadd hX dX8_writesNumber_21 ?_
    rw [show (48 : Int32) + nI (w % 10) = nI (48 + w % 10) from nI_add 48 _]
    refine r_callV hX dX8_writesNumber_22 (s_X8_writes E g m y hs (cs) hL (by omega) (48 + w % 10) (by omega)) ml_X8_205 rfl rfl hs.1.1 rfl ⟨Nat.le_of_ble_eq_true rfl, Nat.le_of_ble_eq_true rfl⟩ ⟨Nat.le_of_ble_eq_true rfl, Nat.le_of_ble_eq_true rfl, rfl, Nat.le_of_ble_eq_true rfl⟩ (fun v22 g22 m22 hp => ?_)
    obtain ⟨hv, hg, hL2, hM2⟩ := hp
    subst v22
    subst g22
    rw [Nat.mod_eq_of_lt h10, ← decL_1 h10] at hL2
    exact r_vret hX dX8_writesNumber_25 ⟨rfl, rfl, hL2, hM2⟩ ⟨Nat.le_of_ble_eq_true rfl, Nat.le_of_ble_eq_true rfl⟩
  · have h10 : 10 ≤ w := Nat.lt_of_not_le (fun h => c3 ((nI_leI (b := 9) (by omega) (by decide)).mpr (by omega)))
    have hd1 := digs_10 h10 (by omega)
    refine r_aload_n hX dX8_writesNumber_6 rfl ?_
    refine r_iload_n hX dX8_writesNumber_7 rfl ?_
    refine r_bipush (v := 10) hX dX8_writesNumber_8 (by decide) ?_
    refine r_idiv hX dX8_writesNumber_10 (by decide) ?_
    rw [show nI w / (10 : Int32) = nI (w / 10) from pk_div (d := 10) (by omega) (by decide) (by decide)]
    refine r_callV hX dX8_writesNumber_11 (s_X8_wn2 E g m y hs cs hL (w / 10) (by omega) (by omega)) ml_X8_202 rfl rfl hs.1.1 rfl ⟨Nat.le_of_ble_eq_true rfl, Nat.le_of_ble_eq_true rfl⟩ ⟨Nat.le_of_ble_eq_true rfl, Nat.le_of_ble_eq_true rfl, rfl, Nat.le_of_ble_eq_true rfl⟩ (fun v11 g11 m11 hp => ?_)
    obtain ⟨hv, hg, hL1, hM1⟩ := hp
    subst v11
    subst g11
    have hl1 : (cs ++ decL (w / 10)).length = cs.length + digs (w / 10) := by rw [List.length_append, decL_len]
    refine r_aload_n hX dX8_writesNumber_14 rfl ?_
    refine r_bipush (v := 48) hX dX8_writesNumber_15 (by decide) ?_
    refine r_iload_n hX dX8_writesNumber_17 rfl ?_
    refine r_bipush (v := 10) hX dX8_writesNumber_18 (by decide) ?_
    refine r_irem hX dX8_writesNumber_20 (by decide) ?_
    rw [show nI w - nI w / 10 * 10 = nI (w % 10) from pk_rem (d := 10) (by omega) (by decide) (by decide)]
    refine r_iadd hX dX8_writesNumber_21 ?_
    rw [show (48 : Int32) + nI (w % 10) = nI (48 + w % 10) from nI_add 48 _]
    refine r_callV hX dX8_writesNumber_22 (s_X8_writes E g m11 y (hs.to hM1.2) (cs ++ decL (w / 10)) hL1 (by omega) (48 + w % 10) (by omega)) ml_X8_205 rfl rfl hs.1.1 rfl ⟨Nat.le_of_ble_eq_true rfl, Nat.le_of_ble_eq_true rfl⟩ ⟨Nat.le_of_ble_eq_true rfl, Nat.le_of_ble_eq_true rfl, rfl, Nat.le_of_ble_eq_true rfl⟩ (fun v22 g22 m22 hp => ?_)
    obtain ⟨hv, hg, hL2, hM2⟩ := hp
    subst v22
    subst g22
    rw [List.append_assoc, ← decL_10 h10 (by omega)] at hL2
    exact r_vret hX dX8_writesNumber_25 ⟨rfl, rfl, hL2, hM1.tr hM2⟩ ⟨Nat.le_of_ble_eq_true rfl, Nat.le_of_ble_eq_true rfl⟩
set_option maxRecDepth 20000 in
set_option maxHeartbeats 4000000 in
theorem s_X8_wn4 (E : qE) (g : qG) (m : qM) (y : Nat) (hs : ModS g m y) (cs : List Nat) (hL : LnM m y cs) (w : Nat) (hw : w < 10000) (hl : cs.length + digs w ≤ 160) : Sp E yX8_writesNumber cX8_writesNumber 2 none 4 0 0 [.ref y, .int (nI w)] g m (fun v g' m' => v = none ∧ g' = g ∧ LnM m' y (cs ++ decL w) ∧ MF (PL y) m m') := by
  refine Sp.of (by decide) [some (.ref y), some (.int (nI w))] rfl rfl (Nat.le_of_ble_eq_true rfl) (fun X hX => ?_)
  refine r_iload_n hX dX8_writesNumber_0 rfl ?_
  refine r_bipush (v := 9) hX dX8_writesNumber_1 (by decide) ?_
  refine r_icmp_le (tgt := 14) hX dX8_writesNumber_3 (by decide) (fun c3 => ?_) (fun c3 => ?_)
  · have h10 : w < 10 := by have := (nI_leI (b := 9) (by omega) (by decide)).mp c3; omega
    have hd1 : digs w = 1 := if_pos h10
    refine r_aload_n hX dX8_writesNumber_14 rfl ?_
    refine r_bipush (v := 48) hX dX8_writesNumber_15 (by decide) ?_
    refine r_iload_n hX dX8_writesNumber_17 rfl ?_
    refine r_bipush (v := 10) hX dX8_writesNumber_18 (by decide) ?_
    refine r_irem hX dX8_writesNumber_20 (by decide) ?_
    rw [show nI w - nI w / 10 * 10 = nI (w % 10) from pk_rem (d := 10) (by omega) (by decide) (by decide)]
    refine r_iadd hX dX8_writesNumber_21 ?_
    rw [show (48 : Int32) + nI (w % 10) = nI (48 + w % 10) from nI_add 48 _]
    refine r_callV hX dX8_writesNumber_22 (s_X8_writes E g m y hs (cs) hL (by omega) (48 + w % 10) (by omega)) ml_X8_205 rfl rfl hs.1.1 rfl ⟨Nat.le_of_ble_eq_true rfl, Nat.le_of_ble_eq_true rfl⟩ ⟨Nat.le_of_ble_eq_true rfl, Nat.le_of_ble_eq_true rfl, rfl, Nat.le_of_ble_eq_true rfl⟩ (fun v22 g22 m22 hp => ?_)
    obtain ⟨hv, hg, hL2, hM2⟩ := hp
    subst v22
    subst g22
    rw [Nat.mod_eq_of_lt h10, ← decL_1 h10] at hL2
    exact r_vret hX dX8_writesNumber_25 ⟨rfl, rfl, hL2, hM2⟩ ⟨Nat.le_of_ble_eq_true rfl, Nat.le_of_ble_eq_true rfl⟩
  · have h10 : 10 ≤ w := Nat.lt_of_not_le (fun h => c3 ((nI_leI (b := 9) (by omega) (by decide)).mpr (by omega)))
    have hd1 := digs_10 h10 (by omega)
    refine r_aload_n hX dX8_writesNumber_6 rfl ?_
    refine r_iload_n hX dX8_writesNumber_7 rfl ?_
    refine r_bipush (v := 10) hX dX8_writesNumber_8 (by decide) ?_
    refine r_idiv hX dX8_writesNumber_10 (by decide) ?_
    rw [show nI w / (10 : Int32) = nI (w / 10) from pk_div (d := 10) (by omega) (by decide) (by decide)]
    refine r_callV hX dX8_writesNumber_11 (s_X8_wn3 E g m y hs cs hL (w / 10) (by omega) (by omega)) ml_X8_202 rfl rfl hs.1.1 rfl ⟨Nat.le_of_ble_eq_true rfl, Nat.le_of_ble_eq_true rfl⟩ ⟨Nat.le_of_ble_eq_true rfl, Nat.le_of_ble_eq_true rfl, rfl, Nat.le_of_ble_eq_true rfl⟩ (fun v11 g11 m11 hp => ?_)
    obtain ⟨hv, hg, hL1, hM1⟩ := hp
    subst v11
    subst g11
    have hl1 : (cs ++ decL (w / 10)).length = cs.length + digs (w / 10) := by rw [List.length_append, decL_len]
    refine r_aload_n hX dX8_writesNumber_14 rfl ?_
    refine r_bipush (v := 48) hX dX8_writesNumber_15 (by decide) ?_
    refine r_iload_n hX dX8_writesNumber_17 rfl ?_
    refine r_bipush (v := 10) hX dX8_writesNumber_18 (by decide) ?_
    refine r_irem hX dX8_writesNumber_20 (by decide) ?_
    rw [show nI w - nI w / 10 * 10 = nI (w % 10) from pk_rem (d := 10) (by omega) (by decide) (by decide)]
    refine r_iadd hX dX8_writesNumber_21 ?_
    rw [show (48 : Int32) + nI (w % 10) = nI (48 + w % 10) from nI_add 48 _]
    refine r_callV hX dX8_writesNumber_22 (s_X8_writes E g m11 y (hs.to hM1.2) (cs ++ decL (w / 10)) hL1 (by omega) (48 + w % 10) (by omega)) ml_X8_205 rfl rfl hs.1.1 rfl ⟨Nat.le_of_ble_eq_true rfl, Nat.le_of_ble_eq_true rfl⟩ ⟨Nat.le_of_ble_eq_true rfl, Nat.le_of_ble_eq_true rfl, rfl, Nat.le_of_ble_eq_true rfl⟩ (fun v22 g22 m22 hp => ?_)
    obtain ⟨hv, hg, hL2, hM2⟩ := hp
    subst v22
    subst g22
    rw [List.append_assoc, ← decL_10 h10 (by omega)] at hL2
    exact r_vret hX dX8_writesNumber_25 ⟨rfl, rfl, hL2, hM1.tr hM2⟩ ⟨Nat.le_of_ble_eq_true rfl, Nat.le_of_ble_eq_true rfl⟩
set_option maxRecDepth 20000 in
set_option maxHeartbeats 4000000 in
theorem s_X8_wn5 (E : qE) (g : qG) (m : qM) (y : Nat) (hs : ModS g m y) (cs : List Nat) (hL : LnM m y cs) (w : Nat) (hw : w < 100000) (hl : cs.length + digs w ≤ 160) : Sp E yX8_writesNumber cX8_writesNumber 2 none 5 0 0 [.ref y, .int (nI w)] g m (fun v g' m' => v = none ∧ g' = g ∧ LnM m' y (cs ++ decL w) ∧ MF (PL y) m m') := by
  refine Sp.of (by decide) [some (.ref y), some (.int (nI w))] rfl rfl (Nat.le_of_ble_eq_true rfl) (fun X hX => ?_)
  refine r_iload_n hX dX8_writesNumber_0 rfl ?_
  refine r_bipush (v := 9) hX dX8_writesNumber_1 (by decide) ?_
  refine r_icmp_le (tgt := 14) hX dX8_writesNumber_3 (by decide) (fun c3 => ?_) (fun c3 => ?_)
  · have h10 : w < 10 := by have := (nI_leI (b := 9) (by omega) (by decide)).mp c3; omega
    have hd1 : digs w = 1 := if_pos h10
    refine r_aload_n hX dX8_writesNumber_14 rfl ?_
    refine r_bipush (v := 48) hX dX8_writesNumber_15 (by decide) ?_
    refine r_iload_n hX dX8_writesNumber_17 rfl ?_
    refine r_bipush (v := 10) hX dX8_writesNumber_18 (by decide) ?_
    refine r_irem hX dX8_writesNumber_20 (by decide) ?_
    rw [show nI w - nI w / 10 * 10 = nI (w % 10) from pk_rem (d := 10) (by omega) (by decide) (by decide)]
    refine r_iadd hX dX8_writesNumber_21 ?_
    rw [show (48 : Int32) + nI (w % 10) = nI (48 + w % 10) from nI_add 48 _]
    refine r_callV hX dX8_writesNumber_22 (s_X8_writes E g m y hs (cs) hL (by omega) (48 + w % 10) (by omega)) ml_X8_205 rfl rfl hs.1.1 rfl ⟨Nat.le_of_ble_eq_true rfl, Nat.le_of_ble_eq_true rfl⟩ ⟨Nat.le_of_ble_eq_true rfl, Nat.le_of_ble_eq_true rfl, rfl, Nat.le_of_ble_eq_true rfl⟩ (fun v22 g22 m22 hp => ?_)
    obtain ⟨hv, hg, hL2, hM2⟩ := hp
    subst v22
    subst g22
    rw [Nat.mod_eq_of_lt h10, ← decL_1 h10] at hL2
    exact r_vret hX dX8_writesNumber_25 ⟨rfl, rfl, hL2, hM2⟩ ⟨Nat.le_of_ble_eq_true rfl, Nat.le_of_ble_eq_true rfl⟩
  · have h10 : 10 ≤ w := Nat.lt_of_not_le (fun h => c3 ((nI_leI (b := 9) (by omega) (by decide)).mpr (by omega)))
    have hd1 := digs_10 h10 (by omega)
    refine r_aload_n hX dX8_writesNumber_6 rfl ?_
    refine r_iload_n hX dX8_writesNumber_7 rfl ?_
    refine r_bipush (v := 10) hX dX8_writesNumber_8 (by decide) ?_
    refine r_idiv hX dX8_writesNumber_10 (by decide) ?_
    rw [show nI w / (10 : Int32) = nI (w / 10) from pk_div (d := 10) (by omega) (by decide) (by decide)]
    refine r_callV hX dX8_writesNumber_11 (s_X8_wn4 E g m y hs cs hL (w / 10) (by omega) (by omega)) ml_X8_202 rfl rfl hs.1.1 rfl ⟨Nat.le_of_ble_eq_true rfl, Nat.le_of_ble_eq_true rfl⟩ ⟨Nat.le_of_ble_eq_true rfl, Nat.le_of_ble_eq_true rfl, rfl, Nat.le_of_ble_eq_true rfl⟩ (fun v11 g11 m11 hp => ?_)
    obtain ⟨hv, hg, hL1, hM1⟩ := hp
    subst v11
    subst g11
    have hl1 : (cs ++ decL (w / 10)).length = cs.length + digs (w / 10) := by rw [List.length_append, decL_len]
    refine r_aload_n hX dX8_writesNumber_14 rfl ?_
    refine r_bipush (v := 48) hX dX8_writesNumber_15 (by decide) ?_
    refine r_iload_n hX dX8_writesNumber_17 rfl ?_
    refine r_bipush (v := 10) hX dX8_writesNumber_18 (by decide) ?_
    refine r_irem hX dX8_writesNumber_20 (by decide) ?_
    rw [show nI w - nI w / 10 * 10 = nI (w % 10) from pk_rem (d := 10) (by omega) (by decide) (by decide)]
    refine r_iadd hX dX8_writesNumber_21 ?_
    rw [show (48 : Int32) + nI (w % 10) = nI (48 + w % 10) from nI_add 48 _]
    refine r_callV hX dX8_writesNumber_22 (s_X8_writes E g m11 y (hs.to hM1.2) (cs ++ decL (w / 10)) hL1 (by omega) (48 + w % 10) (by omega)) ml_X8_205 rfl rfl hs.1.1 rfl ⟨Nat.le_of_ble_eq_true rfl, Nat.le_of_ble_eq_true rfl⟩ ⟨Nat.le_of_ble_eq_true rfl, Nat.le_of_ble_eq_true rfl, rfl, Nat.le_of_ble_eq_true rfl⟩ (fun v22 g22 m22 hp => ?_)
    obtain ⟨hv, hg, hL2, hM2⟩ := hp
    subst v22
    subst g22
    rw [List.append_assoc, ← decL_10 h10 (by omega)] at hL2
    exact r_vret hX dX8_writesNumber_25 ⟨rfl, rfl, hL2, hM1.tr hM2⟩ ⟨Nat.le_of_ble_eq_true rfl, Nat.le_of_ble_eq_true rfl⟩
set_option maxRecDepth 20000 in
set_option maxHeartbeats 4000000 in
theorem s_X8_wn6 (E : qE) (g : qG) (m : qM) (y : Nat) (hs : ModS g m y) (cs : List Nat) (hL : LnM m y cs) (w : Nat) (hw : w < 1000000) (hl : cs.length + digs w ≤ 160) : Sp E yX8_writesNumber cX8_writesNumber 2 none 6 0 0 [.ref y, .int (nI w)] g m (fun v g' m' => v = none ∧ g' = g ∧ LnM m' y (cs ++ decL w) ∧ MF (PL y) m m') := by
  refine Sp.of (by decide) [some (.ref y), some (.int (nI w))] rfl rfl (Nat.le_of_ble_eq_true rfl) (fun X hX => ?_)
  refine r_iload_n hX dX8_writesNumber_0 rfl ?_
  refine r_bipush (v := 9) hX dX8_writesNumber_1 (by decide) ?_
  refine r_icmp_le (tgt := 14) hX dX8_writesNumber_3 (by decide) (fun c3 => ?_) (fun c3 => ?_)
  · have h10 : w < 10 := by have := (nI_leI (b := 9) (by omega) (by decide)).mp c3; omega
    have hd1 : digs w = 1 := if_pos h10
    refine r_aload_n hX dX8_writesNumber_14 rfl ?_
    refine r_bipush (v := 48) hX dX8_writesNumber_15 (by decide) ?_
    refine r_iload_n hX dX8_writesNumber_17 rfl ?_
    refine r_bipush (v := 10) hX dX8_writesNumber_18 (by decide) ?_
    refine r_irem hX dX8_writesNumber_20 (by decide) ?_
    rw [show nI w - nI w / 10 * 10 = nI (w % 10) from pk_rem (d := 10) (by omega) (by decide) (by decide)]
    refine r_iadd hX dX8_writesNumber_21 ?_
    rw [show (48 : Int32) + nI (w % 10) = nI (48 + w % 10) from nI_add 48 _]
    refine r_callV hX dX8_writesNumber_22 (s_X8_writes E g m y hs (cs) hL (by omega) (48 + w % 10) (by omega)) ml_X8_205 rfl rfl hs.1.1 rfl ⟨Nat.le_of_ble_eq_true rfl, Nat.le_of_ble_eq_true rfl⟩ ⟨Nat.le_of_ble_eq_true rfl, Nat.le_of_ble_eq_true rfl, rfl, Nat.le_of_ble_eq_true rfl⟩ (fun v22 g22 m22 hp => ?_)
    obtain ⟨hv, hg, hL2, hM2⟩ := hp
    subst v22
    subst g22
    rw [Nat.mod_eq_of_lt h10, ← decL_1 h10] at hL2
    exact r_vret hX dX8_writesNumber_25 ⟨rfl, rfl, hL2, hM2⟩ ⟨Nat.le_of_ble_eq_true rfl, Nat.le_of_ble_eq_true rfl⟩
  · have h10 : 10 ≤ w := Nat.lt_of_not_le (fun h => c3 ((nI_leI (b := 9) (by omega) (by decide)).mpr (by omega)))
    have hd1 := digs_10 h10 (by omega)
    refine r_aload_n hX dX8_writesNumber_6 rfl ?_
    refine r_iload_n hX dX8_writesNumber_7 rfl ?_
    refine r_bipush (v := 10) hX dX8_writesNumber_8 (by decide) ?_
    refine r_idiv hX dX8_writesNumber_10 (by decide) ?_
    rw [show nI w / (10 : Int32) = nI (w / 10) from pk_div (d := 10) (by omega) (by decide) (by decide)]
    refine r_callV hX dX8_writesNumber_11 (s_X8_wn5 E g m y hs cs hL (w / 10) (by omega) (by omega)) ml_X8_202 rfl rfl hs.1.1 rfl ⟨Nat.le_of_ble_eq_true rfl, Nat.le_of_ble_eq_true rfl⟩ ⟨Nat.le_of_ble_eq_true rfl, Nat.le_of_ble_eq_true rfl, rfl, Nat.le_of_ble_eq_true rfl⟩ (fun v11 g11 m11 hp => ?_)
    obtain ⟨hv, hg, hL1, hM1⟩ := hp
    subst v11
    subst g11
    have hl1 : (cs ++ decL (w / 10)).length = cs.length + digs (w / 10) := by rw [List.length_append, decL_len]
    refine r_aload_n hX dX8_writesNumber_14 rfl ?_
    refine r_bipush (v := 48) hX dX8_writesNumber_15 (by decide) ?_
    refine r_iload_n hX dX8_writesNumber_17 rfl ?_
    refine r_bipush (v := 10) hX dX8_writesNumber_18 (by decide) ?_
    refine r_irem hX dX8_writesNumber_20 (by decide) ?_
    rw [show nI w - nI w / 10 * 10 = nI (w % 10) from pk_rem (d := 10) (by omega) (by decide) (by decide)]
    refine r_iadd hX dX8_writesNumber_21 ?_
    rw [show (48 : Int32) + nI (w % 10) = nI (48 + w % 10) from nI_add 48 _]
    refine r_callV hX dX8_writesNumber_22 (s_X8_writes E g m11 y (hs.to hM1.2) (cs ++ decL (w / 10)) hL1 (by omega) (48 + w % 10) (by omega)) ml_X8_205 rfl rfl hs.1.1 rfl ⟨Nat.le_of_ble_eq_true rfl, Nat.le_of_ble_eq_true rfl⟩ ⟨Nat.le_of_ble_eq_true rfl, Nat.le_of_ble_eq_true rfl, rfl, Nat.le_of_ble_eq_true rfl⟩ (fun v22 g22 m22 hp => ?_)
    obtain ⟨hv, hg, hL2, hM2⟩ := hp
    subst v22
    subst g22
    rw [List.append_assoc, ← decL_10 h10 (by omega)] at hL2
    exact r_vret hX dX8_writesNumber_25 ⟨rfl, rfl, hL2, hM1.tr hM2⟩ ⟨Nat.le_of_ble_eq_true rfl, Nat.le_of_ble_eq_true rfl⟩
set_option maxRecDepth 20000 in
set_option maxHeartbeats 4000000 in
theorem s_X8_wn7 (E : qE) (g : qG) (m : qM) (y : Nat) (hs : ModS g m y) (cs : List Nat) (hL : LnM m y cs) (w : Nat) (hw : w < 10000000) (hl : cs.length + digs w ≤ 160) : Sp E yX8_writesNumber cX8_writesNumber 2 none 7 0 0 [.ref y, .int (nI w)] g m (fun v g' m' => v = none ∧ g' = g ∧ LnM m' y (cs ++ decL w) ∧ MF (PL y) m m') := by
  refine Sp.of (by decide) [some (.ref y), some (.int (nI w))] rfl rfl (Nat.le_of_ble_eq_true rfl) (fun X hX => ?_)
  refine r_iload_n hX dX8_writesNumber_0 rfl ?_
  refine r_bipush (v := 9) hX dX8_writesNumber_1 (by decide) ?_
  refine r_icmp_le (tgt := 14) hX dX8_writesNumber_3 (by decide) (fun c3 => ?_) (fun c3 => ?_)
  · have h10 : w < 10 := by have := (nI_leI (b := 9) (by omega) (by decide)).mp c3; omega
    have hd1 : digs w = 1 := if_pos h10
    refine r_aload_n hX dX8_writesNumber_14 rfl ?_
    refine r_bipush (v := 48) hX dX8_writesNumber_15 (by decide) ?_
    refine r_iload_n hX dX8_writesNumber_17 rfl ?_
    refine r_bipush (v := 10) hX dX8_writesNumber_18 (by decide) ?_
    refine r_irem hX dX8_writesNumber_20 (by decide) ?_
    rw [show nI w - nI w / 10 * 10 = nI (w % 10) from pk_rem (d := 10) (by omega) (by decide) (by decide)]
    refine r_iadd hX dX8_writesNumber_21 ?_
    rw [show (48 : Int32) + nI (w % 10) = nI (48 + w % 10) from nI_add 48 _]
    refine r_callV hX dX8_writesNumber_22 (s_X8_writes E g m y hs (cs) hL (by omega) (48 + w % 10) (by omega)) ml_X8_205 rfl rfl hs.1.1 rfl ⟨Nat.le_of_ble_eq_true rfl, Nat.le_of_ble_eq_true rfl⟩ ⟨Nat.le_of_ble_eq_true rfl, Nat.le_of_ble_eq_true rfl, rfl, Nat.le_of_ble_eq_true rfl⟩ (fun v22 g22 m22 hp => ?_)
    obtain ⟨hv, hg, hL2, hM2⟩ := hp
    subst v22
    subst g22
    rw [Nat.mod_eq_of_lt h10, ← decL_1 h10] at hL2
    exact r_vret hX dX8_writesNumber_25 ⟨rfl, rfl, hL2, hM2⟩ ⟨Nat.le_of_ble_eq_true rfl, Nat.le_of_ble_eq_true rfl⟩
  · have h10 : 10 ≤ w := Nat.lt_of_not_le (fun h => c3 ((nI_leI (b := 9) (by omega) (by decide)).mpr (by omega)))
    have hd1 := digs_10 h10 (by omega)
    refine r_aload_n hX dX8_writesNumber_6 rfl ?_
    refine r_iload_n hX dX8_writesNumber_7 rfl ?_
    refine r_bipush (v := 10) hX dX8_writesNumber_8 (by decide) ?_
    refine r_idiv hX dX8_writesNumber_10 (by decide) ?_
    rw [show nI w / (10 : Int32) = nI (w / 10) from pk_div (d := 10) (by omega) (by decide) (by decide)]
    refine r_callV hX dX8_writesNumber_11 (s_X8_wn6 E g m y hs cs hL (w / 10) (by omega) (by omega)) ml_X8_202 rfl rfl hs.1.1 rfl ⟨Nat.le_of_ble_eq_true rfl, Nat.le_of_ble_eq_true rfl⟩ ⟨Nat.le_of_ble_eq_true rfl, Nat.le_of_ble_eq_true rfl, rfl, Nat.le_of_ble_eq_true rfl⟩ (fun v11 g11 m11 hp => ?_)
    obtain ⟨hv, hg, hL1, hM1⟩ := hp
    subst v11
    subst g11
    have hl1 : (cs ++ decL (w / 10)).length = cs.length + digs (w / 10) := by rw [List.length_append, decL_len]
    refine r_aload_n hX dX8_writesNumber_14 rfl ?_
    refine r_bipush (v := 48) hX dX8_writesNumber_15 (by decide) ?_
    refine r_iload_n hX dX8_writesNumber_17 rfl ?_
    refine r_bipush (v := 10) hX dX8_writesNumber_18 (by decide) ?_
    refine r_irem hX dX8_writesNumber_20 (by decide) ?_
    rw [show nI w - nI w / 10 * 10 = nI (w % 10) from pk_rem (d := 10) (by omega) (by decide) (by decide)]
    refine r_iadd hX dX8_writesNumber_21 ?_
    rw [show (48 : Int32) + nI (w % 10) = nI (48 + w % 10) from nI_add 48 _]
    refine r_callV hX dX8_writesNumber_22 (s_X8_writes E g m11 y (hs.to hM1.2) (cs ++ decL (w / 10)) hL1 (by omega) (48 + w % 10) (by omega)) ml_X8_205 rfl rfl hs.1.1 rfl ⟨Nat.le_of_ble_eq_true rfl, Nat.le_of_ble_eq_true rfl⟩ ⟨Nat.le_of_ble_eq_true rfl, Nat.le_of_ble_eq_true rfl, rfl, Nat.le_of_ble_eq_true rfl⟩ (fun v22 g22 m22 hp => ?_)
    obtain ⟨hv, hg, hL2, hM2⟩ := hp
    subst v22
    subst g22
    rw [List.append_assoc, ← decL_10 h10 (by omega)] at hL2
    exact r_vret hX dX8_writesNumber_25 ⟨rfl, rfl, hL2, hM1.tr hM2⟩ ⟨Nat.le_of_ble_eq_true rfl, Nat.le_of_ble_eq_true rfl⟩
set_option maxRecDepth 20000 in
set_option maxHeartbeats 4000000 in
theorem s_X8_wn8 (E : qE) (g : qG) (m : qM) (y : Nat) (hs : ModS g m y) (cs : List Nat) (hL : LnM m y cs) (w : Nat) (hw : w < 100000000) (hl : cs.length + digs w ≤ 160) : Sp E yX8_writesNumber cX8_writesNumber 2 none 8 0 0 [.ref y, .int (nI w)] g m (fun v g' m' => v = none ∧ g' = g ∧ LnM m' y (cs ++ decL w) ∧ MF (PL y) m m') := by
  refine Sp.of (by decide) [some (.ref y), some (.int (nI w))] rfl rfl (Nat.le_of_ble_eq_true rfl) (fun X hX => ?_)
  refine r_iload_n hX dX8_writesNumber_0 rfl ?_
  refine r_bipush (v := 9) hX dX8_writesNumber_1 (by decide) ?_
  refine r_icmp_le (tgt := 14) hX dX8_writesNumber_3 (by decide) (fun c3 => ?_) (fun c3 => ?_)
  · have h10 : w < 10 := by have := (nI_leI (b := 9) (by omega) (by decide)).mp c3; omega
    have hd1 : digs w = 1 := if_pos h10
    refine r_aload_n hX dX8_writesNumber_14 rfl ?_
    refine r_bipush (v := 48) hX dX8_writesNumber_15 (by decide) ?_
    refine r_iload_n hX dX8_writesNumber_17 rfl ?_
    refine r_bipush (v := 10) hX dX8_writesNumber_18 (by decide) ?_
    refine r_irem hX dX8_writesNumber_20 (by decide) ?_
    rw [show nI w - nI w / 10 * 10 = nI (w % 10) from pk_rem (d := 10) (by omega) (by decide) (by decide)]
    refine r_iadd hX dX8_writesNumber_21 ?_
    rw [show (48 : Int32) + nI (w % 10) = nI (48 + w % 10) from nI_add 48 _]
    refine r_callV hX dX8_writesNumber_22 (s_X8_writes E g m y hs (cs) hL (by omega) (48 + w % 10) (by omega)) ml_X8_205 rfl rfl hs.1.1 rfl ⟨Nat.le_of_ble_eq_true rfl, Nat.le_of_ble_eq_true rfl⟩ ⟨Nat.le_of_ble_eq_true rfl, Nat.le_of_ble_eq_true rfl, rfl, Nat.le_of_ble_eq_true rfl⟩ (fun v22 g22 m22 hp => ?_)
    obtain ⟨hv, hg, hL2, hM2⟩ := hp
    subst v22
    subst g22
    rw [Nat.mod_eq_of_lt h10, ← decL_1 h10] at hL2
    exact r_vret hX dX8_writesNumber_25 ⟨rfl, rfl, hL2, hM2⟩ ⟨Nat.le_of_ble_eq_true rfl, Nat.le_of_ble_eq_true rfl⟩
  · have h10 : 10 ≤ w := Nat.lt_of_not_le (fun h => c3 ((nI_leI (b := 9) (by omega) (by decide)).mpr (by omega)))
    have hd1 := digs_10 h10 (by omega)
    refine r_aload_n hX dX8_writesNumber_6 rfl ?_
    refine r_iload_n hX dX8_writesNumber_7 rfl ?_
    refine r_bipush (v := 10) hX dX8_writesNumber_8 (by decide) ?_
    refine r_idiv hX dX8_writesNumber_10 (by decide) ?_
    rw [show nI w / (10 : Int32) = nI (w / 10) from pk_div (d := 10) (by omega) (by decide) (by decide)]
    refine r_callV hX dX8_writesNumber_11 (s_X8_wn7 E g m y hs cs hL (w / 10) (by omega) (by omega)) ml_X8_202 rfl rfl hs.1.1 rfl ⟨Nat.le_of_ble_eq_true rfl, Nat.le_of_ble_eq_true rfl⟩ ⟨Nat.le_of_ble_eq_true rfl, Nat.le_of_ble_eq_true rfl, rfl, Nat.le_of_ble_eq_true rfl⟩ (fun v11 g11 m11 hp => ?_)
    obtain ⟨hv, hg, hL1, hM1⟩ := hp
    subst v11
    subst g11
    have hl1 : (cs ++ decL (w / 10)).length = cs.length + digs (w / 10) := by rw [List.length_append, decL_len]
    refine r_aload_n hX dX8_writesNumber_14 rfl ?_
    refine r_bipush (v := 48) hX dX8_writesNumber_15 (by decide) ?_
    refine r_iload_n hX dX8_writesNumber_17 rfl ?_
    refine r_bipush (v := 10) hX dX8_writesNumber_18 (by decide) ?_
    refine r_irem hX dX8_writesNumber_20 (by decide) ?_
    rw [show nI w - nI w / 10 * 10 = nI (w % 10) from pk_rem (d := 10) (by omega) (by decide) (by decide)]
    refine r_iadd hX dX8_writesNumber_21 ?_
    rw [show (48 : Int32) + nI (w % 10) = nI (48 + w % 10) from nI_add 48 _]
    refine r_callV hX dX8_writesNumber_22 (s_X8_writes E g m11 y (hs.to hM1.2) (cs ++ decL (w / 10)) hL1 (by omega) (48 + w % 10) (by omega)) ml_X8_205 rfl rfl hs.1.1 rfl ⟨Nat.le_of_ble_eq_true rfl, Nat.le_of_ble_eq_true rfl⟩ ⟨Nat.le_of_ble_eq_true rfl, Nat.le_of_ble_eq_true rfl, rfl, Nat.le_of_ble_eq_true rfl⟩ (fun v22 g22 m22 hp => ?_)
    obtain ⟨hv, hg, hL2, hM2⟩ := hp
    subst v22
    subst g22
    rw [List.append_assoc, ← decL_10 h10 (by omega)] at hL2
    exact r_vret hX dX8_writesNumber_25 ⟨rfl, rfl, hL2, hM1.tr hM2⟩ ⟨Nat.le_of_ble_eq_true rfl, Nat.le_of_ble_eq_true rfl⟩
set_option maxRecDepth 20000 in
set_option maxHeartbeats 4000000 in
theorem s_X8_writesBehind (E : qE) (g : qG) (m : qM) (y : Nat) (hs : ModS g m y) (cs : List Nat) (hL : LnM m y cs) (c : Nat) (hc : c < 65536) (w : Nat) (hw : w < 100000000) (hl : cs.length + 1 + digs w ≤ 160) : Sp E yX8_writesBehind cX8_writesBehind 3 none 9 0 0 [.ref y, .int (nI c), .int (nI w)] g m (fun v g' m' => v = none ∧ g' = g ∧ LnM m' y ((cs ++ [c]) ++ decL w) ∧ MF (PL y) m m') := by
  refine Sp.of (by decide) [some (.ref y), some (.int (nI c)), some (.int (nI w))] rfl rfl (Nat.le_of_ble_eq_true rfl) (fun X hX => ?_)
  refine r_aload_n hX dX8_writesBehind_0 rfl ?_
  refine r_iload_n hX dX8_writesBehind_1 rfl ?_
  refine r_callV hX dX8_writesBehind_2 (s_X8_writes E g m y hs cs hL (by omega) c hc) ml_X8_205 rfl rfl hs.1.1 rfl ⟨Nat.le_of_ble_eq_true rfl, Nat.le_of_ble_eq_true rfl⟩ ⟨Nat.le_of_ble_eq_true rfl, Nat.le_of_ble_eq_true rfl, rfl, Nat.le_of_ble_eq_true rfl⟩ (fun v2 g2 m2 hp => ?_)
  obtain ⟨hv, hg, hL1, hM1⟩ := hp
  subst v2
  subst g2
  refine r_aload_n hX dX8_writesBehind_5 rfl ?_
  refine r_iload_n hX dX8_writesBehind_6 rfl ?_
  refine r_callV hX dX8_writesBehind_7 (s_X8_wn8 E g m2 y (hs.to hM1.2) (cs ++ [c]) hL1 w hw (by rw [List.length_append]; exact hl)) ml_X8_202 rfl rfl hs.1.1 rfl ⟨Nat.le_of_ble_eq_true rfl, Nat.le_of_ble_eq_true rfl⟩ ⟨Nat.le_of_ble_eq_true rfl, Nat.le_of_ble_eq_true rfl, rfl, Nat.le_of_ble_eq_true rfl⟩ (fun v7 g7 m7 hp => ?_)
  obtain ⟨hv, hg, hL2, hM2⟩ := hp
  subst v7
  subst g7
  exact r_vret hX dX8_writesBehind_10 ⟨rfl, rfl, hL2, hM1.tr hM2⟩ ⟨Nat.le_of_ble_eq_true rfl, Nat.le_of_ble_eq_true rfl⟩
set_option maxRecDepth 20000 in
set_option maxHeartbeats 4000000 in
theorem s_X8_writeComet (E : qE) (g : qG) (m : qM) (y : Nat) (O : kO) (hO : ModV g m y O) (u : Nat) (hw : WfO u O) (hu : u ≤ 6144) (c : Int32) : Sp E yX8_writeComet cX8_writeComet 3 (some .int) 10 0 0 [.ref y, .int c] g m (pU y g m (wcO O c)) := by
  refine Sp.of (by decide) [some (.ref y), some (.int c), none] rfl rfl (Nat.le_of_ble_eq_true rfl) (fun X hX => ?_)
  have hR := hO.2.2
  refine r_aload_n hX dX8_writeComet_0 rfl ?_
  refine r_aload_n hX dX8_writeComet_1 rfl ?_
  refine r_iload_n hX dX8_writeComet_2 rfl ?_
  refine r_callV hX dX8_writeComet_3 (s_X8_isThere E g m y hO.1.1 c O.1 hR hO.2.1) ml_X8_84 rfl rfl hO.1.1.1.1 rfl ⟨Nat.le_of_ble_eq_true rfl, Nat.le_of_ble_eq_true rfl⟩ ⟨Nat.le_of_ble_eq_true rfl, Nat.le_of_ble_eq_true rfl, rfl, Nat.le_of_ble_eq_true rfl⟩ (fun v3 g3 m3 hp => ?_)
  obtain ⟨hv, hg, hm⟩ := hp
  subst v3
  subst g3
  subst m3
  refine r_callV hX dX8_writeComet_6 (s_X8_isFine E g m y hO.1.1 (plV O.1.1 c).isSome) ml_X8_115 rfl rfl hO.1.1.1.1 rfl ⟨Nat.le_of_ble_eq_true rfl, Nat.le_of_ble_eq_true rfl⟩ ⟨Nat.le_of_ble_eq_true rfl, Nat.le_of_ble_eq_true rfl, rfl, Nat.le_of_ble_eq_true rfl⟩ (fun v6 g6 m6 hp => ?_)
  obtain ⟨hv, hg, hm⟩ := hp
  subst v6
  subst g6
  subst m6
  refine r_if_ne (tgt := 14) hX dX8_writeComet_9 (by decide) (fun c9 => ?_) (fun c9 => ?_)
  · obtain ⟨i, hi⟩ : ∃ i, plV O.1.1 c = some i := by
      cases hq : plV O.1.1 c with
      | none => exact absurd (show (if (none : Option Nat).isSome = true then (1 : Int32) else 0) = 0 from rfl) (by rw [← hq]; exact c9)
      | some i => exact ⟨i, rfl⟩
    have hil := (plV_lt hi).1
    have hid := (plV_lt hi).2
    have hl6 := hO.2.1
    rw [show (if (plV O.1.1 c).isSome = true then (0 : Int32) else 1) = 0 by rw [hi]; rfl]
    have hcom := hw.com hu hil
    have hday := hw.day hu
    have hc0 : cAt O.1.1 i 0 < 100000000 := by
      have h1 := (hw.1.2.1 _ (cAt_mem hil)).2.2.2.2.2.2.2
      have h2 := hw.1.2.2.2.1
      omega
    have d0 := (digs_8 hc0)
    have d1 := digs_8 (w := cAt O.1.1 i 1) (by omega)
    have d2 := digs_8 (w := cAt O.1.1 i 2) (by omega)
    have d3 := digs_8 (w := cAt O.1.1 i 3) (by omega)
    refine r_aload_n hX dX8_writeComet_14 rfl ?_
    refine r_iload_n hX dX8_writeComet_15 rfl ?_
    refine r_callV hX dX8_writeComet_16 (s_X8_place E g _ y (by exact hO.1.1.to rfl) c O.1 (by exact (hO.thr 0).2.2) hl6) ml_X8_53 rfl rfl hO.1.1.1.1 rfl ⟨Nat.le_of_ble_eq_true rfl, Nat.le_of_ble_eq_true rfl⟩ ⟨Nat.le_of_ble_eq_true rfl, Nat.le_of_ble_eq_true rfl, rfl, Nat.le_of_ble_eq_true rfl⟩ (fun v16 g16 m16 hp => ?_)
    obtain ⟨hv, hg, hm⟩ := hp
    subst v16
    subst g16
    subst m16
    rw [show plV _ c = some i from hi]
    refine r_istore_n hX dX8_writeComet_19 (Nat.le_of_ble_eq_true rfl) rfl ?_
    refine r_aload_n hX dX8_writeComet_20 rfl ?_
    refine r_iconst (v := 0) hX dX8_writeComet_21 (by decide) ?_
    refine r_putI hX dX8_writeComet_22 hO.1.1.1.1 fl_X8_199 ?_
    have hB0 : MF (PN y) m (wI (wI m y 0 0) y 16 0) := ((MF.rf _ _).wI (Or.inr ⟨rfl, Or.inr rfl⟩)).wI (Or.inr ⟨rfl, Or.inl rfl⟩)
    have hRB : RepF (rowF (wI (wI m y 0 0) y 16 0) y 0) O.1 := by rw [PN_row hB0]; exact hR
    refine r_aload_n hX dX8_writeComet_25 rfl ?_
    refine r_iload_n hX dX8_writeComet_26 rfl ?_
    rw [← hid]
    refine r_callV hX dX8_writeComet_27 (s_X8_wn8 E g (wI (wI m y 0 0) y 16 0) y (hO.1.1.to hB0.2) [] ⟨by rw [qI_wI_s]; rfl, fun j hj => absurd hj (Nat.not_lt_zero _)⟩ (cAt O.1.1 i 0) hc0 (by rw [List.length_nil]; omega)) ml_X8_202 rfl rfl hO.1.1.1.1 rfl ⟨Nat.le_of_ble_eq_true rfl, Nat.le_of_ble_eq_true rfl⟩ ⟨Nat.le_of_ble_eq_true rfl, Nat.le_of_ble_eq_true rfl, rfl, Nat.le_of_ble_eq_true rfl⟩ (fun v27 g27 m27 hp => ?_)
    obtain ⟨hv, hg, hL27, hM9⟩ := hp
    subst v27
    subst g27
    have hm27 := hM9
    clear hM9
    refine r_aload_n hX dX8_writeComet_30 rfl ?_
    refine r_bipush (v := 42) hX dX8_writeComet_31 (by decide) ?_
    refine r_aload_n hX dX8_writeComet_33 rfl ?_
    refine r_iload_n hX dX8_writeComet_34 rfl ?_
    refine r_iconst (v := 2) hX dX8_writeComet_35 (by decide) ?_
    refine r_callV hX dX8_writeComet_36 (s_X8_c E g m27 y (hO.1.1.to hm27.2) i 2 (by omega)) ml_X8_49 rfl rfl hO.1.1.1.1 rfl ⟨Nat.le_of_ble_eq_true rfl, Nat.le_of_ble_eq_true rfl⟩ ⟨Nat.le_of_ble_eq_true rfl, Nat.le_of_ble_eq_true rfl, rfl, Nat.le_of_ble_eq_true rfl⟩ (fun v36 g36 m36 hp => ?_)
    obtain ⟨hv, hg, hm⟩ := hp
    subst v36
    subst g36
    subst m36
    rw [(show RepF (rowF m27 y 0) O.1 by rw [PL_row hm27]; exact hRB).rC hil (by decide)]
    refine r_callV hX dX8_writeComet_39 (s_X8_writesBehind E g m27 y (hO.1.1.to hm27.2) ([] ++ decL (cAt O.1.1 i 0)) hL27 42 (by decide) (cAt O.1.1 i 2) (by omega) (by simp only [List.length_append, decL_len, List.length_cons, List.length_nil]; omega)) ml_X8_208 rfl rfl hO.1.1.1.1 rfl ⟨Nat.le_of_ble_eq_true rfl, Nat.le_of_ble_eq_true rfl⟩ ⟨Nat.le_of_ble_eq_true rfl, Nat.le_of_ble_eq_true rfl, rfl, Nat.le_of_ble_eq_true rfl⟩ (fun v39 g39 m39 hp => ?_)
    obtain ⟨hv, hg, hL39, hM9⟩ := hp
    subst v39
    subst g39
    have hm39 := hm27.tr hM9
    clear hM9
    refine r_aload_n hX dX8_writeComet_42 rfl ?_
    refine r_bipush (v := 47) hX dX8_writeComet_43 (by decide) ?_
    refine r_aload_n hX dX8_writeComet_45 rfl ?_
    refine r_iload_n hX dX8_writeComet_46 rfl ?_
    refine r_iconst (v := 1) hX dX8_writeComet_47 (by decide) ?_
    refine r_callV hX dX8_writeComet_48 (s_X8_c E g m39 y (hO.1.1.to hm39.2) i 1 (by omega)) ml_X8_49 rfl rfl hO.1.1.1.1 rfl ⟨Nat.le_of_ble_eq_true rfl, Nat.le_of_ble_eq_true rfl⟩ ⟨Nat.le_of_ble_eq_true rfl, Nat.le_of_ble_eq_true rfl, rfl, Nat.le_of_ble_eq_true rfl⟩ (fun v48 g48 m48 hp => ?_)
    obtain ⟨hv, hg, hm⟩ := hp
    subst v48
    subst g48
    subst m48
    rw [(show RepF (rowF m39 y 0) O.1 by rw [PL_row hm39]; exact hRB).rC hil (by decide)]
    refine r_callV hX dX8_writeComet_51 (s_X8_writesBehind E g m39 y (hO.1.1.to hm39.2) (([] ++ decL (cAt O.1.1 i 0) ++ [42]) ++ decL (cAt O.1.1 i 2)) hL39 47 (by decide) (cAt O.1.1 i 1) (by omega) (by simp only [List.length_append, decL_len, List.length_cons, List.length_nil]; omega)) ml_X8_208 rfl rfl hO.1.1.1.1 rfl ⟨Nat.le_of_ble_eq_true rfl, Nat.le_of_ble_eq_true rfl⟩ ⟨Nat.le_of_ble_eq_true rfl, Nat.le_of_ble_eq_true rfl, rfl, Nat.le_of_ble_eq_true rfl⟩ (fun v51 g51 m51 hp => ?_)
    obtain ⟨hv, hg, hL51, hM9⟩ := hp
    subst v51
    subst g51
    have hm51 := hm39.tr hM9
    clear hM9
    refine r_aload_n hX dX8_writeComet_54 rfl ?_
    refine r_bipush (v := 64) hX dX8_writeComet_55 (by decide) ?_
    refine r_aload_n hX dX8_writeComet_57 rfl ?_
    refine r_iload_n hX dX8_writeComet_58 rfl ?_
    refine r_iconst (v := 3) hX dX8_writeComet_59 (by decide) ?_
    refine r_callV hX dX8_writeComet_60 (s_X8_c E g m51 y (hO.1.1.to hm51.2) i 3 (by omega)) ml_X8_49 rfl rfl hO.1.1.1.1 rfl ⟨Nat.le_of_ble_eq_true rfl, Nat.le_of_ble_eq_true rfl⟩ ⟨Nat.le_of_ble_eq_true rfl, Nat.le_of_ble_eq_true rfl, rfl, Nat.le_of_ble_eq_true rfl⟩ (fun v60 g60 m60 hp => ?_)
    obtain ⟨hv, hg, hm⟩ := hp
    subst v60
    subst g60
    subst m60
    rw [(show RepF (rowF m51 y 0) O.1 by rw [PL_row hm51]; exact hRB).rC hil (by decide)]
    refine r_callV hX dX8_writeComet_63 (s_X8_writesBehind E g m51 y (hO.1.1.to hm51.2) (((([] ++ decL (cAt O.1.1 i 0) ++ [42]) ++ decL (cAt O.1.1 i 2)) ++ [47]) ++ decL (cAt O.1.1 i 1)) hL51 64 (by decide) (cAt O.1.1 i 3) (by omega) (by simp only [List.length_append, decL_len, List.length_cons, List.length_nil]; omega)) ml_X8_208 rfl rfl hO.1.1.1.1 rfl ⟨Nat.le_of_ble_eq_true rfl, Nat.le_of_ble_eq_true rfl⟩ ⟨Nat.le_of_ble_eq_true rfl, Nat.le_of_ble_eq_true rfl, rfl, Nat.le_of_ble_eq_true rfl⟩ (fun v63 g63 m63 hp => ?_)
    obtain ⟨hv, hg, hL63, hM9⟩ := hp
    subst v63
    subst g63
    have hm63 := hm51.tr hM9
    clear hM9
    refine r_aload_n hX dX8_writeComet_66 rfl ?_
    refine r_getI hX dX8_writeComet_67 hO.1.1.1.1 fl_X8_199 ?_
    rw [hL63.1]
    have hN0 : qI m63 y 0 = 0 := by rw [hm63.1 _ _ (by unfold PL; omega), qI_wI_k _ _ _ _ (by decide), qI_wI_s]
    have hF := hB0.tr (PL_N hm63)
    exact r_iret hX dX8_writeComet_70 (by rw [hid, wcO_s hi]; exact ⟨⟨_, rfl, fun _ => rfl⟩, rfl, by rw [hN0]; rfl, hO.ln hF hL63, PN_M hF⟩) ⟨Nat.le_of_ble_eq_true rfl, Nat.le_of_ble_eq_true rfl⟩
  · have hq : plV O.1.1 c = none := by
      cases hq : plV O.1.1 c with
      | none => rfl
      | some i => exact absurd c9 (by rw [hq]; show ¬ (1 : Int32) = 0; decide)
    refine r_iconst (v := 0) hX dX8_writeComet_12 (by decide) ?_
    exact r_iret hX dX8_writeComet_13 (by rw [wcO_n hq]; exact hO.no (by decide) (by rw [hq]; rfl)) ⟨Nat.le_of_ble_eq_true rfl, Nat.le_of_ble_eq_true rfl⟩
set_option maxRecDepth 20000 in
set_option maxHeartbeats 4000000 in
theorem s_X8_ring_l {E : qE} {X : qX} {Q : State → Prop} {g : qG} {m : qM} (hX : MC E yX8_writeRing cX8_writeRing 2 (some .int) 9 0 0 [] X) {y : Nat} {O : kO} (hO : ModV g m y O) (h8 : ∀ j, j < 12 → O.1.2.2 j < 100000000) : ∀ (n k : Nat) (m1 : qM), k + n = 12 → LnM m1 y (rLine O.1.2.2 k) → MF (PL y) m m1 → (∀ (j : Int32) (m2 : qM), LnM m2 y (rLine O.1.2.2 12) → MF (PL y) m m2 → WS E X 0 0 Q g m2 47 [some (.ref y), some (.int j)] []) → WS E X 0 0 Q g m1 12 [some (.ref y), some (.int (nI k))] [] := by
  intro n
  have hR := hO.2.2
  induction n with
  | zero =>
    intro k m1 hk hL hM K
    have hib : k = 12 := by omega
    subst hib
    refine r_iload_n hX dX8_writeRing_12 rfl ?_
    refine r_bipush (v := 12) hX dX8_writeRing_13 (by decide) ?_
    refine r_icmp_ge (tgt := 47) hX dX8_writeRing_15 (by decide) (fun c15 => ?_) (fun c15 => ?_)
    · exact K _ m1 hL hM
    · exact absurd (Int32.le_refl _) c15
  | succ n ih =>
    intro k m1 hk hL hM K
    have hk12 : k < 12 := by omega
    have hlen := rLine_len (f := O.1.2.2) (fun j hj => digs_8 (h8 j hj)) k (by omega)
    have hdk := digs_8 (h8 k hk12)
    refine r_iload_n hX dX8_writeRing_12 rfl ?_
    refine r_bipush (v := 12) hX dX8_writeRing_13 (by decide) ?_
    refine r_icmp_ge (tgt := 47) hX dX8_writeRing_15 (by decide) (fun c15 => ?_) (fun c15 => ?_)
    · exact absurd c15 (nI_ge (b := 12) hk12 (by decide))
    · refine r_iload_n hX dX8_writeRing_18 rfl ?_
      refine r_if_le (tgt := 28) hX dX8_writeRing_19 (by decide) (fun c19 => ?_) (fun c19 => ?_)
      · have hk0 : ¬ 0 < k := fun h => nI_nle h (by omega) c19
        refine r_aload_n hX dX8_writeRing_28 rfl ?_
        refine r_aload_n hX dX8_writeRing_29 rfl ?_
        refine r_getR hX dX8_writeRing_30 hO.1.1.1.1 fl_X8_9 (hO.1.1.to hM.2).2.1 ?_
        refine r_bipush (v := 37) hX dX8_writeRing_33 (by decide) ?_
        refine r_iload_n hX dX8_writeRing_35 rfl ?_
        refine r_iadd hX dX8_writeRing_36 ?_
        rw [show (37 : Int32) + nI k = nI (37 + k) from nI_add 37 k]
        refine r_ialoadN hX dX8_writeRing_37 hO.1.1.1.2.1 (show 37 + k < 539 by omega) (by decide) ?_
        rw [(show RepF (rowF m1 y 0) O.1 by rw [PL_row hM]; exact hR).rD hk12]
        refine r_callV hX dX8_writeRing_38 (s_X8_wn8 E g m1 y (hO.1.1.to hM.2) (rLine O.1.2.2 k) hL (O.1.2.2 k) (h8 k hk12) (by omega)) ml_X8_202 rfl rfl hO.1.1.1.1 rfl ⟨Nat.le_of_ble_eq_true rfl, Nat.le_of_ble_eq_true rfl⟩ ⟨Nat.le_of_ble_eq_true rfl, Nat.le_of_ble_eq_true rfl, rfl, Nat.le_of_ble_eq_true rfl⟩ (fun v38 g38 m38 hp => ?_)
        obtain ⟨hv, hg, hL2, hM9⟩ := hp
        subst v38
        subst g38
        refine r_iinc (v := nI (k + 1)) hX dX8_writeRing_41 rfl (ii1 k) rfl ?_
        refine r_goto (tgt := 12) hX dX8_writeRing_44 (by decide) ?_
        refine ih (k + 1) m38 (by omega) ?_ (hM.tr hM9) K
        rw [show rLine O.1.2.2 (k + 1) = (rLine O.1.2.2 k) ++ decL (O.1.2.2 k) by show (if 0 < k then rLine O.1.2.2 k ++ [44] else rLine O.1.2.2 k) ++ decL (O.1.2.2 k) = _; rw [if_neg hk0]]
        exact hL2
      · have hk0 : 0 < k := Nat.pos_of_ne_zero (fun h => c19 (by rw [h]; decide))
        refine r_aload_n hX dX8_writeRing_22 rfl ?_
        refine r_bipush (v := 44) hX dX8_writeRing_23 (by decide) ?_
        refine r_callV hX dX8_writeRing_25 (s_X8_writes E g m1 y (hO.1.1.to hM.2) (rLine O.1.2.2 k) hL (by omega) 44 (by decide)) ml_X8_205 rfl rfl hO.1.1.1.1 rfl ⟨Nat.le_of_ble_eq_true rfl, Nat.le_of_ble_eq_true rfl⟩ ⟨Nat.le_of_ble_eq_true rfl, Nat.le_of_ble_eq_true rfl, rfl, Nat.le_of_ble_eq_true rfl⟩ (fun v25 g25 m25 hp => ?_)
        obtain ⟨hv, hg, hL1, hM8⟩ := hp
        subst v25
        subst g25
        have hM1 := hM.tr hM8
        refine r_aload_n hX dX8_writeRing_28 rfl ?_
        refine r_aload_n hX dX8_writeRing_29 rfl ?_
        refine r_getR hX dX8_writeRing_30 hO.1.1.1.1 fl_X8_9 (hO.1.1.to hM1.2).2.1 ?_
        refine r_bipush (v := 37) hX dX8_writeRing_33 (by decide) ?_
        refine r_iload_n hX dX8_writeRing_35 rfl ?_
        refine r_iadd hX dX8_writeRing_36 ?_
        rw [show (37 : Int32) + nI k = nI (37 + k) from nI_add 37 k]
        refine r_ialoadN hX dX8_writeRing_37 hO.1.1.1.2.1 (show 37 + k < 539 by omega) (by decide) ?_
        rw [(show RepF (rowF m25 y 0) O.1 by rw [PL_row hM1]; exact hR).rD hk12]
        refine r_callV hX dX8_writeRing_38 (s_X8_wn8 E g m25 y (hO.1.1.to hM1.2) (rLine O.1.2.2 k ++ [44]) hL1 (O.1.2.2 k) (h8 k hk12) (by rw [List.length_append]; show (rLine O.1.2.2 k).length + 1 + _ ≤ _; omega)) ml_X8_202 rfl rfl hO.1.1.1.1 rfl ⟨Nat.le_of_ble_eq_true rfl, Nat.le_of_ble_eq_true rfl⟩ ⟨Nat.le_of_ble_eq_true rfl, Nat.le_of_ble_eq_true rfl, rfl, Nat.le_of_ble_eq_true rfl⟩ (fun v38 g38 m38 hp => ?_)
        obtain ⟨hv, hg, hL2, hM9⟩ := hp
        subst v38
        subst g38
        refine r_iinc (v := nI (k + 1)) hX dX8_writeRing_41 rfl (ii1 k) rfl ?_
        refine r_goto (tgt := 12) hX dX8_writeRing_44 (by decide) ?_
        refine ih (k + 1) m38 (by omega) ?_ (hM1.tr hM9) K
        rw [show rLine O.1.2.2 (k + 1) = (rLine O.1.2.2 k ++ [44]) ++ decL (O.1.2.2 k) by show (if 0 < k then rLine O.1.2.2 k ++ [44] else rLine O.1.2.2 k) ++ decL (O.1.2.2 k) = _; rw [if_pos hk0]]
        exact hL2
set_option maxRecDepth 20000 in
set_option maxHeartbeats 4000000 in
theorem s_X8_writeRing (E : qE) (g : qG) (m : qM) (y : Nat) (O : kO) (hO : ModV g m y O) (u : Nat) (hw : WfO u O) (hu : u ≤ 6144)  : Sp E yX8_writeRing cX8_writeRing 2 (some .int) 9 0 0 [.ref y] g m (pU y g m (wrO O)) := by
  refine Sp.of (by decide) [some (.ref y), none] rfl rfl (Nat.le_of_ble_eq_true rfl) (fun X hX => ?_)
  have hR := hO.2.2
  refine r_aload_n hX dX8_writeRing_0 rfl ?_
  refine r_iconst (v := 0) hX dX8_writeRing_1 (by decide) ?_
  refine r_putI hX dX8_writeRing_2 hO.1.1.1.1 fl_X8_36 ?_
  refine r_aload_n hX dX8_writeRing_5 rfl ?_
  refine r_iconst (v := 0) hX dX8_writeRing_6 (by decide) ?_
  refine r_putI hX dX8_writeRing_7 hO.1.1.1.1 fl_X8_199 ?_
  refine r_iconst (v := 0) hX dX8_writeRing_10 (by decide) ?_
  refine r_istore_n hX dX8_writeRing_11 (Nat.le_of_ble_eq_true rfl) rfl ?_
  have h8 : ∀ j, j < 12 → O.1.2.2 j < 100000000 := fun j hj => by
    have h1 := hw.dus hu
    have h2 := ds_ge O.1.2.2 hj
    omega
  have hB0 : MF (PN y) m (wI (wI m y 0 0) y 16 0) := ((MF.rf _ _).wI (Or.inr ⟨rfl, Or.inr rfl⟩)).wI (Or.inr ⟨rfl, Or.inl rfl⟩)
  have hB : ModV g (wI (wI m y 0 0) y 16 0) y (setLn O []) := hO.ln hB0 ⟨by rw [qI_wI_s]; rfl, fun j hj => absurd hj (Nat.not_lt_zero _)⟩
  refine s_X8_ring_l (g := g) hX hB h8 12 0 _ (by decide) ⟨by rw [qI_wI_s]; rfl, fun j hj => absurd hj (Nat.not_lt_zero _)⟩ (MF.rf _ _) (fun j m2 hL2 hM2 => ?_)
  have hL2 : LnM m2 y (rLine O.1.2.2 12) := hL2
  have hF := hB0.tr (PL_N hM2)
  have hN0 : qI m2 y 0 = 0 := by rw [hM2.1 _ _ (by unfold PL; omega), qI_wI_k _ _ _ _ (by decide), qI_wI_s]
  refine r_aload_n hX dX8_writeRing_47 rfl ?_
  refine r_getI hX dX8_writeRing_48 hO.1.1.1.1 fl_X8_199 ?_
  rw [hL2.1]
  exact r_iret hX dX8_writeRing_51 ⟨⟨_, rfl, fun _ => rfl⟩, rfl, by rw [hN0]; rfl, hO.ln hF hL2, PN_M hF⟩ ⟨Nat.le_of_ble_eq_true rfl, Nat.le_of_ble_eq_true rfl⟩
