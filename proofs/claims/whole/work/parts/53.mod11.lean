/-! ===== CometObservatoryModel: undo, saving, the text, the line ===== -/
theorem nar_c {e : Nat} (he : e < 65536) : vp_nar .char (nI e) = nI e := by
  show ((nI e).toUInt32 % 65536).toInt32 = nI e
  rw [pk_char, pk_tn (by omega), Nat.mod_eq_of_lt he]
theorem i2c_n {e : Nat} (he : e < 65536) : ((nI e).toUInt32 % 65536).toInt32 = nI e := by rw [pk_char, pk_tn (by omega), Nat.mod_eq_of_lt he]
def pUV (y : Nat) (g : qG) (m : qM) (R : kR) : Option Value → qG → qM → Prop := fun v g' m' => v = none ∧ g' = g ∧ qI m' y 0 = nI R.1 ∧ ModV g m' y R.2.2 ∧ MF (PM y) m m'
theorem HisM.pop {m m' : qM} {y : Nat} {V : kV} {l : List kV} (h : HisM m y (V :: l)) (h2 : qI m' y 2 = nI l.length) (hr : ∀ w, 1 ≤ w → w < 9 → ∀ k, k < 49 → rowF m' y w k = rowF m y w k) : HisM m' y l := by
  obtain ⟨a1, a2, a3⟩ := h
  rw [List.length_cons] at a2 a3
  refine ⟨h2, by omega, fun i W hi => ?_⟩
  have hil := (List.getElem?_eq_some_iff.mp hi).1
  obtain ⟨c1, c2⟩ := a3 (i + 1) W hi
  rw [show l.length + 1 - (i + 1) = l.length - i by omega] at c2
  exact ⟨c1, c2.congr (hr _ (by omega) (by omega)) c1⟩
set_option maxRecDepth 20000 in
set_option maxHeartbeats 4000000 in
theorem s_X8_undo (E : qE) (g : qG) (m : qM) (y : Nat) (O : kO) (hO : ModV g m y O) (u : Nat) (hw : WfO u O) (hu : u ≤ 6144) : Sp E yX8_undo cX8_undo 1 (some .int) 1 0 0 [.ref y] g m (pU y g m (undoO O)) := by
  refine Sp.of (by decide) [some (.ref y)] rfl rfl (Nat.le_of_ble_eq_true rfl) (fun X hX => ?_)
  have h2 := hO.1.2.1.1
  have h8 := hO.1.2.1.2.1
  refine r_aload_n hX dX8_undo_0 rfl ?_
  refine r_aload_n hX dX8_undo_1 rfl ?_
  refine r_getI hX dX8_undo_2 hO.1.1.1.1 fl_X8_43 ?_
  rw [h2]
  refine r_if_le (tgt := 12) hX dX8_undo_5 (by decide) (fun c5 => ?_) (fun c5 => ?_)
  · have hn : oHi O = [] := by
      cases hq : oHi O with
      | nil => rfl
      | cons V l => rw [hq] at c5 h8; exact absurd c5 (nI_nle (Nat.succ_pos _) (by omega))
    have eR : undoO O = (1, 0, O) := by unfold undoO; rw [show O.2.2.1 = [] from hn]
    refine r_iconst (v := 0) hX dX8_undo_12 (by decide) ?_
    refine r_callV hX dX8_undo_13 (s_X8_isFine E g m y hO.1.1 false) ml_X8_115 rfl rfl hO.1.1.1.1 rfl ⟨Nat.le_of_ble_eq_true rfl, Nat.le_of_ble_eq_true rfl⟩ ⟨Nat.le_of_ble_eq_true rfl, Nat.le_of_ble_eq_true rfl, rfl, Nat.le_of_ble_eq_true rfl⟩ (fun v13 g13 m13 hp => ?_)
    obtain ⟨hv, hg, hm⟩ := hp
    subst v13
    subst g13
    subst m13
    refine r_if_ne (tgt := 21) hX dX8_undo_16 (by decide) (fun c16 => ?_) (fun c16 => ?_)
    · exact absurd rfl c16
    · refine r_iconst (v := 0) hX dX8_undo_19 (by decide) ?_
      exact r_iret hX dX8_undo_20 (by rw [eR]; exact hO.no (by decide) rfl) ⟨Nat.le_of_ble_eq_true rfl, Nat.le_of_ble_eq_true rfl⟩
  · rcases hq : oHi O with _ | ⟨V, l⟩
    · rw [hq] at c5
      exact absurd (show nI ([] : List kV).length ≤ 0 by decide) c5
    · have eR : undoO O = (0, nI l.length, V, O.2.1, l, O.2.2.2) := by unfold undoO; rw [show O.2.2.1 = V :: l from hq]
      have hH : HisM m y (V :: l) := by have := hO.1.2.1; rw [hq] at this; exact this
      have h2 : qI m y 2 = nI (l.length + 1) := hH.1
      have h8 : l.length + 1 ≤ 8 := hH.2.1
      obtain ⟨hVl, hVR⟩ := hH.2.2 0 V rfl
      refine r_iconst (v := 1) hX dX8_undo_8 (by decide) ?_
      refine r_goto (tgt := 13) hX dX8_undo_9 (by decide) ?_
      refine r_callV hX dX8_undo_13 (s_X8_isFine E g m y hO.1.1 true) ml_X8_115 rfl rfl hO.1.1.1.1 rfl ⟨Nat.le_of_ble_eq_true rfl, Nat.le_of_ble_eq_true rfl⟩ ⟨Nat.le_of_ble_eq_true rfl, Nat.le_of_ble_eq_true rfl, rfl, Nat.le_of_ble_eq_true rfl⟩ (fun v13 g13 m13 hp => ?_)
      obtain ⟨hv, hg, hm⟩ := hp
      subst v13
      subst g13
      subst m13
      rw [show (if true = true then (0 : Int32) else 1) = 0 from rfl]
      refine r_if_ne (tgt := 21) hX dX8_undo_16 (by decide) (fun c16 => ?_) (fun c16 => ?_)
      · refine r_aload_n hX dX8_undo_21 rfl ?_
        refine r_aload_n hX dX8_undo_22 rfl ?_
        refine r_getI hX dX8_undo_23 hO.1.1.1.1 fl_X8_43 ?_
        rw [show qI (wI m y 0 0) y 2 = nI (l.length + 1) by rw [qI_wI_k _ _ _ _ (by decide)]; exact h2]
        refine r_iconst (v := 0) hX dX8_undo_26 (by decide) ?_
        refine r_callV hX dX8_undo_27 (s_X8_copies E g _ y (by exact hO.1.1.to rfl) (l.length + 1) 0 (by omega) (by decide) (by omega)) ml_X8_39 rfl rfl hO.1.1.1.1 rfl ⟨Nat.le_of_ble_eq_true rfl, Nat.le_of_ble_eq_true rfl⟩ ⟨Nat.le_of_ble_eq_true rfl, Nat.le_of_ble_eq_true rfl, rfl, Nat.le_of_ble_eq_true rfl⟩ (fun v27 g27 m27 hp => ?_)
        obtain ⟨hv, hg, hm⟩ := hp
        subst v27
        subst g27
        have hC : CPY y (l.length + 1) 0 (wI m y 0 0) m27 := hm
        have e2 : qI m27 y 2 = nI (l.length + 1) := by rw [hC.off (by omega), qI_wI_k _ _ _ _ (by decide)]; exact h2
        refine r_aload_n hX dX8_undo_30 rfl ?_
        refine r_dup hX dX8_undo_31 rfl ?_
        refine r_getI hX dX8_undo_32 hO.1.1.1.1 fl_X8_43 ?_
        rw [e2]
        refine r_iconst (v := 1) hX dX8_undo_35 (by decide) ?_
        refine r_isub hX dX8_undo_36 ?_
        rw [show nI (l.length + 1) - (1 : Int32) = nI l.length from nI_pred _]
        refine r_putI hX dX8_undo_37 hO.1.1.1.1 fl_X8_43 ?_
        refine r_aload_n hX dX8_undo_40 rfl ?_
        refine r_getI hX dX8_undo_41 hO.1.1.1.1 fl_X8_43 ?_
        rw [qI_wI_s]
        refine r_iret hX dX8_undo_44 ?_ ⟨Nat.le_of_ble_eq_true rfl, Nat.le_of_ble_eq_true rfl⟩
        rw [eR]
        have er : ∀ w, w ≠ 0 → ∀ k, k < 49 → rowF (wI m27 y 2 (nI l.length)) y w k = rowF m y w k := fun w hw k hk => by
          have e1 := hC.oth (w' := w) (by omega) k hk
          unfold rowF at e1 ⊢
          rw [qI_wI_a _ _ _ _ (by omega), e1, qI_wI_a _ _ _ _ (by omega)]
        have eo : ∀ a j, a ≠ y + 1 → ¬ (a = y ∧ (j = 0 ∨ j = 2)) → qI (wI m27 y 2 (nI l.length)) a j = qI m a j := fun a j h1 h2 => by
          rw [qI_wI, if_neg (by omega), hC.off h1, qI_wI, if_neg (by omega)]
        obtain ⟨b1, b2, ⟨b5, b6⟩, ⟨b7, b8⟩, ⟨b9, b10⟩, b11, b12⟩ := hO.1
        refine ⟨⟨_, rfl, fun _ => rfl⟩, rfl, ?_, ⟨⟨hO.1.1.to hC.2, hH.pop (by rw [qI_wI_s]) (fun w h1 h2 => er w (by omega)), ⟨?_, fun W hW => ?_⟩, ⟨?_, ?_⟩, ⟨?_, fun j hj => ?_⟩, ?_, fun j hj => ?_⟩, hVl, hVR.congr (fun k hk => ?_) hVl⟩, ?_⟩
        · rw [qI_wI_k _ _ _ _ (by decide), hC.off (by omega), qI_wI_s]; rfl
        · rw [eo _ _ (by omega) (by omega)]; exact b5
        · obtain ⟨d1, d2⟩ := b6 W hW
          exact ⟨d1, d2.congr (er 9 (by decide)) d1⟩
        · rw [eo _ _ (by omega) (by omega)]; exact b7
        · rw [eo _ _ (by omega) (by omega)]; exact b8
        · rw [eo _ _ (by omega) (by omega)]; exact b9
        · rw [eo _ _ (by omega) (by omega)]; exact b10 j hj
        · rw [eo _ _ (by omega) (by omega)]; exact b11
        · rw [eo _ _ (by omega) (by omega)]; exact b12 j hj
        · have e1 := hC.row k hk
          unfold rowF at e1 ⊢
          rw [qI_wI_a _ _ _ _ (by omega), e1, qI_wI_a _ _ _ _ (by omega)]
          rfl
        · exact ((mf_thr y m 0).tr (hC.mf.mono (fun a j h => ⟨by omega, by omega⟩))).wI ⟨by omega, by omega⟩
      · exact absurd c16 (by decide)
set_option maxRecDepth 20000 in
set_option maxHeartbeats 4000000 in
theorem s_X8_save (E : qE) (g : qG) (m : qM) (y : Nat) (O : kO) (hO : ModV g m y O) (u : Nat) (hw : WfO u O) (hu : u ≤ 6144) : Sp E yX8_save cX8_save 1 none 1 0 0 [.ref y] g m (pUV y g m (saveO O)) := by
  refine Sp.of (by decide) [some (.ref y)] rfl rfl (Nat.le_of_ble_eq_true rfl) (fun X hX => ?_)
  refine r_aload_n hX dX8_save_0 rfl ?_
  refine r_iconst (v := 0) hX dX8_save_1 (by decide) ?_
  refine r_putI hX dX8_save_2 hO.1.1.1.1 fl_X8_36 ?_
  refine r_aload_n hX dX8_save_5 rfl ?_
  refine r_iconst (v := 1) hX dX8_save_6 (by decide) ?_
  refine r_putV hX dX8_save_7 hO.1.1.1.1 fl_X8_211 rfl rfl (puts_I hO.1.1.1.1) ?_
  refine r_aload_n hX dX8_save_10 rfl ?_
  refine r_iconst (v := 0) hX dX8_save_11 (by decide) ?_
  refine r_bipush (v := 9) hX dX8_save_12 (by decide) ?_
  refine r_callV hX dX8_save_14 (s_X8_copies E g _ y (by exact hO.1.1.to rfl) 0 9 (by decide) (by decide) (by decide)) ml_X8_39 rfl rfl hO.1.1.1.1 rfl ⟨Nat.le_of_ble_eq_true rfl, Nat.le_of_ble_eq_true rfl⟩ ⟨Nat.le_of_ble_eq_true rfl, Nat.le_of_ble_eq_true rfl, rfl, Nat.le_of_ble_eq_true rfl⟩ (fun v14 g14 m14 hp => ?_)
  obtain ⟨hv, hg, hm⟩ := hp
  subst v14
  subst g14
  have hC : CPY y 0 9 (wI (wI m y 0 0) y 3 1) m14 := hm
  refine r_vret hX dX8_save_17 ?_ ⟨Nat.le_of_ble_eq_true rfl, Nat.le_of_ble_eq_true rfl⟩
  have e0 : ∀ w, rowF (wI (wI m y 0 0) y 3 1) y w = rowF m y w := fun w => by funext k; unfold rowF; rw [qI_wI_a _ _ _ _ (by omega), qI_wI_a _ _ _ _ (by omega)]
  have er : ∀ w, w ≠ 9 → ∀ k, k < 49 → rowF m14 y w k = rowF m y w k := fun w hw k hk => by rw [hC.oth (w' := w) hw k hk, e0]
  have eo : ∀ a j, a ≠ y + 1 → ¬ (a = y ∧ (j = 0 ∨ j = 3)) → qI m14 a j = qI m a j := fun a j h1 h2 => by
    rw [hC.off h1, qI_wI, if_neg (by omega), qI_wI, if_neg (by omega)]
  obtain ⟨b1, ⟨b2, b3, b4⟩, ⟨b5, b6⟩, ⟨b7, b8⟩, ⟨b9, b10⟩, b11, b12⟩ := hO.1
  refine ⟨rfl, rfl, ?_, ⟨⟨hO.1.1.to hC.2, ⟨?_, b3, fun i W hi => ?_⟩, ⟨?_, fun W hW => ?_⟩, ⟨?_, ?_⟩, ⟨?_, fun j hj => ?_⟩, ?_, fun j hj => ?_⟩, hO.2.1, hO.2.2.congr (er 0 (by decide)) hO.2.1⟩, ?_⟩
  · rw [hC.off (by omega), qI_wI_k _ _ _ _ (by decide), qI_wI_s]; rfl
  · rw [eo _ _ (by omega) (by omega)]; exact b2
  · have hil := (List.getElem?_eq_some_iff.mp hi).1
    obtain ⟨d1, d2⟩ := b4 i W hi
    have hi8 : (oHi O).length - i ≠ 9 := by omega
    exact ⟨d1, d2.congr (er _ hi8) d1⟩
  · rw [hC.off (by omega), qI_wI_s]; rfl
  · cases hW
    refine ⟨hO.2.1, hO.2.2.congr (fun k hk => ?_) hO.2.1⟩
    rw [hC.row k hk, e0]
  · rw [eo _ _ (by omega) (by omega)]; exact b7
  · rw [eo _ _ (by omega) (by omega)]; exact b8
  · rw [eo _ _ (by omega) (by omega)]; exact b9
  · rw [eo _ _ (by omega) (by omega)]; exact b10 j hj
  · rw [eo _ _ (by omega) (by omega)]; exact b11
  · rw [eo _ _ (by omega) (by omega)]; exact b12 j hj
  · exact ((mf_thr y m 0).wI ⟨by omega, by omega⟩).tr (hC.mf.mono (fun a j h => ⟨by omega, by omega⟩))
set_option maxRecDepth 20000 in
set_option maxHeartbeats 4000000 in
theorem s_X8_restore (E : qE) (g : qG) (m : qM) (y : Nat) (O : kO) (hO : ModV g m y O) (u : Nat) (hw : WfO u O) (hu : u ≤ 6144) : Sp E yX8_restore cX8_restore 1 none 1 0 0 [.ref y] g m (pUV y g m (restO O)) := by
  refine Sp.of (by decide) [some (.ref y)] rfl rfl (Nat.le_of_ble_eq_true rfl) (fun X hX => ?_)
  have h3 := hO.1.2.2.1.1
  refine r_aload_n hX dX8_restore_0 rfl ?_
  refine r_aload_n hX dX8_restore_1 rfl ?_
  refine r_getI hX dX8_restore_2 hO.1.1.1.1 fl_X8_211 ?_
  rw [h3]
  refine r_callV hX dX8_restore_5 (s_X8_isFine E g m y hO.1.1 (oSv O).isSome) ml_X8_115 rfl rfl hO.1.1.1.1 rfl ⟨Nat.le_of_ble_eq_true rfl, Nat.le_of_ble_eq_true rfl⟩ ⟨Nat.le_of_ble_eq_true rfl, Nat.le_of_ble_eq_true rfl, rfl, Nat.le_of_ble_eq_true rfl⟩ (fun v5 g5 m5 hp => ?_)
  obtain ⟨hv, hg, hm⟩ := hp
  subst v5
  subst g5
  subst m5
  refine r_if_ne (tgt := 12) hX dX8_restore_8 (by decide) (fun c8 => ?_) (fun c8 => ?_)
  · obtain ⟨V, hV⟩ : ∃ V, oSv O = some V := by
      cases hq : oSv O with
      | none => exact absurd (show (if (none : Option kV).isSome = true then (1 : Int32) else 0) = 0 from rfl) (by rw [← hq]; exact c8)
      | some V => exact ⟨V, rfl⟩
    have eR : restO O = (0, 0, V, some V, [], O.2.2.2) := by unfold restO; rw [show O.2.1 = some V from hV]
    obtain ⟨hVl, hVR⟩ := hO.1.2.2.1.2 V hV
    rw [show (if (oSv O).isSome = true then (0 : Int32) else 1) = 0 by rw [hV]; rfl]
    refine r_aload_n hX dX8_restore_12 rfl ?_
    refine r_bipush (v := 9) hX dX8_restore_13 (by decide) ?_
    refine r_iconst (v := 0) hX dX8_restore_15 (by decide) ?_
    refine r_callV hX dX8_restore_16 (s_X8_copies E g _ y (by exact hO.1.1.to rfl) 9 0 (by decide) (by decide) (by decide)) ml_X8_39 rfl rfl hO.1.1.1.1 rfl ⟨Nat.le_of_ble_eq_true rfl, Nat.le_of_ble_eq_true rfl⟩ ⟨Nat.le_of_ble_eq_true rfl, Nat.le_of_ble_eq_true rfl, rfl, Nat.le_of_ble_eq_true rfl⟩ (fun v16 g16 m16 hp => ?_)
    obtain ⟨hv, hg, hm⟩ := hp
    subst v16
    subst g16
    have hC : CPY y 9 0 (wI m y 0 0) m16 := hm
    refine r_aload_n hX dX8_restore_19 rfl ?_
    refine r_iconst (v := 0) hX dX8_restore_20 (by decide) ?_
    refine r_putI hX dX8_restore_21 hO.1.1.1.1 fl_X8_43 ?_
    refine r_vret hX dX8_restore_24 ?_ ⟨Nat.le_of_ble_eq_true rfl, Nat.le_of_ble_eq_true rfl⟩
    rw [eR]
    have er : ∀ w, w ≠ 0 → ∀ k, k < 49 → rowF (wI m16 y 2 0) y w k = rowF m y w k := fun w hw k hk => by
      have e1 := hC.oth (w' := w) (by omega) k hk
      unfold rowF at e1 ⊢
      rw [qI_wI_a _ _ _ _ (by omega), e1, qI_wI_a _ _ _ _ (by omega)]
    have eo : ∀ a j, a ≠ y + 1 → ¬ (a = y ∧ (j = 0 ∨ j = 2)) → qI (wI m16 y 2 0) a j = qI m a j := fun a j h1 h2 => by
      rw [qI_wI, if_neg (by omega), hC.off h1, qI_wI, if_neg (by omega)]
    obtain ⟨b1, b2, ⟨b5, b6⟩, ⟨b7, b8⟩, ⟨b9, b10⟩, b11, b12⟩ := hO.1
    refine ⟨rfl, rfl, ?_, ⟨⟨hO.1.1.to hC.2, ⟨by rw [qI_wI_s]; rfl, Nat.zero_le _, fun i W hi => by have hi : ([] : List kV)[i]? = some W := hi; simp at hi⟩, ⟨?_, fun W hW => ?_⟩, ⟨?_, ?_⟩, ⟨?_, fun j hj => ?_⟩, ?_, fun j hj => ?_⟩, hVl, hVR.congr (fun k hk => ?_) hVl⟩, ?_⟩
    · rw [qI_wI_k _ _ _ _ (by decide), hC.off (by omega), qI_wI_s]; rfl
    · rw [eo _ _ (by omega) (by omega), h3, hV]
    · cases hW
      exact ⟨hVl, hVR.congr (er 9 (by decide)) hVl⟩
    · rw [eo _ _ (by omega) (by omega)]; exact b7
    · rw [eo _ _ (by omega) (by omega)]; exact b8
    · rw [eo _ _ (by omega) (by omega)]; exact b9
    · rw [eo _ _ (by omega) (by omega)]; exact b10 j hj
    · rw [eo _ _ (by omega) (by omega)]; exact b11
    · rw [eo _ _ (by omega) (by omega)]; exact b12 j hj
    · have e1 := hC.row k hk
      unfold rowF at e1 ⊢
      rw [qI_wI_a _ _ _ _ (by omega), e1, qI_wI_a _ _ _ _ (by omega)]
    · exact ((mf_thr y m 0).tr (hC.mf.mono (fun a j h => ⟨by omega, by omega⟩))).wI ⟨by omega, by omega⟩
  · have hn : oSv O = none := by
      cases hq : oSv O with
      | none => rfl
      | some V => exact absurd c8 (by rw [hq]; show ¬ (1 : Int32) = 0; decide)
    have eR : restO O = (1, 0, O) := by unfold restO; rw [show O.2.1 = none from hn]
    rw [hn]
    exact r_vret hX dX8_restore_11 (by rw [eR]; exact ⟨rfl, rfl, by rw [qI_wI_s]; rfl, hO.thr 1, mf_thr y m 1⟩) ⟨Nat.le_of_ble_eq_true rfl, Nat.le_of_ble_eq_true rfl⟩
set_option maxRecDepth 20000 in
set_option maxHeartbeats 4000000 in
theorem s_X8_append (E : qE) (g : qG) (m : qM) (y : Nat) (O : kO) (hO : ModV g m y O) (u : Nat) (hw : WfO u O) (hu : u ≤ 6144) (e : Nat) (he : e < 65536) : Sp E yX8_append cX8_append 2 (some .int) 1 0 0 [.ref y, .int (nI e)] g m (pU y g m (appO O e)) := by
  refine Sp.of (by decide) [some (.ref y), some (.int (nI e))] rfl rfl (Nat.le_of_ble_eq_true rfl) (fun X hX => ?_)
  have h8 := hO.1.2.2.2.2.1.1
  have h60 := hw.2.2.2.2.1
  refine r_aload_n hX dX8_append_0 rfl ?_
  refine r_aload_n hX dX8_append_1 rfl ?_
  refine r_getI hX dX8_append_2 hO.1.1.1.1 fl_X8_163 ?_
  rw [h8]
  refine r_bipush (v := 60) hX dX8_append_5 (by decide) ?_
  refine r_icmp_ge (tgt := 14) hX dX8_append_7 (by decide) (fun c7 => ?_) (fun c7 => ?_)
  · have hn : ¬ oTn O < 60 := fun h => absurd c7 (nI_ge (b := 60) h (by decide))
    have eR : appO O e = (1, 0, O) := if_neg hn
    refine r_iconst (v := 0) hX dX8_append_14 (by decide) ?_
    refine r_callV hX dX8_append_15 (s_X8_isFine E g m y hO.1.1 false) ml_X8_115 rfl rfl hO.1.1.1.1 rfl ⟨Nat.le_of_ble_eq_true rfl, Nat.le_of_ble_eq_true rfl⟩ ⟨Nat.le_of_ble_eq_true rfl, Nat.le_of_ble_eq_true rfl, rfl, Nat.le_of_ble_eq_true rfl⟩ (fun v15 g15 m15 hp => ?_)
    obtain ⟨hv, hg, hm⟩ := hp
    subst v15
    subst g15
    subst m15
    refine r_if_ne (tgt := 23) hX dX8_append_18 (by decide) (fun c18 => ?_) (fun c18 => ?_)
    · exact absurd rfl c18
    · refine r_iconst (v := 0) hX dX8_append_21 (by decide) ?_
      exact r_iret hX dX8_append_22 (by rw [eR]; exact hO.no (by decide) rfl) ⟨Nat.le_of_ble_eq_true rfl, Nat.le_of_ble_eq_true rfl⟩
  · have hn : oTn O < 60 := Nat.lt_of_not_le (fun h => c7 (nI_le (a := 60) h (by omega)))
    have eR : appO O e = (0, nI (oTn O + 1), O.1, O.2.1, O.2.2.1, oEr O, oFa O, (fun j => if j = oTn O then e else oTx O j), oTn O + 1, oLn O) := if_pos hn
    refine r_iconst (v := 1) hX dX8_append_10 (by decide) ?_
    refine r_goto (tgt := 15) hX dX8_append_11 (by decide) ?_
    refine r_callV hX dX8_append_15 (s_X8_isFine E g m y hO.1.1 true) ml_X8_115 rfl rfl hO.1.1.1.1 rfl ⟨Nat.le_of_ble_eq_true rfl, Nat.le_of_ble_eq_true rfl⟩ ⟨Nat.le_of_ble_eq_true rfl, Nat.le_of_ble_eq_true rfl, rfl, Nat.le_of_ble_eq_true rfl⟩ (fun v15 g15 m15 hp => ?_)
    obtain ⟨hv, hg, hm⟩ := hp
    subst v15
    subst g15
    subst m15
    rw [show (if true = true then (0 : Int32) else 1) = 0 from rfl]
    refine r_if_ne (tgt := 23) hX dX8_append_18 (by decide) (fun c18 => ?_) (fun c18 => ?_)
    · refine r_aload_n hX dX8_append_23 rfl ?_
      refine r_getR hX dX8_append_24 hO.1.1.1.1 fl_X8_19 (hO.1.1.to rfl).2.2.2.2.1 ?_
      refine r_aload_n hX dX8_append_27 rfl ?_
      refine r_getI hX dX8_append_28 hO.1.1.1.1 fl_X8_163 ?_
      rw [show qI (wI m y 0 0) y 8 = nI (oTn O) by rw [qI_wI_k _ _ _ _ (by decide)]; exact h8]
      refine r_iload_n hX dX8_append_31 rfl ?_
      refine r_castoreN hX dX8_append_32 hO.1.1.1.2.2.2.2.1 hn (by decide) ?_
      rw [nar_c he]
      refine r_aload_n hX dX8_append_33 rfl ?_
      refine r_dup hX dX8_append_34 rfl ?_
      refine r_getI hX dX8_append_35 hO.1.1.1.1 fl_X8_163 ?_
      rw [show qI (wI (wI m y 0 0) (y + 4) (oTn O) (nI e)) y 8 = nI (oTn O) by rw [qI_wI_a _ _ _ _ (by omega), qI_wI_k _ _ _ _ (by decide)]; exact h8]
      refine r_iconst (v := 1) hX dX8_append_38 (by decide) ?_
      refine r_iadd hX dX8_append_39 ?_
      rw [nI_1]
      refine r_putI hX dX8_append_40 hO.1.1.1.1 fl_X8_163 ?_
      refine r_aload_n hX dX8_append_43 rfl ?_
      refine r_getI hX dX8_append_44 hO.1.1.1.1 fl_X8_163 ?_
      rw [qI_wI_s]
      refine r_iret hX dX8_append_47 ?_ ⟨Nat.le_of_ble_eq_true rfl, Nat.le_of_ble_eq_true rfl⟩
      rw [eR]
      have eo : ∀ a j, ¬ (a = y ∧ (j = 0 ∨ j = 8)) → ¬ (a = y + 4 ∧ j = oTn O) → qI (wI (wI (wI m y 0 0) (y + 4) (oTn O) (nI e)) y 8 (nI (oTn O + 1))) a j = qI m a j := fun a j h1 h2 => by
        rw [qI_wI, if_neg (by omega), qI_wI, if_neg h2, qI_wI, if_neg (by omega)]
      obtain ⟨b1, ⟨b2, b3, b4⟩, ⟨b5, b6⟩, ⟨b7, b8⟩, ⟨b9, b10⟩, b11, b12⟩ := hO.1
      have er : ∀ w, rowF (wI (wI (wI m y 0 0) (y + 4) (oTn O) (nI e)) y 8 (nI (oTn O + 1))) y w = rowF m y w := fun w => by funext k; exact eo _ _ (by omega) (by omega)
      refine ⟨⟨_, rfl, fun _ => rfl⟩, rfl, ?_, ⟨⟨hO.1.1.to rfl, ⟨?_, b3, fun i W hi => ?_⟩, ⟨?_, fun W hW => ?_⟩, ⟨?_, ?_⟩, ⟨?_, fun j hj => ?_⟩, ?_, fun j hj => ?_⟩, hO.2.1, ?_⟩, ?_⟩
      · rw [qI_wI_k _ _ _ _ (by decide), qI_wI_a _ _ _ _ (by omega), qI_wI_s]; rfl
      · rw [eo _ _ (by omega) (by omega)]; exact b2
      · rw [er]; exact b4 i W hi
      · rw [eo _ _ (by omega) (by omega)]; exact b5
      · rw [er]; exact b6 W hW
      · rw [eo _ _ (by omega) (by omega)]; exact b7
      · rw [eo _ _ (by omega) (by omega)]; exact b8
      · rw [qI_wI_s]
      · show _ = nI (if j = oTn O then e else oTx O j)
        by_cases ej : j = oTn O
        · rw [if_pos ej, qI_wI_a _ _ _ _ (by omega), ej, qI_wI_s]
        · have hj : j < oTn O + 1 := hj
          rw [if_neg ej, eo _ _ (by omega) (by omega)]; exact b10 j (by omega)
      · rw [eo _ _ (by omega) (by omega)]; exact b11
      · rw [eo _ _ (by omega) (by omega)]; exact b12 j hj
      · rw [er]; exact hO.2.2
      · exact (((mf_thr y m 0).wI ⟨by omega, by omega⟩).wI ⟨by omega, by omega⟩)
    · exact absurd c18 (by decide)
