/-! ===== java.lang.Integer: the digits laid ===== -/
theorem nar_b {e : Nat} (h : e < 128) : vp_nar .byte (nI e) = nI e := by
  have h2 : ∀ e : Fin 128, vp_nar .byte (nI e.val) = nI e.val := by decide +kernel
  exact h2 ⟨e, h⟩
theorem okB_of {l : List (Option Value)} {j : Nat} {z : Option Value} (h : l[j]? = some z) (hz : okZ z = true) : okB l (j + 1) = true := by
  simp only [okB, h]
  cases z with
  | none => rfl
  | some w => exact hz
/-- the digits of w down to place c, with end e, in the row v -/
def GcI (m : qM) (v e w c a : Nat) (m1 : qM) : Prop := (∀ b j, qI m1 b j = if b = v ∧ c ≤ j ∧ j < e then nI (dg w (e - 1 - j)) else qI m b j) ∧ m1.2 = m.2 ∧ digs a + (e - c) = digs w ∧ c ≤ e ∧ (∀ k, dg a k = dg w (k + (e - c))) ∧ a ≤ w
theorem GcI.put {m m1 : qM} {v e w c a : Nat} (h : GcI m v e w (c + 1) a m1) : (∀ b j, qI (wI m1 v c (nI (dg a 0))) b j = if b = v ∧ c ≤ j ∧ j < e then nI (dg w (e - 1 - j)) else qI m b j) := by
  intro b j
  obtain ⟨h1, h2, h3, h4, h5, h6⟩ := h
  rw [qI_wI]
  by_cases e1 : b = v ∧ j = c
  · obtain ⟨rfl, rfl⟩ := e1
    rw [if_pos ⟨rfl, rfl⟩, if_pos ⟨rfl, Nat.le_refl _, by omega⟩, h5 0]
    congr 2
    omega
  · rw [if_neg e1, h1]
    have hiff : (b = v ∧ c + 1 ≤ j ∧ j < e) ↔ (b = v ∧ c ≤ j ∧ j < e) := by
      constructor
      · rintro ⟨x1, x2, x3⟩; exact ⟨x1, by omega, x3⟩
      · rintro ⟨x1, x2, x3⟩; exact ⟨x1, by by_cases hj : j = c; exact absurd ⟨x1, hj⟩ e1; omega, x3⟩
    simp only [hiff]
theorem GcI.step {m m1 : qM} {v e w c a : Nat} (h : GcI m v e w (c + 2) a m1) (ha : 100 ≤ a) (hw : w < 1000000000) : GcI m v e w c (a / 100) (wI (wI m1 v (c + 1) (nI (dg a 0))) v c (nI (dg a 1))) := by
  have hp := h.put (c := c + 1)
  obtain ⟨h1, h2, h3, h4, h5, h6⟩ := h
  have hd := digs_100 ha (by omega)
  refine ⟨fun b j => ?_, h2, by omega, by omega, fun k => ?_, by omega⟩
  · rw [qI_wI]
    by_cases e1 : b = v ∧ j = c
    · obtain ⟨rfl, rfl⟩ := e1
      rw [if_pos ⟨rfl, rfl⟩, if_pos ⟨rfl, Nat.le_refl _, by omega⟩, h5 1]
      congr 2
      omega
    · rw [if_neg e1, hp]
      have hiff : (b = v ∧ c + 1 ≤ j ∧ j < e) ↔ (b = v ∧ c ≤ j ∧ j < e) := by
        constructor
        · rintro ⟨x1, x2, x3⟩; exact ⟨x1, by omega, x3⟩
        · rintro ⟨x1, x2, x3⟩; exact ⟨x1, by by_cases hj : j = c; exact absurd ⟨x1, hj⟩ e1; omega, x3⟩
      simp only [hiff]
  · rw [← dg_100, h5 (k + 2)]
    congr 1
    omega
theorem digs_3 {a : Nat} (h : 100 ≤ a) : 3 ≤ digs a := by
  unfold digs
  repeat' split
  all_goals omega
theorem digs_1 {a : Nat} (h : a < 10) : digs a = 1 := if_pos h
theorem digs_2 {a : Nat} (h : 10 ≤ a) (h2 : a < 100) : digs a = 2 := by
  unfold digs
  rw [if_neg (by omega), if_pos h2]
theorem dg_a0 {a : Nat} : 48 + a % 100 % 10 = dg a 0 := by rw [dg_0]; omega
theorem dg_a1 {a : Nat} : 48 + a % 100 / 10 = dg a 1 := by
  show _ = 48 + a / 10 ^ 1 % 10
  omega
set_option maxRecDepth 20000 in
set_option maxHeartbeats 4000000 in
theorem s_J6_chars_l {E : qE} {X : qX} {Q : State → Prop} {g : qG} {m : qM} {v e w cap : Nat} (hX : MC E yJ6_getChars_ba4f3 cJ6_getChars_ba4f3 7 (some .int) 0 0 0 [] X) (hv : gAt g v (.inr (2, cap))) (hw : w < 1000000000) (he : e ≤ cap ∧ cap < 2 ^ 31 ∧ digs w ≤ e) (K : ∀ (a c : Nat) (z3 z4 : Option Value) (m1 : qM), okZ z4 = true → GcI m v e w c a m1 → a < 100 → WS E X 0 0 Q g m1 72 [some (.int (-nI a)), some (.int (nI e)), some (.ref v), z3, z4, some (.int (nI c)), some (.int 0)] []) : ∀ (k a c : Nat) (z3 z4 : Option Value) (m1 : qM), a < 100 ^ (k + 1) → okZ z4 = true → GcI m v e w c a m1 → WS E X 0 0 Q g m1 22 [some (.int (-nI a)), some (.int (nI e)), some (.ref v), z3, z4, some (.int (nI c)), some (.int 0)] [] := by
  intro k
  induction k with
  | zero =>
    intro a c z3 z4 m1 ha hz4 hm1
    have ha : a < 100 := ha
    refine r_iload_n hX dJ6_getChars_ba4f3_22 rfl ?_
    refine r_bipush (v := (-100)) hX dJ6_getChars_ba4f3_23 (by decide) ?_
    refine r_icmp_gt (tgt := 72) hX dJ6_getChars_ba4f3_25 (by decide) (fun c25 => ?_) (fun c25 => ?_)
    · exact K _ _ _ _ _ hz4 hm1 ha
    · exact absurd ((ng_lt (a := 100) (b := a) (by decide) (by omega)).mpr ha) (fun h => c25 h)
  | succ k ih =>
    intro a c z3 z4 m1 ha hz4 hm1
    have ha9 : a < 1000000000 := by have := hm1.2.2.2.2.2; omega
    have hw31 : a < 2 ^ 31 := by omega
    refine r_iload_n hX dJ6_getChars_ba4f3_22 rfl ?_
    refine r_bipush (v := (-100)) hX dJ6_getChars_ba4f3_23 (by decide) ?_
    refine r_icmp_gt (tgt := 72) hX dJ6_getChars_ba4f3_25 (by decide) (fun c25 => ?_) (fun c25 => ?_)
    · exact K _ _ _ _ _ hz4 hm1 (Classical.byContradiction (fun h => absurd ((ng_lt (a := 100) (b := a) (by decide) hw31).mp c25) h))
    · have hge : 100 ≤ a := Nat.le_of_not_lt (fun h => c25 ((ng_lt (a := 100) (b := a) (by decide) hw31).mpr h))
      have hd3 := digs_3 hge
      obtain ⟨q1, q2, q3, q4, q5, q6⟩ := hm1
      have hm1 : GcI m v e w c a m1 := ⟨q1, q2, q3, q4, q5, q6⟩
      obtain ⟨c2, rfl⟩ : ∃ c2, c = c2 + 2 := ⟨c - 2, by omega⟩
      have hc1 : c2 + 1 < cap := by omega
      have hc0 : c2 < cap := by omega
      refine r_iload_n hX dJ6_getChars_ba4f3_28 rfl ?_
      refine r_bipush (v := 100) hX dJ6_getChars_ba4f3_29 (by decide) ?_
      refine r_idiv hX dJ6_getChars_ba4f3_31 (by decide) ?_
      rw [ng_div hw31]
      refine r_istore_n hX dJ6_getChars_ba4f3_32 (Nat.le_of_ble_eq_true rfl) rfl ?_
      refine r_iload_n hX dJ6_getChars_ba4f3_33 rfl ?_
      refine r_bipush (v := 100) hX dJ6_getChars_ba4f3_34 (by decide) ?_
      refine r_imul hX dJ6_getChars_ba4f3_36 ?_
      refine r_iload_n hX dJ6_getChars_ba4f3_37 rfl ?_
      refine r_isub hX dJ6_getChars_ba4f3_38 ?_
      rw [ng_mod hw31]
      refine r_istore hX dJ6_getChars_ba4f3_39 (Nat.le_of_ble_eq_true rfl) rfl ?_
      refine r_iload_n hX dJ6_getChars_ba4f3_41 rfl ?_
      refine r_istore_n hX dJ6_getChars_ba4f3_42 (Nat.le_of_ble_eq_true rfl) rfl ?_
      refine r_aload_n hX dJ6_getChars_ba4f3_43 rfl ?_
      refine r_iinc (v := nI (c2 + 1)) hX dJ6_getChars_ba4f3_44 rfl (iim1 (c2 + 1)) rfl ?_
      refine r_iload hX dJ6_getChars_ba4f3_47 rfl ?_
      refine r_getsO hX dJ6_getChars_ba4f3_49 ⟨List.mem_of_getElem? (i := 803) (by decide +kernel), by decide +kernel⟩ ?_
      refine r_iload hX dJ6_getChars_ba4f3_52 rfl ?_
      refine r_ones hX dJ6_getChars_ba4f3_54 (Nat.mod_lt _ (by decide)) ?_
      refine r_bastoreN hX dJ6_getChars_ba4f3_55 hv hc1 he.2.1 ?_
      rw [nar_b (by omega)]
      refine r_aload_n hX dJ6_getChars_ba4f3_56 rfl ?_
      refine r_iinc (v := nI c2) hX dJ6_getChars_ba4f3_57 rfl (iim1 c2) rfl ?_
      refine r_iload hX dJ6_getChars_ba4f3_60 rfl ?_
      refine r_getsT hX dJ6_getChars_ba4f3_62 ⟨List.mem_of_getElem? (i := 805) (by decide +kernel), by decide +kernel⟩ ?_
      refine r_iload hX dJ6_getChars_ba4f3_65 rfl ?_
      refine r_tens hX dJ6_getChars_ba4f3_67 (Nat.mod_lt _ (by decide)) ?_
      refine r_bastoreN hX dJ6_getChars_ba4f3_68 hv hc0 he.2.1 ?_
      rw [nar_b (by omega)]
      refine r_goto (tgt := 22) hX dJ6_getChars_ba4f3_69 (by decide) ?_
      have hst := hm1.step hge hw
      rw [dg_a0, dg_a1] at *
      exact ih (a / 100) c2 _ _ _ (Nat.div_lt_of_lt_mul (by rw [Nat.pow_succ, Nat.mul_comm] at ha; exact ha)) rfl hst
set_option maxRecDepth 20000 in
set_option maxHeartbeats 4000000 in
theorem s_J6_chars (E : qE) (g : qG) (m : qM) (v e w cap : Nat) (hv : gAt g v (.inr (2, cap))) (hw : w < 1000000000) (he : e ≤ cap ∧ cap < 2 ^ 31 ∧ digs w ≤ e) : Sp E yJ6_getChars_ba4f3 cJ6_getChars_ba4f3 7 (some .int) 0 0 0 [.int (nI w), .int (nI e), .ref v] g m (fun v' g' m' => v' = some (.int (nI (e - digs w))) ∧ g' = g ∧ (∀ b j, qI m' b j = if b = v ∧ e - digs w ≤ j ∧ j < e then nI (dg w (e - 1 - j)) else qI m b j) ∧ m'.2 = m.2) := by
  refine Sp.ofF (by decide +kernel) [some (.int (nI w)), some (.int (nI e)), some (.ref v), none, none, none, none] rfl rfl (Nat.le_of_ble_eq_true rfl) (fun X hX => ?_)
  refine r_iload_n hX dJ6_getChars_ba4f3_0 rfl ?_
  refine r_istore hX dJ6_getChars_ba4f3_1 (Nat.le_of_ble_eq_true rfl) rfl ?_
  refine r_iload_n hX dJ6_getChars_ba4f3_3 rfl ?_
  refine r_if_ge (tgt := 11) hX dJ6_getChars_ba4f3_4 (by decide) (fun c4 => ?_) (fun c4 => ?_)
  · refine r_iconst (v := 0) hX dJ6_getChars_ba4f3_11 (by decide) ?_
    refine r_istore hX dJ6_getChars_ba4f3_12 (Nat.le_of_ble_eq_true rfl) rfl ?_
    refine r_iload hX dJ6_getChars_ba4f3_14 rfl ?_
    refine r_if_ne (tgt := 22) hX dJ6_getChars_ba4f3_16 (by decide) (fun c16 => ?_) (fun c16 => ?_)
    · exact absurd rfl c16
    · refine r_iload_n hX dJ6_getChars_ba4f3_19 rfl ?_
      refine r_ineg hX dJ6_getChars_ba4f3_20 ?_
      refine r_istore_n hX dJ6_getChars_ba4f3_21 (Nat.le_of_ble_eq_true rfl) rfl ?_
      refine s_J6_chars_l hX hv hw he (fun a c z3 z4 m1 hz4 hm1 ha => ?_) 4 w e none none m (Nat.lt_of_lt_of_le hw (by decide)) rfl ⟨fun b j => by rw [if_neg (by omega)], rfl, by omega, Nat.le_refl e, fun k => by rw [Nat.sub_self]; rfl, Nat.le_refl w⟩
      have hd := digs_le a
      obtain ⟨q1, q2, q3, q4, q5, q6⟩ := hm1
      have hm1 : GcI m v e w c a m1 := ⟨q1, q2, q3, q4, q5, q6⟩
      obtain ⟨c1, rfl⟩ : ∃ c1, c = c1 + 1 := ⟨c - 1, by omega⟩
      have hc1 : c1 < cap := by omega
      have hp := hm1.put
      refine r_aload_n hX dJ6_getChars_ba4f3_72 rfl ?_
      refine r_iinc (v := nI c1) hX dJ6_getChars_ba4f3_73 rfl (iim1 c1) (okB_of (j := 4) rfl hz4) ?_
      refine r_iload hX dJ6_getChars_ba4f3_76 rfl ?_
      refine r_getsO hX dJ6_getChars_ba4f3_78 ⟨List.mem_of_getElem? (i := 803) (by decide +kernel), by decide +kernel⟩ ?_
      refine r_iload_n hX dJ6_getChars_ba4f3_81 rfl ?_
      refine r_ineg hX dJ6_getChars_ba4f3_82 ?_
      rw [ng_neg]
      refine r_ones hX dJ6_getChars_ba4f3_83 (show a < 100 from ha) ?_
      rw [show 48 + a % 10 = dg a 0 from (dg_0 a).symm]
      refine r_bastoreN hX dJ6_getChars_ba4f3_84 hv hc1 he.2.1 ?_
      rw [nar_b (by have := dg_lt a 0; omega)]
      refine r_iload_n hX dJ6_getChars_ba4f3_85 rfl ?_
      refine r_bipush (v := (-9)) hX dJ6_getChars_ba4f3_86 (by decide) ?_
      refine r_icmp_ge (tgt := 104) hX dJ6_getChars_ba4f3_88 (by decide) (fun c88 => ?_) (fun c88 => ?_)
      · refine r_iload hX dJ6_getChars_ba4f3_104 rfl ?_
        refine r_if_eq (tgt := 118) hX dJ6_getChars_ba4f3_106 (by decide) (fun c106 => ?_) (fun c106 => ?_)
        · first
          | have ha10 : a < 10 := Classical.byContradiction (fun h => absurd ((ng_lt (a := a) (b := 9) (by omega) (by decide)).mpr (by omega)) (Int32.not_lt.mpr c88))
            have hd1 := digs_1 ha10
            refine r_iload hX dJ6_getChars_ba4f3_118 rfl ?_
            exact r_iret hX dJ6_getChars_ba4f3_120 ⟨congrArg (fun z => some (Value.int (nI z))) (by omega), rfl, fun b j => by rw [hp, show c1 = e - digs w by omega], q2⟩ ⟨Nat.le_of_ble_eq_true rfl, Nat.le_of_ble_eq_true rfl⟩
          | refine r_iload hX dJ6_getChars_ba4f3_118 rfl ?_
            refine r_iret hX dJ6_getChars_ba4f3_120 ⟨congrArg (fun z => some (Value.int (nI z))) (by omega), rfl, fun b j => ?_, q2⟩ ⟨Nat.le_of_ble_eq_true rfl, Nat.le_of_ble_eq_true rfl⟩
            rw [qI_wI, show e - digs w = c2 by omega]
            by_cases e1 : b = v ∧ j = c2
            · obtain ⟨rfl, rfl⟩ := e1
              rw [if_pos ⟨rfl, rfl⟩, if_pos ⟨rfl, Nat.le_refl _, by omega⟩, q5 1]
              congr 2
              omega
            · rw [if_neg e1, hp]
              have hiff : (b = v ∧ c2 + 1 ≤ j ∧ j < e) ↔ (b = v ∧ c2 ≤ j ∧ j < e) := by
                constructor
                · rintro ⟨x1, x2, x3⟩; exact ⟨x1, by omega, x3⟩
                · rintro ⟨x1, x2, x3⟩; exact ⟨x1, by by_cases hj : j = c2; exact absurd ⟨x1, hj⟩ e1; omega, x3⟩
              simp only [hiff]
        · exact absurd rfl c106
      · have ha10 : 10 ≤ a := Nat.le_of_not_lt (fun h => c88 (Int32.not_lt.mp (fun h2 => absurd ((ng_lt (a := a) (b := 9) (by omega) (by decide)).mp h2) (by omega))))
        have hd2 := digs_2 ha10 ha
        obtain ⟨c2, rfl⟩ : ∃ c2, c1 = c2 + 1 := ⟨c1 - 1, by omega⟩
        have hc2 : c2 < cap := by omega
        refine r_aload_n hX dJ6_getChars_ba4f3_91 rfl ?_
        refine r_iinc (v := nI c2) hX dJ6_getChars_ba4f3_92 rfl (iim1 c2) (okB_of (j := 4) rfl hz4) ?_
        refine r_iload hX dJ6_getChars_ba4f3_95 rfl ?_
        refine r_getsT hX dJ6_getChars_ba4f3_97 ⟨List.mem_of_getElem? (i := 805) (by decide +kernel), by decide +kernel⟩ ?_
        refine r_iload_n hX dJ6_getChars_ba4f3_100 rfl ?_
        refine r_ineg hX dJ6_getChars_ba4f3_101 ?_
        rw [ng_neg]
        refine r_tens hX dJ6_getChars_ba4f3_102 (show a < 100 from ha) ?_
        rw [show 48 + a / 10 = dg a 1 from by rw [← dg_a1, Nat.mod_eq_of_lt ha]]
        refine r_bastoreN hX dJ6_getChars_ba4f3_103 hv hc2 he.2.1 ?_
        rw [nar_b (by have := dg_lt a 1; omega)]
        refine r_iload hX dJ6_getChars_ba4f3_104 rfl ?_
        refine r_if_eq (tgt := 118) hX dJ6_getChars_ba4f3_106 (by decide) (fun c106 => ?_) (fun c106 => ?_)
        · first
          | have ha10 : a < 10 := Classical.byContradiction (fun h => absurd ((ng_lt (a := a) (b := 9) (by omega) (by decide)).mpr (by omega)) (Int32.not_lt.mpr c88))
            have hd1 := digs_1 ha10
            refine r_iload hX dJ6_getChars_ba4f3_118 rfl ?_
            exact r_iret hX dJ6_getChars_ba4f3_120 ⟨congrArg (fun z => some (Value.int (nI z))) (by omega), rfl, fun b j => by rw [hp, show c1 = e - digs w by omega], q2⟩ ⟨Nat.le_of_ble_eq_true rfl, Nat.le_of_ble_eq_true rfl⟩
          | refine r_iload hX dJ6_getChars_ba4f3_118 rfl ?_
            refine r_iret hX dJ6_getChars_ba4f3_120 ⟨congrArg (fun z => some (Value.int (nI z))) (by omega), rfl, fun b j => ?_, q2⟩ ⟨Nat.le_of_ble_eq_true rfl, Nat.le_of_ble_eq_true rfl⟩
            rw [qI_wI, show e - digs w = c2 by omega]
            by_cases e1 : b = v ∧ j = c2
            · obtain ⟨rfl, rfl⟩ := e1
              rw [if_pos ⟨rfl, rfl⟩, if_pos ⟨rfl, Nat.le_refl _, by omega⟩, q5 1]
              congr 2
              omega
            · rw [if_neg e1, hp]
              have hiff : (b = v ∧ c2 + 1 ≤ j ∧ j < e) ↔ (b = v ∧ c2 ≤ j ∧ j < e) := by
                constructor
                · rintro ⟨x1, x2, x3⟩; exact ⟨x1, by omega, x3⟩
                · rintro ⟨x1, x2, x3⟩; exact ⟨x1, by by_cases hj : j = c2; exact absurd ⟨x1, hj⟩ e1; omega, x3⟩
              simp only [hiff]
        · exact absurd rfl c106
  · exact absurd (nI_pos' (by omega)) c4
