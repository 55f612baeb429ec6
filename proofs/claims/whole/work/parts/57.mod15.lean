/-! ===== CometObservatoryModel: the plans ===== -/
/-- a pass with brightness b on a day is offered to the plans of D days -/
def folM (D day b : Nat) (WP : Nat → Nat × Nat) (c : Nat × Nat) : Nat × Nat := if b = 0 ∨ D + 1 < day + (1 + b / 5) then c else offr c (b + (WP (day + (1 + b / 5))).1) (1 + (WP (day + (1 + b / 5))).2)
def daM (L : List (Nat → Nat)) (D0 D day : Nat) (WP : Nat → Nat × Nat) : Nat → Nat × Nat
  | 0 => WP (day + 1)
  | k + 1 => folM D day (brC (cAt L k) (D0 + day)) WP (daM L D0 D day WP k)
def plM (L : List (Nat → Nat)) (D0 D : Nat) : Nat → Nat → Nat × Nat
  | 0 => fun _ => (0, 0)
  | k + 1 => fun j => if j = D - k then daM L D0 D (D - k) (plM L D0 D k) L.length else plM L D0 D k j
theorem folM_le {D day b w p : Nat} {WP : Nat → Nat × Nat} {c : Nat × Nat} (h : ∀ j, (WP j).1 ≤ w ∧ (WP j).2 ≤ p) (hb : b ≤ 20) (hc : c.1 ≤ 20 + w ∧ c.2 ≤ 1 + p) : (folM D day b WP c).1 ≤ 20 + w ∧ (folM D day b WP c).2 ≤ 1 + p := by
  unfold folM
  have := h (day + (1 + b / 5))
  split
  · exact hc
  · exact offr_le hc ⟨by omega, by omega⟩
theorem daM_le {L : List (Nat → Nat)} {D0 D day w p : Nat} {WP : Nat → Nat × Nat} (h : ∀ j, (WP j).1 ≤ w ∧ (WP j).2 ≤ p) (hL : ∀ i, i < L.length → cAt L i 2 ≤ 20) : ∀ k, k ≤ L.length → (daM L D0 D day WP k).1 ≤ 20 + w ∧ (daM L D0 D day WP k).2 ≤ 1 + p
  | 0, _ => by
    have := h (day + 1)
    show (WP (day + 1)).1 ≤ _ ∧ (WP (day + 1)).2 ≤ _
    omega
  | k + 1, hk => folM_le h (Nat.le_trans (brC_le _ _) (hL k (by omega))) (daM_le h hL k (by omega))
theorem plM_le {L : List (Nat → Nat)} {D0 D : Nat} (hL : ∀ i, i < L.length → cAt L i 2 ≤ 20) : ∀ k j, (plM L D0 D k j).1 ≤ 20 * k ∧ (plM L D0 D k j).2 ≤ k
  | 0, j => ⟨Nat.le_refl 0, Nat.le_refl 0⟩
  | k + 1, j => by
    have h1 := plM_le (D0 := D0) (D := D) hL k
    have h2 := daM_le (D0 := D0) (D := D) (day := D - k) h1 hL L.length (Nat.le_refl _)
    have := h1 j
    unfold plM
    split <;> omega
theorem pair_same {m : qM} {p q d : Nat} {c : Nat × Nat} (h5 : qI m p d = nI c.1) (h6 : qI m q d = nI c.2) : ∀ a j, qI m a j = if a = p ∧ j = d then nI c.1 else if a = q ∧ j = d then nI c.2 else qI m a j := fun a j => by
  by_cases e1 : a = p ∧ j = d
  · rw [if_pos e1, e1.1, e1.2]; exact h5
  · rw [if_neg e1]
    by_cases e2 : a = q ∧ j = d
    · rw [if_pos e2, e2.1, e2.2]; exact h6
    · rw [if_neg e2]
theorem pair_set {m : qM} {p q d : Nat} {v w : Int32} (hpq : p ≠ q) : ∀ a j, qI (wI (wI m p d v) q d w) a j = if a = p ∧ j = d then v else if a = q ∧ j = d then w else qI m a j := fun a j => by
  rw [qI_wI, qI_wI]
  by_cases e1 : a = p ∧ j = d
  · rw [if_pos e1, if_neg (by omega), if_pos e1]
  · rw [if_neg e1, if_neg e1]
set_option maxRecDepth 20000 in
set_option maxHeartbeats 4000000 in
theorem s_X8_follows (E : qE) (g : qG) (m : qM) (y : Nat) (hs : ModS g m y) (D day b : Nat) (WP : Nat → Nat × Nat) (c : Nat × Nat) (hb : b ≤ 20) (hD : D ≤ 60) (hd : 1 ≤ day ∧ day ≤ D) (h5 : qI m (y + 2) day = nI c.1) (h6 : qI m (y + 3) day = nI c.2) (hc : c.1 ≤ 2000 ∧ c.2 ≤ 2000) (hW : ∀ j, day < j → j ≤ D + 1 → qI m (y + 2) j = nI (WP j).1 ∧ qI m (y + 3) j = nI (WP j).2) (hWb : ∀ j, (WP j).1 ≤ 2000 ∧ (WP j).2 ≤ 2000) : Sp E yX8_follows cX8_follows 7 none 1 0 0 [.ref y, .int (nI b), .int (nI day), .int (nI D)] g m (fun v g' m' => v = none ∧ g' = g ∧ (∀ a j, qI m' a j = if a = y + 2 ∧ j = day then nI (folM D day b WP c).1 else if a = y + 3 ∧ j = day then nI (folM D day b WP c).2 else qI m a j) ∧ m'.2 = m.2) := by
  refine Sp.of (by decide) [some (.ref y), some (.int (nI b)), some (.int (nI day)), some (.int (nI D)), none, none, none] rfl rfl (Nat.le_of_ble_eq_true rfl) (fun X hX => ?_)
  have hWj := hWb (day + (1 + b / 5))
  have hd62 : day < 62 := by omega
  refine r_iload_n hX dX8_follows_0 rfl ?_
  refine r_iload_n hX dX8_follows_1 rfl ?_
  refine r_callS hX dX8_follows_2 (s_X8_tailOf E g m (nI b)) ml_X8_125 rfl rfl ⟨Nat.le_of_ble_eq_true rfl, Nat.le_of_ble_eq_true rfl⟩ ⟨Nat.le_of_ble_eq_true rfl, Nat.le_of_ble_eq_true rfl, rfl, Nat.le_of_ble_eq_true rfl⟩ (fun v2 g2 m2 hp => ?_)
  obtain ⟨hv, hg, hm⟩ := hp
  subst v2
  subst g2
  subst m2
  rw [show (1 : Int32) + nI b / 5 = nI (1 + b / 5) by rw [show nI b / (5 : Int32) = nI (b / 5) from pk_div (d := 5) (by omega) (by decide) (by decide)]; exact nI_add 1 _]
  refine r_iadd hX dX8_follows_5 ?_
  rw [nI_add]
  refine r_istore hX dX8_follows_6 (Nat.le_of_ble_eq_true rfl) rfl ?_
  refine r_iload_n hX dX8_follows_8 rfl ?_
  refine r_if_eq (tgt := 20) hX dX8_follows_9 (by decide) (fun c9 => ?_) (fun c9 => ?_)
  · have h0 : b = 0 := (nI_eq (b := 0) (by omega) (by decide)).mp c9
    have hf : folM D day b WP c = c := if_pos (Or.inl h0)
    exact r_vret hX dX8_follows_20 ⟨rfl, rfl, by rw [hf]; exact pair_same h5 h6, rfl⟩ ⟨Nat.le_of_ble_eq_true rfl, Nat.le_of_ble_eq_true rfl⟩
  · have h0 : ¬ b = 0 := fun h => c9 (by rw [h]; rfl)
    refine r_iload hX dX8_follows_12 rfl ?_
    refine r_iload_n hX dX8_follows_14 rfl ?_
    refine r_iconst (v := 1) hX dX8_follows_15 (by decide) ?_
    refine r_iadd hX dX8_follows_16 ?_
    rw [nI_1]
    refine r_icmp_le (tgt := 21) hX dX8_follows_17 (by decide) (fun c17 => ?_) (fun c17 => ?_)
    · have h1 : ¬ D + 1 < day + (1 + b / 5) := Nat.not_lt_of_le ((nI_leI (by omega) (by omega)).mp c17)
      have hf0 : folM D day b WP c = offr c (b + (WP (day + (1 + b / 5))).1) (1 + (WP (day + (1 + b / 5))).2) := if_neg (by omega)
      obtain ⟨hW1, hW2⟩ := hW (day + (1 + b / 5)) (by omega) (by omega)
      have hb61 : day + (1 + b / 5) < 62 := by omega
      generalize day + (1 + b / 5) = bh at *
      refine r_iload_n hX dX8_follows_21 rfl ?_
      refine r_aload_n hX dX8_follows_22 rfl ?_
      refine r_getR hX dX8_follows_23 hs.1.1 fl_X8_13 hs.2.2.1 ?_
      refine r_iload hX dX8_follows_26 rfl ?_
      refine r_ialoadN hX dX8_follows_28 hs.1.2.2.1 hb61 (by decide) ?_
      rw [hW1]
      refine r_iadd hX dX8_follows_29 ?_
      rw [nI_add]
      refine r_istore hX dX8_follows_30 (Nat.le_of_ble_eq_true rfl) rfl ?_
      refine r_iconst (v := 1) hX dX8_follows_32 (by decide) ?_
      refine r_aload_n hX dX8_follows_33 rfl ?_
      refine r_getR hX dX8_follows_34 hs.1.1 fl_X8_16 hs.2.2.2.1 ?_
      refine r_iload hX dX8_follows_37 rfl ?_
      refine r_ialoadN hX dX8_follows_39 hs.1.2.2.2.1 hb61 (by decide) ?_
      rw [hW2]
      refine r_iadd hX dX8_follows_40 ?_
      rw [show (1 : Int32) + nI (WP bh).2 = nI (1 + (WP bh).2) from nI_add 1 _]
      generalize hs1 : b + (WP bh).1 = sw at *
      generalize hs2 : 1 + (WP bh).2 = sc at *
      refine r_istore hX dX8_follows_41 (Nat.le_of_ble_eq_true rfl) rfl ?_
      refine r_iload hX dX8_follows_43 rfl ?_
      refine r_aload_n hX dX8_follows_45 rfl ?_
      refine r_getR hX dX8_follows_46 hs.1.1 fl_X8_13 hs.2.2.1 ?_
      refine r_iload_n hX dX8_follows_49 rfl ?_
      refine r_ialoadN hX dX8_follows_50 hs.1.2.2.1 hd62 (by decide) ?_
      rw [h5]
      refine r_icmp_lt (tgt := 76) hX dX8_follows_51 (by decide) (fun c51 => ?_) (fun c51 => ?_)
      · have h2 : sw < c.1 := (nI_ltI (by omega) (by omega)).mp c51
        have hf : folM D day b WP c = c := by rw [hf0]; exact if_neg (by omega)
        exact r_vret hX dX8_follows_76 ⟨rfl, rfl, by rw [hf]; exact pair_same h5 h6, rfl⟩ ⟨Nat.le_of_ble_eq_true rfl, Nat.le_of_ble_eq_true rfl⟩
      · have h2 : ¬ sw < c.1 := fun h => c51 (nI_lt h (by omega))
        refine r_iload hX dX8_follows_54 rfl ?_
        refine r_aload_n hX dX8_follows_56 rfl ?_
        refine r_getR hX dX8_follows_57 hs.1.1 fl_X8_13 hs.2.2.1 ?_
        refine r_iload_n hX dX8_follows_60 rfl ?_
        refine r_ialoadN hX dX8_follows_61 hs.1.2.2.1 hd62 (by decide) ?_
        rw [h5]
        refine r_icmp_ne (tgt := 77) hX dX8_follows_62 (by decide) (fun c62 => ?_) (fun c62 => ?_)
        · have h3 : ¬ sw = c.1 := fun h => c62 (congrArg nI h)
          refine r_aload_n hX dX8_follows_77 rfl ?_
          refine r_getR hX dX8_follows_78 hs.1.1 fl_X8_13 hs.2.2.1 ?_
          refine r_iload_n hX dX8_follows_81 rfl ?_
          refine r_iload hX dX8_follows_82 rfl ?_
          refine r_iastoreN hX dX8_follows_84 hs.1.2.2.1 hd62 (by decide) ?_
          refine r_aload_n hX dX8_follows_85 rfl ?_
          refine r_getR hX dX8_follows_86 hs.1.1 fl_X8_16 hs.2.2.2.1 ?_
          refine r_iload_n hX dX8_follows_89 rfl ?_
          refine r_iload hX dX8_follows_90 rfl ?_
          refine r_iastoreN hX dX8_follows_92 hs.1.2.2.2.1 hd62 (by decide) ?_
          have hf : folM D day b WP c = (sw, sc) := by rw [hf0]; exact if_pos (by omega)
          exact r_vret hX dX8_follows_93 ⟨rfl, rfl, by rw [hf]; exact pair_set (by omega), rfl⟩ ⟨Nat.le_of_ble_eq_true rfl, Nat.le_of_ble_eq_true rfl⟩
        · have h3 : sw = c.1 := (nI_eq (by omega) (by omega)).mp c62
          refine r_iload hX dX8_follows_65 rfl ?_
          refine r_aload_n hX dX8_follows_67 rfl ?_
          refine r_getR hX dX8_follows_68 hs.1.1 fl_X8_16 hs.2.2.2.1 ?_
          refine r_iload_n hX dX8_follows_71 rfl ?_
          refine r_ialoadN hX dX8_follows_72 hs.1.2.2.2.1 hd62 (by decide) ?_
          rw [h6]
          refine r_icmp_lt (tgt := 77) hX dX8_follows_73 (by decide) (fun c73 => ?_) (fun c73 => ?_)
          · have h4 : sc < c.2 := (nI_ltI (by omega) (by omega)).mp c73
            refine r_aload_n hX dX8_follows_77 rfl ?_
            refine r_getR hX dX8_follows_78 hs.1.1 fl_X8_13 hs.2.2.1 ?_
            refine r_iload_n hX dX8_follows_81 rfl ?_
            refine r_iload hX dX8_follows_82 rfl ?_
            refine r_iastoreN hX dX8_follows_84 hs.1.2.2.1 hd62 (by decide) ?_
            refine r_aload_n hX dX8_follows_85 rfl ?_
            refine r_getR hX dX8_follows_86 hs.1.1 fl_X8_16 hs.2.2.2.1 ?_
            refine r_iload_n hX dX8_follows_89 rfl ?_
            refine r_iload hX dX8_follows_90 rfl ?_
            refine r_iastoreN hX dX8_follows_92 hs.1.2.2.2.1 hd62 (by decide) ?_
            have hf : folM D day b WP c = (sw, sc) := by rw [hf0]; exact if_pos (by omega)
            exact r_vret hX dX8_follows_93 ⟨rfl, rfl, by rw [hf]; exact pair_set (by omega), rfl⟩ ⟨Nat.le_of_ble_eq_true rfl, Nat.le_of_ble_eq_true rfl⟩
          · have h4 : ¬ sc < c.2 := fun h => c73 (nI_lt h (by omega))
            have hf : folM D day b WP c = c := by rw [hf0]; exact if_neg (by omega)
            exact r_vret hX dX8_follows_76 ⟨rfl, rfl, by rw [hf]; exact pair_same h5 h6, rfl⟩ ⟨Nat.le_of_ble_eq_true rfl, Nat.le_of_ble_eq_true rfl⟩
    · have h1 : D + 1 < day + (1 + b / 5) := Nat.lt_of_not_le (fun h => c17 (nI_le h (by omega)))
      have hf : folM D day b WP c = c := if_pos (Or.inr h1)
      exact r_vret hX dX8_follows_20 ⟨rfl, rfl, by rw [hf]; exact pair_same h5 h6, rfl⟩ ⟨Nat.le_of_ble_eq_true rfl, Nat.le_of_ble_eq_true rfl⟩
theorem pl_row {m m1 : qM} {y : Nat} {V : kV} (hR : RepF (rowF m y 0) V) (hM : MF (fun a _ => a = y + 2 ∨ a = y + 3) m m1) : RepF (rowF m1 y 0) V := by
  rw [show rowF m1 y 0 = rowF m y 0 from funext fun k => hM.1 _ _ (by omega)]
  exact hR
set_option maxRecDepth 20000 in
set_option maxHeartbeats 4000000 in
theorem s_X8_pl_k {E : qE} {X : qX} {Q : State → Prop} {g : qG} {m : qM} (hX : MC E yX8_plans cX8_plans 4 none 2 0 0 [] X) {y : Nat} (hs : ModS g m y) {V : kV} (hR : RepF (rowF m y 0) V) (hF : comF V) {D : Nat} (hD : D ≤ 60) {day : Nat} (hd : 1 ≤ day ∧ day ≤ D) {WP : Nat → Nat × Nat} (hWb : ∀ j, (WP j).1 ≤ 1500 ∧ (WP j).2 ≤ 100) : ∀ (n k : Nat) (m1 : qM), k + n = V.1.length → (qI m1 (y + 2) day = nI (daM V.1 (V.2.1 2) D day WP k).1 ∧ qI m1 (y + 3) day = nI (daM V.1 (V.2.1 2) D day WP k).2 ∧ (∀ j, day < j → j ≤ D + 1 → qI m1 (y + 2) j = nI (WP j).1 ∧ qI m1 (y + 3) j = nI (WP j).2) ∧ MF (fun a j => a = y + 2 ∨ a = y + 3) m m1) → (∀ (w : Int32) (m2 : qM), (qI m2 (y + 2) day = nI (daM V.1 (V.2.1 2) D day WP V.1.length).1 ∧ qI m2 (y + 3) day = nI (daM V.1 (V.2.1 2) D day WP V.1.length).2 ∧ (∀ j, day < j → j ≤ D + 1 → qI m2 (y + 2) j = nI (WP j).1 ∧ qI m2 (y + 3) j = nI (WP j).2) ∧ MF (fun a j => a = y + 2 ∨ a = y + 3) m m2) → WS E X 0 0 Q g m2 83 [some (.ref y), some (.int (nI D)), some (.int (nI day)), some (.int w)] []) → WS E X 0 0 Q g m1 55 [some (.ref y), some (.int (nI D)), some (.int (nI day)), some (.int (nI k))] [] := by
  intro n
  have hl := hF.1
  induction n with
  | zero =>
    intro k m1 hk hm1 K
    have hib : k = V.1.length := by omega
    subst hib
    refine r_iload_n hX dX8_plans_55 rfl ?_
    refine r_aload_n hX dX8_plans_56 rfl ?_
    refine r_getR hX dX8_plans_57 hs.1.1 fl_X8_9 (hs.to hm1.2.2.2.2).2.1 ?_
    refine r_iconst (v := 0) hX dX8_plans_60 (by decide) ?_
    refine r_ialoadN hX dX8_plans_61 hs.1.2.1 (show 0 < 539 by decide) (by decide) ?_
    rw [(pl_row hR hm1.2.2.2).r0]
    refine r_icmp_ge (tgt := 83) hX dX8_plans_62 (by decide) (fun c62 => ?_) (fun c62 => ?_)
    · exact K _ m1 hm1
    · exact absurd (Int32.le_refl _) c62
  | succ n ih =>
    intro k m1 hk hm1 K
    have hkl : k < V.1.length := by omega
    have hcb := fun i hi => (hF.2.2 i hi).2.2.2.1
    have hbr : brC (cAt V.1 k) (V.2.1 2 + day) ≤ 20 := Nat.le_trans (brC_le _ _) (hcb k hkl)
    have hdl := daM_le (L := V.1) (D0 := V.2.1 2) (D := D) (day := day) hWb hcb k (by omega)
    have hR1 := pl_row hR hm1.2.2.2
    refine r_iload_n hX dX8_plans_55 rfl ?_
    refine r_aload_n hX dX8_plans_56 rfl ?_
    refine r_getR hX dX8_plans_57 hs.1.1 fl_X8_9 (hs.to hm1.2.2.2.2).2.1 ?_
    refine r_iconst (v := 0) hX dX8_plans_60 (by decide) ?_
    refine r_ialoadN hX dX8_plans_61 hs.1.2.1 (show 0 < 539 by decide) (by decide) ?_
    rw [(pl_row hR hm1.2.2.2).r0]
    refine r_icmp_ge (tgt := 83) hX dX8_plans_62 (by decide) (fun c62 => ?_) (fun c62 => ?_)
    · exact absurd c62 (nI_ge hkl (by omega))
    · refine r_aload_n hX dX8_plans_65 rfl ?_
      refine r_aload_n hX dX8_plans_66 rfl ?_
      refine r_iload_n hX dX8_plans_67 rfl ?_
      refine r_iload_n hX dX8_plans_68 rfl ?_
      refine r_callV hX dX8_plans_69 (s_X8_brightIn E g m1 y (hs.to hm1.2.2.2.2) V hR1 hF k day hkl (by omega)) ml_X8_132 rfl rfl hs.1.1 rfl ⟨Nat.le_of_ble_eq_true rfl, Nat.le_of_ble_eq_true rfl⟩ ⟨Nat.le_of_ble_eq_true rfl, Nat.le_of_ble_eq_true rfl, rfl, Nat.le_of_ble_eq_true rfl⟩ (fun v69 g69 m69 hp => ?_)
      obtain ⟨hv, hg, hm⟩ := hp
      subst v69
      subst g69
      subst m69
      refine r_iload_n hX dX8_plans_72 rfl ?_
      refine r_iload_n hX dX8_plans_73 rfl ?_
      refine r_callV hX dX8_plans_74 (s_X8_follows E g m1 y (hs.to hm1.2.2.2.2) D day (brC (cAt V.1 k) (V.2.1 2 + day)) WP (daM V.1 (V.2.1 2) D day WP k) hbr hD hd hm1.1 hm1.2.1 (by omega) hm1.2.2.1 (fun j => by have := hWb j; omega)) ml_X8_141 rfl rfl hs.1.1 rfl ⟨Nat.le_of_ble_eq_true rfl, Nat.le_of_ble_eq_true rfl⟩ ⟨Nat.le_of_ble_eq_true rfl, Nat.le_of_ble_eq_true rfl, rfl, Nat.le_of_ble_eq_true rfl⟩ (fun v74 g74 m74 hp => ?_)
      obtain ⟨hv, hg, hq, hq2⟩ := hp
      subst v74
      subst g74
      refine r_iinc (v := nI (k + 1)) hX dX8_plans_77 rfl (ii1 k) rfl ?_
      refine r_goto (tgt := 55) hX dX8_plans_80 (by decide) ?_
      refine ih (k + 1) m74 (by omega) ⟨?_, ?_, fun j h1 h2 => ?_, ?_, ?_⟩ K
      · rw [hq, if_pos ⟨rfl, rfl⟩]; rfl
      · rw [hq, if_neg (by omega), if_pos ⟨rfl, rfl⟩]; rfl
      · rw [hq, hq, if_neg (by omega), if_neg (by omega), if_neg (by omega), if_neg (by omega)]; exact hm1.2.2.1 j h1 h2
      · intro a j hn
        rw [hq, if_neg (by omega), if_neg (by omega)]; exact hm1.2.2.2.1 a j hn
      · exact hq2.trans hm1.2.2.2.2
set_option maxRecDepth 20000 in
set_option maxHeartbeats 4000000 in
theorem s_X8_pl_d {E : qE} {X : qX} {Q : State → Prop} {g : qG} {m : qM} (hX : MC E yX8_plans cX8_plans 4 none 2 0 0 [] X) {y : Nat} (hs : ModS g m y) {V : kV} (hR : RepF (rowF m y 0) V) (hF : comF V) {D : Nat} (hD : D ≤ 60) : ∀ (d k : Nat) (m1 : qM) (z : Option Value), d + k = D → ((∀ j, d < j → j ≤ D + 1 → qI m1 (y + 2) j = nI (plM V.1 (V.2.1 2) D k j).1 ∧ qI m1 (y + 3) j = nI (plM V.1 (V.2.1 2) D k j).2) ∧ MF (fun a j => a = y + 2 ∨ a = y + 3) m m1) → (∀ (w : Int32) (m2 : qM) (z : Option Value), ((∀ j, 0 < j → j ≤ D + 1 → qI m2 (y + 2) j = nI (plM V.1 (V.2.1 2) D D j).1 ∧ qI m2 (y + 3) j = nI (plM V.1 (V.2.1 2) D D j).2) ∧ MF (fun a j => a = y + 2 ∨ a = y + 3) m m2) → WS E X 0 0 Q g m2 89 [some (.ref y), some (.int (nI D)), some (.int w), z] []) → WS E X 0 0 Q g m1 20 [some (.ref y), some (.int (nI D)), some (.int (nI d)), z] [] := by
  intro d
  have hcb := fun i hi => (hF.2.2 i hi).2.2.2.1
  induction d with
  | zero =>
    intro k m1 z hk hm1 K
    have hib : k = D := by omega
    subst hib
    refine r_iload_n hX dX8_plans_20 rfl ?_
    refine r_iconst (v := 1) hX dX8_plans_21 (by decide) ?_
    refine r_icmp_lt (tgt := 89) hX dX8_plans_22 (by decide) (fun c22 => ?_) (fun c22 => ?_)
    · exact K _ m1 _ hm1
    · exact absurd (show nI 0 < 1 by decide) c22
  | succ d ih =>
    intro k m1 z hk hm1 K
    have hdk : D - k = d + 1 := by omega
    have hWb : ∀ j, (plM V.1 (V.2.1 2) D k j).1 ≤ 1500 ∧ (plM V.1 (V.2.1 2) D k j).2 ≤ 100 := fun j => by have := plM_le (D0 := V.2.1 2) (D := D) hcb k j; omega
    obtain ⟨hn1, hn2⟩ := hm1.1 (d + 1 + 1) (by omega) (by omega)
    refine r_iload_n hX dX8_plans_20 rfl ?_
    refine r_iconst (v := 1) hX dX8_plans_21 (by decide) ?_
    refine r_icmp_lt (tgt := 89) hX dX8_plans_22 (by decide) (fun c22 => ?_) (fun c22 => ?_)
    · exact absurd c22 (nI_nlt (b := 1) (by omega) (by omega))
    · refine r_aload_n hX dX8_plans_25 rfl ?_
      refine r_getR hX dX8_plans_26 hs.1.1 fl_X8_13 (hs.to hm1.2.2).2.2.1 ?_
      refine r_iload_n hX dX8_plans_29 rfl ?_
      refine r_aload_n hX dX8_plans_30 rfl ?_
      refine r_getR hX dX8_plans_31 hs.1.1 fl_X8_13 (hs.to hm1.2.2).2.2.1 ?_
      refine r_iload_n hX dX8_plans_34 rfl ?_
      refine r_iconst (v := 1) hX dX8_plans_35 (by decide) ?_
      refine r_iadd hX dX8_plans_36 ?_
      rw [nI_1]
      refine r_ialoadN hX dX8_plans_37 hs.1.2.2.1 (show d + 1 + 1 < 62 by omega) (by decide) ?_
      rw [hn1]
      refine r_iastoreN hX dX8_plans_38 hs.1.2.2.1 (show d + 1 < 62 by omega) (by decide) ?_
      refine r_aload_n hX dX8_plans_39 rfl ?_
      refine r_getR hX dX8_plans_40 hs.1.1 fl_X8_16 (hs.to hm1.2.2).2.2.2.1 ?_
      refine r_iload_n hX dX8_plans_43 rfl ?_
      refine r_aload_n hX dX8_plans_44 rfl ?_
      refine r_getR hX dX8_plans_45 hs.1.1 fl_X8_16 (hs.to hm1.2.2).2.2.2.1 ?_
      refine r_iload_n hX dX8_plans_48 rfl ?_
      refine r_iconst (v := 1) hX dX8_plans_49 (by decide) ?_
      refine r_iadd hX dX8_plans_50 ?_
      rw [nI_1]
      refine r_ialoadN hX dX8_plans_51 hs.1.2.2.2.1 (show d + 1 + 1 < 62 by omega) (by decide) ?_
      rw [qI_wI_a _ _ _ _ (by omega), hn2]
      refine r_iastoreN hX dX8_plans_52 hs.1.2.2.2.1 (show d + 1 < 62 by omega) (by decide) ?_
      refine r_iconst (v := 0) hX dX8_plans_53 (by decide) ?_
      refine r_istore_n hX dX8_plans_54 (Nat.le_of_ble_eq_true rfl) rfl ?_
      refine s_X8_pl_k (g := g) (m := m) (WP := plM V.1 (V.2.1 2) D k) hX hs hR hF hD (day := d + 1) (by omega) hWb V.1.length 0 _ (by omega) ⟨?_, ?_, fun j h1 h2 => ?_, ?_, ?_⟩ (fun w m2 hm2 => ?_)
      · rw [pair_set (by omega), if_pos ⟨rfl, rfl⟩]; rfl
      · rw [pair_set (by omega), if_neg (by omega), if_pos ⟨rfl, rfl⟩]; rfl
      · rw [pair_set (by omega), pair_set (by omega), if_neg (by omega), if_neg (by omega), if_neg (by omega), if_neg (by omega)]; exact hm1.1 j h1 h2
      · intro a j hn
        rw [pair_set (by omega), if_neg (by omega), if_neg (by omega)]; exact hm1.2.1 a j hn
      · exact hm1.2.2
      · refine r_iinc (v := nI d) hX dX8_plans_83 rfl (pk_m1 d) rfl ?_
        refine r_goto (tgt := 20) hX dX8_plans_86 (by decide) ?_
        refine ih (k + 1) m2 _ (by omega) ⟨fun j h1 h2 => ?_, hm2.2.2.2⟩ K
        show _ = nI (if j = D - k then daM V.1 (V.2.1 2) D (D - k) (plM V.1 (V.2.1 2) D k) V.1.length else plM V.1 (V.2.1 2) D k j).1 ∧ _ = nI (if j = D - k then daM V.1 (V.2.1 2) D (D - k) (plM V.1 (V.2.1 2) D k) V.1.length else plM V.1 (V.2.1 2) D k j).2
        rw [hdk]
        by_cases e : j = d + 1
        · rw [if_pos e, e]; exact ⟨hm2.1, hm2.2.1⟩
        · rw [if_neg e]; exact hm2.2.2.1 j (by omega) h2
set_option maxRecDepth 20000 in
set_option maxHeartbeats 4000000 in
theorem s_X8_plans (E : qE) (g : qG) (m : qM) (y : Nat) (hs : ModS g m y) (V : kV) (hR : RepF (rowF m y 0) V) (hF : comF V) (D : Nat) (hD : D ≤ 60) : Sp E yX8_plans cX8_plans 4 none 2 0 0 [.ref y, .int (nI D)] g m (fun v g' m' => v = none ∧ g' = g ∧ ((∀ j, 0 < j → j ≤ D + 1 → qI m' (y + 2) j = nI (plM V.1 (V.2.1 2) D D j).1 ∧ qI m' (y + 3) j = nI (plM V.1 (V.2.1 2) D D j).2) ∧ MF (fun a j => a = y + 2 ∨ a = y + 3) m m')) := by
  refine Sp.of (by decide) [some (.ref y), some (.int (nI D)), none, none] rfl rfl (Nat.le_of_ble_eq_true rfl) (fun X hX => ?_)
  refine r_aload_n hX dX8_plans_0 rfl ?_
  refine r_getR hX dX8_plans_1 hs.1.1 fl_X8_13 hs.2.2.1 ?_
  refine r_iload_n hX dX8_plans_4 rfl ?_
  refine r_iconst (v := 1) hX dX8_plans_5 (by decide) ?_
  refine r_iadd hX dX8_plans_6 ?_
  rw [nI_1]
  refine r_iconst (v := 0) hX dX8_plans_7 (by decide) ?_
  refine r_iastoreN hX dX8_plans_8 hs.1.2.2.1 (show D + 1 < 62 by omega) (by decide) ?_
  refine r_aload_n hX dX8_plans_9 rfl ?_
  refine r_getR hX dX8_plans_10 hs.1.1 fl_X8_16 hs.2.2.2.1 ?_
  refine r_iload_n hX dX8_plans_13 rfl ?_
  refine r_iconst (v := 1) hX dX8_plans_14 (by decide) ?_
  refine r_iadd hX dX8_plans_15 ?_
  rw [nI_1]
  refine r_iconst (v := 0) hX dX8_plans_16 (by decide) ?_
  refine r_iastoreN hX dX8_plans_17 hs.1.2.2.2.1 (show D + 1 < 62 by omega) (by decide) ?_
  refine r_iload_n hX dX8_plans_18 rfl ?_
  refine r_istore_n hX dX8_plans_19 (Nat.le_of_ble_eq_true rfl) rfl ?_
  refine s_X8_pl_d (g := g) (m := m) hX hs hR hF hD D 0 _ none (by omega) ⟨fun j h1 h2 => ?_, ?_, rfl⟩ (fun w m2 z hm2 => ?_)
  · have hj : j = D + 1 := by omega
    rw [pair_set (by omega), pair_set (by omega), hj, if_pos ⟨rfl, rfl⟩, if_neg (by omega), if_pos ⟨rfl, rfl⟩]
    exact ⟨rfl, rfl⟩
  · intro a j hn
    rw [pair_set (by omega), if_neg (by omega), if_neg (by omega)]
  · exact r_vret hX dX8_plans_89 ⟨rfl, rfl, hm2⟩ ⟨Nat.le_of_ble_eq_true rfl, Nat.le_of_ble_eq_true rfl⟩
