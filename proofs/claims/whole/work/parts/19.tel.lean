/-! ===== CometObservatory.Telescope: the telescope at t, its rows at t + 1 .. t + 6 ===== -/
def TelSh (g : qG) (t : Nat) : Prop := gAt g t (.inl 9) ∧ gAt g (t + 1) (.inr (0, 120)) ∧ gAt g (t + 2) (.inr (0, 120)) ∧ gAt g (t + 3) (.inr (0, 120)) ∧ gAt g (t + 4) (.inr (0, 121)) ∧ gAt g (t + 5) (.inr (0, 62)) ∧ gAt g (t + 6) (.inr (0, 62))
def TelR (m : qM) (t : Nat) : Prop := qR m t 0 = some (t + 1) ∧ qR m t 1 = some (t + 2) ∧ qR m t 2 = some (t + 3) ∧ qR m t 3 = some (t + 4) ∧ qR m t 4 = some (t + 5) ∧ qR m t 5 = some (t + 6)
def TelS (g : qG) (m : qM) (t : Nat) : Prop := TelSh g t ∧ TelR m t
theorem TelS.to {g : qG} {m m' : qM} {t : Nat} (h : TelS g m t) (hm : m'.2 = m.2) : TelS g m' t := by
  unfold TelS TelR qR at h ⊢
  rw [hm]
  exact h
/-- a pass: its first day, its last day, its worth -/
abbrev kP : Type := Nat × Nat × Nat
def TelT (m : qM) (t : Nat) (T : Nat → kP) (n : Nat) : Prop := qI m t 6 = nI n ∧ n ≤ 120 ∧ ∀ i, i < n → qI m (t + 1) i = nI (T i).1 ∧ qI m (t + 2) i = nI (T i).2.1 ∧ qI m (t + 3) i = nI (T i).2.2
/-- where a pass with the last day d goes among the first k -/
def slotT (T : Nat → kP) (d : Nat) : Nat → Nat
  | 0 => 0
  | k + 1 => if d < (T k).2.1 then slotT T d k else k + 1
theorem slotT_le (T : Nat → kP) (d : Nat) : ∀ k, slotT T d k ≤ k
  | 0 => Nat.le_refl 0
  | k + 1 => by
    have := slotT_le T d k
    unfold slotT
    split <;> omega
def insT (T : Nat → kP) (n : Nat) (p : kP) : Nat → kP := fun i => if i < slotT T p.2.1 n then T i else if i = slotT T p.2.1 n then p else T (i - 1)
set_option maxRecDepth 20000 in
set_option maxHeartbeats 4000000 in
theorem s_X6_insert_l {E : qE} {X : qX} {Q : State → Prop} {g : qG} {m : qM} (hX : MC E yX6_insert cX6_insert 5 none 0 0 0 [] X) {t n : Nat} {T : Nat → kP} {p : kP} (hs : TelS g m t) (hn : n < 120) (hb : ∀ i, i < n → (T i).2.1 < 2 ^ 31) (hp : p.2.1 < 2 ^ 31) : ∀ (k : Nat) (m1 : qM), k ≤ n → slotT T p.2.1 k = slotT T p.2.1 n → ((∀ i, i < k → qI m1 (t + 1) i = nI (T i).1 ∧ qI m1 (t + 2) i = nI (T i).2.1 ∧ qI m1 (t + 3) i = nI (T i).2.2) ∧ (∀ i, k < i → i ≤ n → qI m1 (t + 1) i = nI (T (i - 1)).1 ∧ qI m1 (t + 2) i = nI (T (i - 1)).2.1 ∧ qI m1 (t + 3) i = nI (T (i - 1)).2.2) ∧ qI m1 t 6 = nI n ∧ m1.2 = m.2 ∧ Outs t 4 m m1) → (∀ (k : Nat) (m2 : qM), k ≤ n → slotT T p.2.1 n = k → ((∀ i, i < k → qI m2 (t + 1) i = nI (T i).1 ∧ qI m2 (t + 2) i = nI (T i).2.1 ∧ qI m2 (t + 3) i = nI (T i).2.2) ∧ (∀ i, k < i → i ≤ n → qI m2 (t + 1) i = nI (T (i - 1)).1 ∧ qI m2 (t + 2) i = nI (T (i - 1)).2.1 ∧ qI m2 (t + 3) i = nI (T (i - 1)).2.2) ∧ qI m2 t 6 = nI n ∧ m2.2 = m.2 ∧ Outs t 4 m m2) → WS E X 0 0 Q g m2 88 [some (.ref t), some (.int (nI p.1)), some (.int (nI p.2.1)), some (.int (nI p.2.2)), some (.int (nI k))] []) → WS E X 0 0 Q g m1 16 [some (.ref t), some (.int (nI p.1)), some (.int (nI p.2.1)), some (.int (nI p.2.2)), some (.int (nI k))] [] := by
  intro k
  induction k with
  | zero =>
    intro m1 hk hq hm1 K
    refine r_iload hX dX6_insert_16 rfl ?_
    refine r_if_le (tgt := 88) hX dX6_insert_18 (by decide) (fun c18 => ?_) (fun c18 => ?_)
    · exact K _ _ hk hq.symm hm1
    · exact absurd (show nI 0 ≤ 0 from Int32.le_refl _) c18
  | succ k ih =>
    intro m1 hk hq hm1 K
    have hf : slotT T p.2.1 (k + 1) = if p.2.1 < (T k).2.1 then slotT T p.2.1 k else k + 1 := rfl
    have hbk := hb k (by omega)
    have hk120 : k < 120 := by omega
    have hk121 : k + 1 < 120 := by omega
    refine r_iload hX dX6_insert_16 rfl ?_
    refine r_if_le (tgt := 88) hX dX6_insert_18 (by decide) (fun c18 => ?_) (fun c18 => ?_)
    · exact absurd c18 (show ¬ nI (k + 1) ≤ nI 0 from nI_ge (by omega) (by omega))
    · refine r_aload_n hX dX6_insert_21 rfl ?_
      refine r_getR hX dX6_insert_22 hs.1.1 fl_X6_15 (hs.to hm1.2.2.2.1).2.2.1 ?_
      refine r_iload hX dX6_insert_25 rfl ?_
      refine r_iconst (v := 1) hX dX6_insert_27 (by decide) ?_
      refine r_isub hX dX6_insert_28 ?_
      rw [show nI (k + 1) - 1 = nI ((k + 1) - 1) from pk_sub (b := 1) (by omega)]
      refine r_ialoadN hX dX6_insert_29 hs.1.2.2.1 (show k + 1 - 1 < 120 by omega) (by decide) ?_
      rw [show k + 1 - 1 = k from rfl, (hm1.1 k (by omega)).2.1]
      refine r_iload_n hX dX6_insert_30 rfl ?_
      refine r_icmp_le (tgt := 88) hX dX6_insert_31 (by decide) (fun c31 => ?_) (fun c31 => ?_)
      · exact K _ _ hk (hq.symm.trans (by rw [hf, if_neg (fun h => nI_ge h (by omega) c31)])) hm1
      · refine r_aload_n hX dX6_insert_34 rfl ?_
        refine r_getR hX dX6_insert_35 hs.1.1 fl_X6_11 (hs.to hm1.2.2.2.1).2.1 ?_
        refine r_iload hX dX6_insert_38 rfl ?_
        refine r_aload_n hX dX6_insert_40 rfl ?_
        refine r_getR hX dX6_insert_41 hs.1.1 fl_X6_11 (hs.to hm1.2.2.2.1).2.1 ?_
        refine r_iload hX dX6_insert_44 rfl ?_
        refine r_iconst (v := 1) hX dX6_insert_46 (by decide) ?_
        refine r_isub hX dX6_insert_47 ?_
        rw [show nI (k + 1) - 1 = nI ((k + 1) - 1) from pk_sub (b := 1) (by omega)]
        refine r_ialoadN hX dX6_insert_48 hs.1.2.1 (show k + 1 - 1 < 120 by omega) (by decide) ?_
        refine r_iastoreN hX dX6_insert_49 hs.1.2.1 hk121 (by decide) ?_
        refine r_aload_n hX dX6_insert_50 rfl ?_
        refine r_getR hX dX6_insert_51 hs.1.1 fl_X6_15 (hs.to hm1.2.2.2.1).2.2.1 ?_
        refine r_iload hX dX6_insert_54 rfl ?_
        refine r_aload_n hX dX6_insert_56 rfl ?_
        refine r_getR hX dX6_insert_57 hs.1.1 fl_X6_15 (hs.to hm1.2.2.2.1).2.2.1 ?_
        refine r_iload hX dX6_insert_60 rfl ?_
        refine r_iconst (v := 1) hX dX6_insert_62 (by decide) ?_
        refine r_isub hX dX6_insert_63 ?_
        rw [show nI (k + 1) - 1 = nI ((k + 1) - 1) from pk_sub (b := 1) (by omega)]
        refine r_ialoadN hX dX6_insert_64 hs.1.2.2.1 (show k + 1 - 1 < 120 by omega) (by decide) ?_
        refine r_iastoreN hX dX6_insert_65 hs.1.2.2.1 hk121 (by decide) ?_
        refine r_aload_n hX dX6_insert_66 rfl ?_
        refine r_getR hX dX6_insert_67 hs.1.1 fl_X6_18 (hs.to hm1.2.2.2.1).2.2.2.1 ?_
        refine r_iload hX dX6_insert_70 rfl ?_
        refine r_aload_n hX dX6_insert_72 rfl ?_
        refine r_getR hX dX6_insert_73 hs.1.1 fl_X6_18 (hs.to hm1.2.2.2.1).2.2.2.1 ?_
        refine r_iload hX dX6_insert_76 rfl ?_
        refine r_iconst (v := 1) hX dX6_insert_78 (by decide) ?_
        refine r_isub hX dX6_insert_79 ?_
        rw [show nI (k + 1) - 1 = nI ((k + 1) - 1) from pk_sub (b := 1) (by omega)]
        refine r_ialoadN hX dX6_insert_80 hs.1.2.2.2.1 (show k + 1 - 1 < 120 by omega) (by decide) ?_
        refine r_iastoreN hX dX6_insert_81 hs.1.2.2.2.1 hk121 (by decide) ?_
        refine r_iinc (v := nI k) hX dX6_insert_82 rfl (iim1 k) rfl ?_
        refine r_goto (tgt := 16) hX dX6_insert_85 (by decide) ?_
        refine ih _ (by omega) (hq.symm.trans (by rw [hf, if_pos (Nat.lt_of_not_le (fun h => absurd (nI_le h (by omega)) c31))])).symm ⟨fun i hi => ?_, fun i hi1 hi2 => ?_, ?_, hm1.2.2.2.1, ((hm1.2.2.2.2.wI (by omega)).wI (by omega)).wI (by omega)⟩ K
        · have := hm1.1 i (by omega)
          simp only [qI_wI]
          grind
        · by_cases e : i = k + 1
          · subst e
            have := hm1.1 k (by omega)
            simp only [qI_wI]
            rw [show k + 1 - 1 = k by omega]
            grind
          · have := hm1.2.1 i (by omega) hi2
            simp only [qI_wI]
            grind
        · have := hm1.2.2.1
          simp only [qI_wI]
          grind
set_option maxRecDepth 20000 in
set_option maxHeartbeats 4000000 in
theorem s_X6_insert (E : qE) (g : qG) (m : qM) (t n : Nat) (T : Nat → kP) (p : kP) (hT : TelT m t T n) (hs : TelS g m t) (hn : n < 120) (hb : ∀ i, i < n → (T i).2.1 < 2 ^ 31) (hp : p.2.1 < 2 ^ 31) : Sp E yX6_insert cX6_insert 5 none 0 0 0 [.ref t, .int (nI p.1), .int (nI p.2.1), .int (nI p.2.2)] g m (fun v g' m' => v = none ∧ g' = g ∧ TelT m' t (insT T n p) (n + 1) ∧ m'.2 = m.2 ∧ Outs t 4 m m') := by
  refine Sp.of (by decide) [some (.ref t), some (.int (nI p.1)), some (.int (nI p.2.1)), some (.int (nI p.2.2)), none] rfl rfl (Nat.le_of_ble_eq_true rfl) (fun X hX => ?_)
  refine r_aload_n hX dX6_insert_0 rfl ?_
  refine r_getI hX dX6_insert_1 hs.1.1 fl_X6_30 ?_
  rw [hT.1]
  refine r_bipush (v := 120) hX dX6_insert_4 (by decide) ?_
  refine r_icmp_lt (tgt := 10) hX dX6_insert_6 (by decide) (fun c6 => ?_) (fun c6 => ?_)
  · refine r_aload_n hX dX6_insert_10 rfl ?_
    refine r_getI hX dX6_insert_11 hs.1.1 fl_X6_30 ?_
    rw [hT.1]
    refine r_istore hX dX6_insert_14 (Nat.le_of_ble_eq_true rfl) rfl ?_
    refine s_X6_insert_l hX hs hn hb hp n m (Nat.le_refl n) rfl ⟨hT.2.2, fun i h1 h2 => absurd h2 (by omega), hT.1, rfl, Outs.rf t 4 m⟩ (fun k m1 hk hq hm1 => ?_)
    have hk120 : k < 120 := by omega
    refine r_aload_n hX dX6_insert_88 rfl ?_
    refine r_getR hX dX6_insert_89 hs.1.1 fl_X6_11 (hs.to hm1.2.2.2.1).2.1 ?_
    refine r_iload hX dX6_insert_92 rfl ?_
    refine r_iload_n hX dX6_insert_94 rfl ?_
    refine r_iastoreN hX dX6_insert_95 hs.1.2.1 hk120 (by decide) ?_
    refine r_aload_n hX dX6_insert_96 rfl ?_
    refine r_getR hX dX6_insert_97 hs.1.1 fl_X6_15 (hs.to hm1.2.2.2.1).2.2.1 ?_
    refine r_iload hX dX6_insert_100 rfl ?_
    refine r_iload_n hX dX6_insert_102 rfl ?_
    refine r_iastoreN hX dX6_insert_103 hs.1.2.2.1 hk120 (by decide) ?_
    refine r_aload_n hX dX6_insert_104 rfl ?_
    refine r_getR hX dX6_insert_105 hs.1.1 fl_X6_18 (hs.to hm1.2.2.2.1).2.2.2.1 ?_
    refine r_iload hX dX6_insert_108 rfl ?_
    refine r_iload_n hX dX6_insert_110 rfl ?_
    refine r_iastoreN hX dX6_insert_111 hs.1.2.2.2.1 hk120 (by decide) ?_
    refine r_aload_n hX dX6_insert_112 rfl ?_
    refine r_dup hX dX6_insert_113 rfl ?_
    refine r_getI hX dX6_insert_114 hs.1.1 fl_X6_30 ?_
    refine r_iconst (v := 1) hX dX6_insert_117 (by decide) ?_
    refine r_iadd hX dX6_insert_118 ?_
    refine r_putI hX dX6_insert_119 hs.1.1 fl_X6_30 ?_
    refine r_vret hX dX6_insert_122 ⟨rfl, rfl, ⟨?_, by omega, fun i hi => ?_⟩, hm1.2.2.2.1, (((hm1.2.2.2.2.wI (by omega)).wI (by omega)).wI (by omega)).wI (by omega)⟩ ⟨Nat.le_of_ble_eq_true rfl, Nat.le_of_ble_eq_true rfl⟩
    · have := hm1.2.2.1
      have := nI_1 n
      simp only [qI_wI]
      grind
    · unfold insT
      rw [hq]
      by_cases e1 : i < k
      · have := hm1.1 i e1
        simp only [qI_wI]
        grind
      · by_cases e2 : i = k
        · subst e2
          simp only [qI_wI]
          grind
        · have := hm1.2.1 i (by omega) (by omega)
          simp only [qI_wI]
          grind
  · exact absurd (nI_lt (b := 120) hn (by decide)) c6
