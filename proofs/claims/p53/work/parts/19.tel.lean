/-! ===== CometObservatory.Telescope: the telescope at t, its rows at t + 1 .. t + 6 ===== -/
def TelSh (g : qG) (t : Nat) : Prop := gAt g t (.inl 9) ∧ gAt g (t + 1) (.inr (0, 120)) ∧ gAt g (t + 2) (.inr (0, 120)) ∧ gAt g (t + 3) (.inr (0, 120)) ∧ gAt g (t + 4) (.inr (0, 121)) ∧ gAt g (t + 5) (.inr (0, 62)) ∧ gAt g (t + 6) (.inr (0, 62))
def TelR (m : qM) (t : Nat) : Prop := qR m t 0 = some (t + 1) ∧ qR m t 1 = some (t + 2) ∧ qR m t 2 = some (t + 3) ∧ qR m t 3 = some (t + 4) ∧ qR m t 4 = some (t + 5) ∧ qR m t 5 = some (t + 6)
def TelS (g : qG) (m : qM) (t : Nat) : Prop := TelSh g t ∧ TelR m t
theorem TelS.to {g : qG} {m m' : qM} {t : Nat} (h : TelS g m t) (hm : m'.2 = m.2) : TelS g m' t := by
  unfold TelS TelR qR at h ⊢
  rw [hm]
  exact h
/-- a pass: its first day, its last day, its worth -/
abbrev kP : Type := Nat × Nat × Nat
def TelT (m : qM) (t : Nat) (T : Nat → kP) (n : Nat) : Prop := qI m t 6 = nI n ∧ n ≤ 120 ∧ ∀ i, i < n → qI m (t + 1) i = nI (T i).1 ∧ qI m (t + 2) i = nI (T i).2.1 ∧ qI m (t + 3) i = nI (T i).2.2
/-- where a pass with the last day d goes among the first k -/
def slotT (T : Nat → kP) (d : Nat) : Nat → Nat
  | 0 => 0
  | k + 1 => if d < (T k).2.1 then slotT T d k else k + 1
theorem slotT_le (T : Nat → kP) (d : Nat) : ∀ k, slotT T d k ≤ k
  | 0 => Nat.le_refl 0
  | k + 1 => by
    have := slotT_le T d k
    unfold slotT
    split <;> omega
def insT (T : Nat → kP) (n : Nat) (p : kP) : Nat → kP := fun i => if i < slotT T p.2.1 n then T i else if i = slotT T p.2.1 n then p else T (i - 1)
set_option maxRecDepth 20000 in
set_option maxHeartbeats 4000000 in
theorem s_X6_insert_l {E : qE} {X : qX} {Q : State → Prop} {g : qG} {m : qM} (hX : MC E yX6_insert cX6_insert 5 none 0 0 0 [] X) {t n : Nat} {T : Nat → kP} {p : kP} (hs : TelS g m t) (hn : n < 120) (hb : ∀ i, i < n → (T i).2.1 < 2 ^ 31) (hp : p.2.1 < 2 ^ 31) : ∀ (k : Nat) (m1 : qM), k ≤ n → slotT T p.2.1 k = slotT T p.2.1 n → ((∀ i, i < k → qI m1 (t + 1) i = nI (T i).1 ∧ qI m1 (t + 2) i = nI (T i).2.1 ∧ qI m1 (t + 3) i = nI (T i).2.2) ∧ (∀ i, k < i → i ≤ n → qI m1 (t + 1) i = nI (T (i - 1)).1 ∧ qI m1 (t + 2) i = nI (T (i - 1)).2.1 ∧ qI m1 (t + 3) i = nI (T (i - 1)).2.2) ∧ qI m1 t 6 = nI n ∧ m1.2 = m.2 ∧ Outs t 4 m m1) → (∀ (k : Nat) (m2 : qM), k ≤ n → slotT T p.2.1 n = k → ((∀ i, i < k → qI m2 (t + 1) i = nI (T i).1 ∧ qI m2 (t + 2) i = nI (T i).2.1 ∧ qI m2 (t + 3) i = nI (T i).2.2) ∧ (∀ i, k < i → i ≤ n → qI m2 (t + 1) i = nI (T (i - 1)).1 ∧ qI m2 (t + 2) i = nI (T (i - 1)).2.1 ∧ qI m2 (t + 3) i = nI (T (i - 1)).2.2) ∧ qI m2 t 6 = nI n ∧ m2.2 = m.2 ∧ Outs t 4 m m2) → WS E X 0 0 Q g m2 88 [some (.ref t), some (.int (nI p.1)), some (.int (nI p.2.1)), some (.int (nI p.2.2)), some (.int (nI k))] []) → WS E X 0 0 Q g m1 16 [some (.ref t), some (.int (nI p.1)), some (.int (nI p.2.1)), some (.int (nI p.2.2)), some (.int (nI k))] [] := by
  intro k
  induction k with
  | zero =>
    intro m1 hk hq hm1 K
    refine r_iload hX dX6_insert_16 rfl ?_
    refine r_if_le (tgt := 88) hX dX6_insert_18 (by decide) (fun c18 => ?_) (fun c18 => ?_)
    · exact K _ _ hk hq.symm hm1
    · exact absurd (show nI 0 ≤ 0 from Int32.le_refl _) c18
  | succ k ih =>
    intro m1 hk hq hm1 K
    have hf : slotT T p.2.1 (k + 1) = if p.2.1 < (T k).2.1 then slotT T p.2.1 k else k + 1 := rfl
    have hbk := hb k (by omega)
    have hk120 : k < 120 := by omega
    have hk121 : k + 1 < 120 := by omega
    refine r_iload hX dX6_insert_16 rfl ?_
    refine r_if_le (tgt := 88) hX dX6_insert_18 (by decide) (fun c18 => ?_) (fun c18 => ?_)
    · exact absurd c18 (show ¬ nI (k + 1) ≤ nI 0 from nI_ge (by omega) (by omega))
    · refine r_aload_n hX dX6_insert_21 rfl ?_
      refine r_getR hX dX6_insert_22 hs.1.1 fl_X6_15 (hs.to hm1.2.2.2.1).2.2.1 ?_
      refine r_iload hX dX6_insert_25 rfl ?_
      refine r_iconst (v := 1) hX dX6_insert_27 (by decide) ?_
      refine r_isub hX dX6_insert_28 ?_
      rw [show nI (k + 1) - 1 = nI ((k + 1) - 1) from pk_sub (b := 1) (by omega)]
      refine r_ialoadN hX dX6_insert_29 hs.1.2.2.1 (show k + 1 - 1 < 120 by omega) (by decide) ?_
      rw [show k + 1 - 1 = k from rfl, (hm1.1 k (by omega)).2.1]
      refine r_iload_n hX dX6_insert_30 rfl ?_
      refine r_icmp_le (tgt := 88) hX dX6_insert_31 (by decide) (fun c31 => ?_) (fun c31 => ?_)
      · exact K _ _ hk (hq.symm.trans (by rw [hf, if_neg (fun h => nI_ge h (by omega) c31)])) hm1
      · refine r_aload_n hX dX6_insert_34 rfl ?_
        refine r_getR hX dX6_insert_35 hs.1.1 fl_X6_11 (hs.to hm1.2.2.2.1).2.1 ?_
        refine r_iload hX dX6_insert_38 rfl ?_
        refine r_aload_n hX dX6_insert_40 rfl ?_
        refine r_getR hX dX6_insert_41 hs.1.1 fl_X6_11 (hs.to hm1.2.2.2.1).2.1 ?_
        refine r_iload hX dX6_insert_44 rfl ?_
        refine r_iconst (v := 1) hX dX6_insert_46 (by decide) ?_
        refine r_isub hX dX6_insert_47 ?_
        rw [show nI (k + 1) - 1 = nI ((k + 1) - 1) from pk_sub (b := 1) (by omega)]
        refine r_ialoadN hX dX6_insert_48 hs.1.2.1 (show k + 1 - 1 < 120 by omega) (by decide) ?_
        refine r_iastoreN hX dX6_insert_49 hs.1.2.1 hk121 (by decide) ?_
        refine r_aload_n hX dX6_insert_50 rfl ?_
        refine r_getR hX dX6_insert_51 hs.1.1 fl_X6_15 (hs.to hm1.2.2.2.1).2.2.1 ?_
        refine r_iload hX dX6_insert_54 rfl ?_
        refine r_aload_n hX dX6_insert_56 rfl ?_
        refine r_getR hX dX6_insert_57 hs.1.1 fl_X6_15 (hs.to hm1.2.2.2.1).2.2.1 ?_
        refine r_iload hX dX6_insert_60 rfl ?_
        refine r_iconst (v := 1) hX dX6_insert_62 (by decide) ?_
        refine r_isub hX dX6_insert_63 ?_
        rw [show nI (k + 1) - 1 = nI ((k + 1) - 1) from pk_sub (b := 1) (by omega)]
        refine r_ialoadN hX dX6_insert_64 hs.1.2.2.1 (show k + 1 - 1 < 120 by omega) (by decide) ?_
        refine r_iastoreN hX dX6_insert_65 hs.1.2.2.1 hk121 (by decide) ?_
        refine r_aload_n hX dX6_insert_66 rfl ?_
        refine r_getR hX dX6_insert_67 hs.1.1 fl_X6_18 (hs.to hm1.2.2.2.1).2.2.2.1 ?_
        refine r_iload hX dX6_insert_70 rfl ?_
        refine r_aload_n hX dX6_insert_72 rfl ?_
        refine r_getR hX dX6_insert_73 hs.1.1 fl_X6_18 (hs.to hm1.2.2.2.1).2.2.2.1 ?_
        refine r_iload hX dX6_insert_76 rfl ?_
        refine r_iconst (v := 1) hX dX6_insert_78 (by decide) ?_
        refine r_isub hX dX6_insert_79 ?_
        rw [show nI (k + 1) - 1 = nI ((k + 1) - 1) from pk_sub (b := 1) (by omega)]
        refine r_ialoadN hX dX6_insert_80 hs.1.2.2.2.1 (show k + 1 - 1 < 120 by omega) (by decide) ?_
        refine r_iastoreN hX dX6_insert_81 hs.1.2.2.2.1 hk121 (by decide) ?_
        refine r_iinc (v := nI k) hX dX6_insert_82 rfl (iim1 k) rfl ?_
        refine r_goto (tgt := 16) hX dX6_insert_85 (by decide) ?_
        refine ih _ (by omega) (hq.symm.trans (by rw [hf, if_pos (Nat.lt_of_not_le (fun h => absurd (nI_le h (by omega)) c31))])).symm ⟨fun i hi => ?_, fun i hi1 hi2 => ?_, ?_, hm1.2.2.2.1, ((hm1.2.2.2.2.wI (by omega)).wI (by omega)).wI (by omega)⟩ K
        · have := hm1.1 i (by omega)
          simp only [qI_wI]
          grind
        · by_cases e : i = k + 1
          · subst e
            have := hm1.1 k (by omega)
            simp only [qI_wI]
            rw [show k + 1 - 1 = k by omega]
            grind
          · have := hm1.2.1 i (by omega) hi2
            simp only [qI_wI]
            grind
        · have := hm1.2.2.1
          simp only [qI_wI]
          grind
set_option maxRecDepth 20000 in
set_option maxHeartbeats 4000000 in
theorem s_X6_insert (E : qE) (g : qG) (m : qM) (t n : Nat) (T : Nat → kP) (p : kP) (hT : TelT m t T n) (hs : TelS g m t) (hn : n < 120) (hb : ∀ i, i < n → (T i).2.1 < 2 ^ 31) (hp : p.2.1 < 2 ^ 31) : Sp E yX6_insert cX6_insert 5 none 0 0 0 [.ref t, .int (nI p.1), .int (nI p.2.1), .int (nI p.2.2)] g m (fun v g' m' => v = none ∧ g' = g ∧ TelT m' t (insT T n p) (n + 1) ∧ m'.2 = m.2 ∧ Outs t 4 m m') := by
  refine Sp.of (by decide) [some (.ref t), some (.int (nI p.1)), some (.int (nI p.2.1)), some (.int (nI p.2.2)), none] rfl rfl (Nat.le_of_ble_eq_true rfl) (fun X hX => ?_)
  refine r_aload_n hX dX6_insert_0 rfl ?_
  refine r_getI hX dX6_insert_1 hs.1.1 fl_X6_30 ?_
  rw [hT.1]
  refine r_bipush (v := 120) hX dX6_insert_4 (by decide) ?_
  refine r_icmp_lt (tgt := 10) hX dX6_insert_6 (by decide) (fun c6 => ?_) (fun c6 => ?_)
  · refine r_aload_n hX dX6_insert_10 rfl ?_
    refine r_getI hX dX6_insert_11 hs.1.1 fl_X6_30 ?_
    rw [hT.1]
    refine r_istore hX dX6_insert_14 (Nat.le_of_ble_eq_true rfl) rfl ?_
    refine s_X6_insert_l hX hs hn hb hp n m (Nat.le_refl n) rfl ⟨hT.2.2, fun i h1 h2 => absurd h2 (by omega), hT.1, rfl, Outs.rf t 4 m⟩ (fun k m1 hk hq hm1 => ?_)
    have hk120 : k < 120 := by omega
    refine r_aload_n hX dX6_insert_88 rfl ?_
    refine r_getR hX dX6_insert_89 hs.1.1 fl_X6_11 (hs.to hm1.2.2.2.1).2.1 ?_
    refine r_iload hX dX6_insert_92 rfl ?_
    refine r_iload_n hX dX6_insert_94 rfl ?_
    refine r_iastoreN hX dX6_insert_95 hs.1.2.1 hk120 (by decide) ?_
    refine r_aload_n hX dX6_insert_96 rfl ?_
    refine r_getR hX dX6_insert_97 hs.1.1 fl_X6_15 (hs.to hm1.2.2.2.1).2.2.1 ?_
    refine r_iload hX dX6_insert_100 rfl ?_
    refine r_iload_n hX dX6_insert_102 rfl ?_
    refine r_iastoreN hX dX6_insert_103 hs.1.2.2.1 hk120 (by decide) ?_
    refine r_aload_n hX dX6_insert_104 rfl ?_
    refine r_getR hX dX6_insert_105 hs.1.1 fl_X6_18 (hs.to hm1.2.2.2.1).2.2.2.1 ?_
    refine r_iload hX dX6_insert_108 rfl ?_
    refine r_iload_n hX dX6_insert_110 rfl ?_
    refine r_iastoreN hX dX6_insert_111 hs.1.2.2.2.1 hk120 (by decide) ?_
    refine r_aload_n hX dX6_insert_112 rfl ?_
    refine r_dup hX dX6_insert_113 rfl ?_
    refine r_getI hX dX6_insert_114 hs.1.1 fl_X6_30 ?_
    refine r_iconst (v := 1) hX dX6_insert_117 (by decide) ?_
    refine r_iadd hX dX6_insert_118 ?_
    refine r_putI hX dX6_insert_119 hs.1.1 fl_X6_30 ?_
    refine r_vret hX dX6_insert_122 ⟨rfl, rfl, ⟨?_, by omega, fun i hi => ?_⟩, hm1.2.2.2.1, (((hm1.2.2.2.2.wI (by omega)).wI (by omega)).wI (by omega)).wI (by omega)⟩ ⟨Nat.le_of_ble_eq_true rfl, Nat.le_of_ble_eq_true rfl⟩
    · have := hm1.2.2.1
      have := nI_1 n
      simp only [qI_wI]
      grind
    · unfold insT
      rw [hq]
      by_cases e1 : i < k
      · have := hm1.1 i e1
        simp only [qI_wI]
        grind
      · by_cases e2 : i = k
        · subst e2
          simp only [qI_wI]
          grind
        · have := hm1.2.1 i (by omega) (by omega)
          simp only [qI_wI]
          grind
  · exact absurd (nI_lt (b := 120) hn (by decide)) c6
def endB (T : Nat → kP) (d : Nat) : Nat → Nat
  | 0 => 0
  | k + 1 => if d ≤ (T k).2.1 then endB T d k else k + 1
theorem endB_le (T : Nat → kP) (d : Nat) : ∀ k, endB T d k ≤ k
  | 0 => Nat.le_refl 0
  | k + 1 => by
    have := endB_le T d k
    unfold endB
    split <;> omega
set_option maxRecDepth 20000 in
set_option maxHeartbeats 4000000 in
theorem s_X6_endedBefore_l {E : qE} {X : qX} {Q : State → Prop} {g : qG} {m : qM} (hX : MC E yX6_endedBefore cX6_endedBefore 4 (some .int) 0 0 0 [] X) {t n d k0 : Nat} {T : Nat → kP} (hs : TelS g m t) (hT : ∀ i, i < n → qI m (t + 2) i = nI (T i).2.1) (hn : n ≤ 120) (hb : ∀ i, i < n → (T i).2.1 < 2 ^ 31) (hd : d < 2 ^ 31) : ∀ (k : Nat), k ≤ n → (WS E X 0 0 Q g m 24 [some (.ref t), some (.int (nI d)), some (.int (nI k0)), some (.int (nI (endB T d k)))] []) → WS E X 0 0 Q g m 2 [some (.ref t), some (.int (nI d)), some (.int (nI k0)), some (.int (nI k))] [] := by
  intro k
  induction k with
  | zero =>
    intro hk K
    refine r_iload_n hX dX6_endedBefore_2 rfl ?_
    refine r_if_le (tgt := 24) hX dX6_endedBefore_3 (by decide) (fun c3 => ?_) (fun c3 => ?_)
    · exact K
    · exact absurd (show nI 0 ≤ 0 from Int32.le_refl _) c3
  | succ k ih =>
    intro hk K
    have hf : endB T d (k + 1) = if d ≤ (T k).2.1 then endB T d k else k + 1 := rfl
    have hbk := hb k (by omega)
    refine r_iload_n hX dX6_endedBefore_2 rfl ?_
    refine r_if_le (tgt := 24) hX dX6_endedBefore_3 (by decide) (fun c3 => ?_) (fun c3 => ?_)
    · exact absurd c3 (show ¬ nI (k + 1) ≤ nI 0 from nI_ge (by omega) (by omega))
    · refine r_aload_n hX dX6_endedBefore_6 rfl ?_
      refine r_getR hX dX6_endedBefore_7 hs.1.1 fl_X6_15 hs.2.2.1 ?_
      refine r_iload_n hX dX6_endedBefore_10 rfl ?_
      refine r_iconst (v := 1) hX dX6_endedBefore_11 (by decide) ?_
      refine r_isub hX dX6_endedBefore_12 ?_
      rw [show nI (k + 1) - 1 = nI ((k + 1) - 1) from pk_sub (b := 1) (by omega)]
      refine r_ialoadN hX dX6_endedBefore_13 hs.1.2.2.1 (show k + 1 - 1 < 120 by omega) (by decide) ?_
      rw [show k + 1 - 1 = k from rfl, hT k (by omega)]
      refine r_iload_n hX dX6_endedBefore_14 rfl ?_
      refine r_icmp_lt (tgt := 24) hX dX6_endedBefore_15 (by decide) (fun c15 => ?_) (fun c15 => ?_)
      · rw [hf, if_neg (fun h => absurd c15 (fun c => nI_le h (by omega) |> fun h2 => Int32.not_lt.mpr h2 c))] at K
        exact K
      · refine r_iinc (v := nI k) hX dX6_endedBefore_18 rfl (iim1 k) rfl ?_
        refine r_goto (tgt := 2) hX dX6_endedBefore_21 (by decide) ?_
        rw [hf, if_pos (Nat.le_of_not_lt (fun h => c15 (nI_lt h (by omega))))] at K
        exact ih (by omega) K
set_option maxRecDepth 20000 in
set_option maxHeartbeats 4000000 in
theorem s_X6_endedBefore (E : qE) (g : qG) (m : qM) (t n d k : Nat) (T : Nat → kP) (hs : TelS g m t) (hT : ∀ i, i < n → qI m (t + 2) i = nI (T i).2.1) (hn : n ≤ 120) (hb : ∀ i, i < n → (T i).2.1 < 2 ^ 31) (hd : d < 2 ^ 31) (hk : k ≤ n) : Sp E yX6_endedBefore cX6_endedBefore 4 (some .int) 0 0 0 [.ref t, .int (nI d), .int (nI k)] g m (fun v g' m' => v = some (.int (nI (endB T d k))) ∧ g' = g ∧ m' = m) := by
  refine Sp.of (by decide) [some (.ref t), some (.int (nI d)), some (.int (nI k)), none] rfl rfl (Nat.le_of_ble_eq_true rfl) (fun X hX => ?_)
  refine r_iload_n hX dX6_endedBefore_0 rfl ?_
  refine r_istore_n hX dX6_endedBefore_1 (Nat.le_of_ble_eq_true rfl) rfl ?_
  refine s_X6_endedBefore_l hX hs hT hn hb hd k hk ?_
  refine r_iload_n hX dX6_endedBefore_24 rfl ?_
  exact r_iret hX dX6_endedBefore_25 ⟨rfl, rfl, rfl⟩ ⟨Nat.le_of_ble_eq_true rfl, Nat.le_of_ble_eq_true rfl⟩
/-- the greatest worth by passes, step by step -/
def wbp (T : Nat → kP) : Nat → Nat → Nat
  | 0 => fun _ => 0
  | i + 1 => fun j => if j = i + 1 then max (wbp T i i) ((T i).2.2 + wbp T i (endB T (T i).1 i)) else wbp T i j
theorem wbp_le {T : Nat → kP} {n : Nat} (h : ∀ i, i < n → (T i).2.2 ≤ 20) : ∀ i, i ≤ n → ∀ j, wbp T i j ≤ 20 * i
  | 0, _, _ => Nat.le_refl 0
  | i + 1, hi, j => by
    have a := wbp_le h i (by omega)
    have := a j
    have := a i
    have := a (endB T (T i).1 i)
    have := h i (by omega)
    unfold wbp
    split <;> omega
theorem mxN {a b : Nat} (ha : a < 2 ^ 31) (hb : b < 2 ^ 31) : (if nI a < nI b then nI b else nI a) = nI (max a b) := by
  by_cases h : a < b
  · rw [if_pos (nI_lt h hb), Nat.max_eq_right (by omega)]
  · rw [if_neg (fun c => Int32.not_lt.mpr (nI_le (Nat.le_of_not_lt h) ha) c), Nat.max_eq_left (by omega)]
set_option maxRecDepth 20000 in
set_option maxHeartbeats 4000000 in
theorem s_X6_wbp_l {E : qE} {X : qX} {Q : State → Prop} {g : qG} {m : qM} (hX : MC E yX6_worthByPasses cX6_worthByPasses 3 (some .int) 1 0 0 [] X) {t n : Nat} {T : Nat → kP} (hs : TelS g m t) (hT : TelT m t T n) (hb : ∀ i, i < n → (T i).1 < 2 ^ 31 ∧ (T i).2.1 < 2 ^ 31 ∧ (T i).2.2 ≤ 20) : ∀ (k i : Nat) (m1 : qM) (z : Option Value), i + k = n → ((∀ j, j ≤ i → qI m1 (t + 4) j = nI (wbp T i j)) ∧ (∀ a j, a ≠ t + 4 → qI m1 a j = qI m a j) ∧ m1.2 = m.2) → (∀ (j : Int32) (z : Option Value) (m2 : qM), ((∀ j, j ≤ n → qI m2 (t + 4) j = nI (wbp T n j)) ∧ (∀ a j, a ≠ t + 4 → qI m2 a j = qI m a j) ∧ m2.2 = m.2) → WS E X 0 0 Q g m2 65 [some (.ref t), some (.int j), z] []) → WS E X 0 0 Q g m1 9 [some (.ref t), some (.int (nI i)), z] [] := by
  intro k
  have hn := hT.2.1
  induction k with
  | zero =>
    intro i m1 z hi hm1 K
    have hib : i = n := by omega
    subst hib
    refine r_iload_n hX dX6_worthByPasses_9 rfl ?_
    refine r_aload_n hX dX6_worthByPasses_10 rfl ?_
    refine r_getI hX dX6_worthByPasses_11 hs.1.1 fl_X6_30 ?_
    rw [hm1.2.1 _ _ (by omega), hT.1]
    refine r_icmp_ge (tgt := 65) hX dX6_worthByPasses_14 (by decide) (fun c14 => ?_) (fun c14 => ?_)
    · exact K _ _ _ hm1
    · exact absurd (nI_le (Nat.le_refl _) (by omega)) c14
  | succ k ih =>
    intro i m1 z hi hm1 K
    have hi1 : i < n := by omega
    have hi120 : i < 120 := by omega
    have hi121 : i < 121 := by omega
    have hi122 : i + 1 < 121 := by omega
    have hbi := hb i hi1
    have hTi := hT.2.2 i hi1
    have hle := endB_le T (T i).1 i
    have hle2 : endB T (T i).1 i < 121 := by omega
    have hW := wbp_le (fun i hi => (hb i hi).2.2) i (by omega)
    have hW1 := hW i
    have hW2 := hW (endB T (T i).1 i)
    refine r_iload_n hX dX6_worthByPasses_9 rfl ?_
    refine r_aload_n hX dX6_worthByPasses_10 rfl ?_
    refine r_getI hX dX6_worthByPasses_11 hs.1.1 fl_X6_30 ?_
    rw [hm1.2.1 _ _ (by omega), hT.1]
    refine r_icmp_ge (tgt := 65) hX dX6_worthByPasses_14 (by decide) (fun c14 => ?_) (fun c14 => ?_)
    · exact absurd c14 (nI_ge (by omega) (by omega))
    · refine r_aload_n hX dX6_worthByPasses_17 rfl ?_
      refine r_getR hX dX6_worthByPasses_18 hs.1.1 fl_X6_18 (hs.to hm1.2.2).2.2.2.1 ?_
      refine r_iload_n hX dX6_worthByPasses_21 rfl ?_
      refine r_ialoadN hX dX6_worthByPasses_22 hs.1.2.2.2.1 hi120 (by decide) ?_
      rw [hm1.2.1 _ _ (by omega), hTi.2.2]
      refine r_aload_n hX dX6_worthByPasses_23 rfl ?_
      refine r_getR hX dX6_worthByPasses_24 hs.1.1 fl_X6_21 (hs.to hm1.2.2).2.2.2.2.1 ?_
      refine r_aload_n hX dX6_worthByPasses_27 rfl ?_
      refine r_aload_n hX dX6_worthByPasses_28 rfl ?_
      refine r_getR hX dX6_worthByPasses_29 hs.1.1 fl_X6_11 (hs.to hm1.2.2).2.1 ?_
      refine r_iload_n hX dX6_worthByPasses_32 rfl ?_
      refine r_ialoadN hX dX6_worthByPasses_33 hs.1.2.1 hi120 (by decide) ?_
      rw [hm1.2.1 _ _ (by omega), hTi.1]
      refine r_iload_n hX dX6_worthByPasses_34 rfl ?_
      refine r_callV hX dX6_worthByPasses_35 (s_X6_endedBefore E g m1 t n (T i).1 i T (hs.to hm1.2.2) (fun i hi => (hm1.2.1 _ _ (by omega)).trans (hT.2.2 i hi).2.1) hn (fun i hi => (hb i hi).2.1) hbi.1 (by omega)) ml_X6_63 rfl rfl hs.1.1 rfl ⟨Nat.le_of_ble_eq_true rfl, Nat.le_of_ble_eq_true rfl⟩ ⟨Nat.le_of_ble_eq_true rfl, Nat.le_of_ble_eq_true rfl, rfl, Nat.le_of_ble_eq_true rfl⟩ (fun v35 g35 m35 hp => ?_)
      obtain ⟨hv, hg, hm⟩ := hp
      subst v35
      subst g35
      subst m35
      refine r_ialoadN hX dX6_worthByPasses_38 hs.1.2.2.2.2.1 hle2 (by decide) ?_
      rw [hm1.1 _ (by omega)]
      refine r_iadd hX dX6_worthByPasses_39 ?_
      rw [show nI (T i).2.2 + nI (wbp T i (endB T (T i).1 i)) = nI ((T i).2.2 + wbp T i (endB T (T i).1 i)) from nI_add _ _]
      refine r_istore_n hX dX6_worthByPasses_40 (Nat.le_of_ble_eq_true rfl) rfl ?_
      refine r_aload_n hX dX6_worthByPasses_41 rfl ?_
      refine r_getR hX dX6_worthByPasses_42 hs.1.1 fl_X6_21 (hs.to hm1.2.2).2.2.2.2.1 ?_
      refine r_iload_n hX dX6_worthByPasses_45 rfl ?_
      refine r_iconst (v := 1) hX dX6_worthByPasses_46 (by decide) ?_
      refine r_iadd hX dX6_worthByPasses_47 ?_
      rw [nI_1]
      refine r_aload_n hX dX6_worthByPasses_48 rfl ?_
      refine r_getR hX dX6_worthByPasses_49 hs.1.1 fl_X6_21 (hs.to hm1.2.2).2.2.2.2.1 ?_
      refine r_iload_n hX dX6_worthByPasses_52 rfl ?_
      refine r_ialoadN hX dX6_worthByPasses_53 hs.1.2.2.2.2.1 hi121 (by decide) ?_
      rw [hm1.1 _ (by omega)]
      refine r_iload_n hX dX6_worthByPasses_54 rfl ?_
      refine r_mmax hX dX6_worthByPasses_55 mm_X6_67 ⟨Nat.le_of_ble_eq_true rfl, rfl, Nat.le_of_ble_eq_true rfl⟩ ⟨Nat.le_of_ble_eq_true rfl, Nat.le_of_ble_eq_true rfl⟩ ?_
      rw [mxN (by omega) (by omega)]
      refine r_iastoreN hX dX6_worthByPasses_58 hs.1.2.2.2.2.1 hi122 (by decide) ?_
      refine r_iinc (v := nI (i + 1)) hX dX6_worthByPasses_59 rfl (ii1 i) rfl ?_
      refine r_goto (tgt := 9) hX dX6_worthByPasses_62 (by decide) ?_
      refine ih (i + 1) _ _ (by omega) ⟨fun j hj => ?_, fun a j ha => ?_, hm1.2.2⟩ K
      · rw [qI_wI]
        show _ = nI (if j = i + 1 then _ else _)
        by_cases e : j = i + 1
        · subst e; rw [if_pos ⟨rfl, rfl⟩, if_pos rfl]
        · rw [if_neg (fun h => e h.2), if_neg e]; exact hm1.1 j (by omega)
      · rw [qI_wI_a _ _ _ _ ha]; exact hm1.2.1 a j ha
set_option maxRecDepth 20000 in
set_option maxHeartbeats 4000000 in
theorem s_X6_wbp (E : qE) (g : qG) (m : qM) (t n : Nat) (T : Nat → kP) (hs : TelS g m t) (hT : TelT m t T n) (hb : ∀ i, i < n → (T i).1 < 2 ^ 31 ∧ (T i).2.1 < 2 ^ 31 ∧ (T i).2.2 ≤ 20) : Sp E yX6_worthByPasses cX6_worthByPasses 3 (some .int) 1 0 0 [.ref t] g m (fun v g' m' => v = some (.int (nI (wbp T n n))) ∧ g' = g ∧ (∀ a j, a ≠ t + 4 → qI m' a j = qI m a j) ∧ m'.2 = m.2) := by
  have hn := hT.2.1
  have hn121 : n < 121 := by omega
  refine Sp.of (by decide) [some (.ref t), none, none] rfl rfl (Nat.le_of_ble_eq_true rfl) (fun X hX => ?_)
  refine r_aload_n hX dX6_worthByPasses_0 rfl ?_
  refine r_getR hX dX6_worthByPasses_1 hs.1.1 fl_X6_21 hs.2.2.2.2.1 ?_
  refine r_iconst (v := 0) hX dX6_worthByPasses_4 (by decide) ?_
  refine r_iconst (v := 0) hX dX6_worthByPasses_5 (by decide) ?_
  refine r_iastore hX dX6_worthByPasses_6 hs.1.2.2.2.2.1 (show vp_in 0 121 from vp_in_nI (n := 0) (N := 121) (by decide) (by decide)) ?_
  refine r_iconst (v := 0) hX dX6_worthByPasses_7 (by decide) ?_
  refine r_istore_n hX dX6_worthByPasses_8 (Nat.le_of_ble_eq_true rfl) rfl ?_
  refine s_X6_wbp_l hX hs hT hb n 0 _ _ (Nat.zero_add n) ⟨fun j hj => ?_, fun a j ha => qI_wI_a _ _ _ _ ha, rfl⟩ (fun j z m1 hm1 => ?_)
  · rw [show j = 0 by omega]
    exact qI_wI_s _ _ _ _
  refine r_aload_n hX dX6_worthByPasses_65 rfl ?_
  refine r_getR hX dX6_worthByPasses_66 hs.1.1 fl_X6_21 (hs.to hm1.2.2).2.2.2.2.1 ?_
  refine r_aload_n hX dX6_worthByPasses_69 rfl ?_
  refine r_getI hX dX6_worthByPasses_70 hs.1.1 fl_X6_30 ?_
  rw [hm1.2.1 _ _ (by omega), hT.1]
  refine r_ialoadN hX dX6_worthByPasses_73 hs.1.2.2.2.2.1 hn121 (by decide) ?_
  rw [hm1.1 n (Nat.le_refl n)]
  exact r_iret hX dX6_worthByPasses_74 ⟨rfl, rfl, hm1.2⟩ ⟨Nat.le_of_ble_eq_true rfl, Nat.le_of_ble_eq_true rfl⟩
/-- a plan is offered: the greater worth, then the fewer passes -/
def offr (c : Nat × Nat) (w p : Nat) : Nat × Nat := if c.1 < w ∨ (w = c.1 ∧ p < c.2) then (w, p) else c
theorem offr_le {c : Nat × Nat} {w p a b : Nat} (h1 : c.1 ≤ a ∧ c.2 ≤ b) (h2 : w ≤ a ∧ p ≤ b) : (offr c w p).1 ≤ a ∧ (offr c w p).2 ≤ b := by
  unfold offr
  split
  · exact h2
  · exact h1
/-- the best plan from day d on, after the first passes have been offered -/
def offs (T : Nat → kP) (d : Nat) (WP : Nat → Nat × Nat) : Nat → Nat × Nat
  | 0 => WP (d + 1)
  | i + 1 => if (T i).1 = d then offr (offs T d WP i) ((T i).2.2 + (WP ((T i).2.1 + 1)).1) (1 + (WP ((T i).2.1 + 1)).2) else offs T d WP i
/-- the plans after k days from the last one back -/
def plD (T : Nat → kP) (n D : Nat) : Nat → Nat → Nat × Nat
  | 0 => fun _ => (0, 0)
  | k + 1 => fun j => if j = D - k then offs T (D - k) (plD T n D k) n else plD T n D k j
theorem offs_le {T : Nat → kP} {d a b : Nat} {WP : Nat → Nat × Nat} (h : ∀ j, (WP j).1 ≤ a ∧ (WP j).2 ≤ b) {n : Nat} (hw : ∀ i, i < n → (T i).2.2 ≤ 20) : ∀ i, i ≤ n → (offs T d WP i).1 ≤ 20 + a ∧ (offs T d WP i).2 ≤ 1 + b
  | 0, _ => by
    have := h (d + 1)
    show (WP (d + 1)).1 ≤ _ ∧ (WP (d + 1)).2 ≤ _
    omega
  | i + 1, hi => by
    have h1 := offs_le (d := d) h hw i (by omega)
    have h2 := h ((T i).2.1 + 1)
    have h3 := hw i (by omega)
    unfold offs
    split
    · exact offr_le h1 (by omega)
    · exact h1
theorem plD_le {T : Nat → kP} {n D : Nat} (hw : ∀ i, i < n → (T i).2.2 ≤ 20) : ∀ k j, (plD T n D k j).1 ≤ 20 * k ∧ (plD T n D k j).2 ≤ k
  | 0, j => ⟨Nat.le_refl 0, Nat.le_refl 0⟩
  | k + 1, j => by
    have h1 := plD_le (D := D) hw k
    have h2 := offs_le (d := D - k) h1 hw n (Nat.le_refl n)
    have := h1 j
    unfold plD
    split <;> omega
set_option maxRecDepth 20000 in
set_option maxHeartbeats 4000000 in
theorem s_X6_offer (E : qE) (g : qG) (m : qM) (t d w p : Nat) (c : Nat × Nat) (hs : TelS g m t) (hd : d < 62) (h5 : qI m (t + 5) d = nI c.1) (h6 : qI m (t + 6) d = nI c.2) (hc : c.1 < 2 ^ 31 ∧ c.2 < 2 ^ 31) (hw : w < 2 ^ 31 ∧ p < 2 ^ 31) : Sp E yX6_offer cX6_offer 4 none 0 0 0 [.ref t, .int (nI d), .int (nI w), .int (nI p)] g m (fun v g' m' => v = none ∧ g' = g ∧ (∀ a j, qI m' a j = if a = t + 5 ∧ j = d then nI (offr c w p).1 else if a = t + 6 ∧ j = d then nI (offr c w p).2 else qI m a j) ∧ m'.2 = m.2) := by
  refine Sp.of (by decide) [some (.ref t), some (.int (nI d)), some (.int (nI w)), some (.int (nI p))] rfl rfl (Nat.le_of_ble_eq_true rfl) (fun X hX => ?_)
  refine r_iload_n hX dX6_offer_0 rfl ?_
  refine r_aload_n hX dX6_offer_1 rfl ?_
  refine r_getR hX dX6_offer_2 hs.1.1 fl_X6_24 hs.2.2.2.2.2.1 ?_
  refine r_iload_n hX dX6_offer_5 rfl ?_
  refine r_ialoadN hX dX6_offer_6 hs.1.2.2.2.2.2.1 hd (by decide) ?_
  rw [h5]
  refine r_icmp_gt (tgt := 30) hX dX6_offer_7 (by decide) (fun c7 => ?_) (fun c7 => ?_)
  · refine r_aload_n hX dX6_offer_30 rfl ?_
    refine r_getR hX dX6_offer_31 hs.1.1 fl_X6_24 hs.2.2.2.2.2.1 ?_
    refine r_iload_n hX dX6_offer_34 rfl ?_
    refine r_iload_n hX dX6_offer_35 rfl ?_
    refine r_iastoreN hX dX6_offer_36 hs.1.2.2.2.2.2.1 hd (by decide) ?_
    refine r_aload_n hX dX6_offer_37 rfl ?_
    refine r_getR hX dX6_offer_38 hs.1.1 fl_X6_27 hs.2.2.2.2.2.2 ?_
    refine r_iload_n hX dX6_offer_41 rfl ?_
    refine r_iload_n hX dX6_offer_42 rfl ?_
    refine r_iastoreN hX dX6_offer_43 hs.1.2.2.2.2.2.2 hd (by decide) ?_
    first
    | have hoff : offr c w p = (w, p) := if_pos (by
        first
        | exact Or.inl (Nat.lt_of_not_le (fun h => absurd c7 (Int32.not_lt.mpr (nI_le h (by omega)))))
        | exact Or.inr ⟨(nI_eq hw.1 hc.1).mp c17, Nat.lt_of_not_le (fun h => c27 (nI_le h (by omega)))⟩)
      exact r_vret hX dX6_offer_44 ⟨rfl, rfl, fun a j => by rw [hoff]; simp only [qI_wI]; grind, rfl⟩ ⟨Nat.le_of_ble_eq_true rfl, Nat.le_of_ble_eq_true rfl⟩
    | have hoff : offr c w p = c := if_neg (by
        intro h
        rcases h with h | ⟨h, h'⟩
        · exact c7 (nI_lt h hw.1)
        · first
          | exact c17 (by rw [h])
          | exact nI_ge h' (by omega) c27)
      exact r_vret hX dX6_offer_44 ⟨rfl, rfl, fun a j => by rw [hoff]; grind, rfl⟩ ⟨Nat.le_of_ble_eq_true rfl, Nat.le_of_ble_eq_true rfl⟩
  · refine r_iload_n hX dX6_offer_10 rfl ?_
    refine r_aload_n hX dX6_offer_11 rfl ?_
    refine r_getR hX dX6_offer_12 hs.1.1 fl_X6_24 hs.2.2.2.2.2.1 ?_
    refine r_iload_n hX dX6_offer_15 rfl ?_
    refine r_ialoadN hX dX6_offer_16 hs.1.2.2.2.2.2.1 hd (by decide) ?_
    rw [h5]
    refine r_icmp_ne (tgt := 44) hX dX6_offer_17 (by decide) (fun c17 => ?_) (fun c17 => ?_)
    · first
      | have hoff : offr c w p = (w, p) := if_pos (by
          first
          | exact Or.inl (Nat.lt_of_not_le (fun h => absurd c7 (Int32.not_lt.mpr (nI_le h (by omega)))))
          | exact Or.inr ⟨(nI_eq hw.1 hc.1).mp c17, Nat.lt_of_not_le (fun h => c27 (nI_le h (by omega)))⟩)
        exact r_vret hX dX6_offer_44 ⟨rfl, rfl, fun a j => by rw [hoff]; simp only [qI_wI]; grind, rfl⟩ ⟨Nat.le_of_ble_eq_true rfl, Nat.le_of_ble_eq_true rfl⟩
      | have hoff : offr c w p = c := if_neg (by
          intro h
          rcases h with h | ⟨h, h'⟩
          · exact c7 (nI_lt h hw.1)
          · first
            | exact c17 (by rw [h])
            | exact nI_ge h' (by omega) c27)
        exact r_vret hX dX6_offer_44 ⟨rfl, rfl, fun a j => by rw [hoff]; grind, rfl⟩ ⟨Nat.le_of_ble_eq_true rfl, Nat.le_of_ble_eq_true rfl⟩
    · refine r_iload_n hX dX6_offer_20 rfl ?_
      refine r_aload_n hX dX6_offer_21 rfl ?_
      refine r_getR hX dX6_offer_22 hs.1.1 fl_X6_27 hs.2.2.2.2.2.2 ?_
      refine r_iload_n hX dX6_offer_25 rfl ?_
      refine r_ialoadN hX dX6_offer_26 hs.1.2.2.2.2.2.2 hd (by decide) ?_
      rw [h6]
      refine r_icmp_ge (tgt := 44) hX dX6_offer_27 (by decide) (fun c27 => ?_) (fun c27 => ?_)
      · first
        | have hoff : offr c w p = (w, p) := if_pos (by
            first
            | exact Or.inl (Nat.lt_of_not_le (fun h => absurd c7 (Int32.not_lt.mpr (nI_le h (by omega)))))
            | exact Or.inr ⟨(nI_eq hw.1 hc.1).mp c17, Nat.lt_of_not_le (fun h => c27 (nI_le h (by omega)))⟩)
          exact r_vret hX dX6_offer_44 ⟨rfl, rfl, fun a j => by rw [hoff]; simp only [qI_wI]; grind, rfl⟩ ⟨Nat.le_of_ble_eq_true rfl, Nat.le_of_ble_eq_true rfl⟩
        | have hoff : offr c w p = c := if_neg (by
            intro h
            rcases h with h | ⟨h, h'⟩
            · exact c7 (nI_lt h hw.1)
            · first
              | exact c17 (by rw [h])
              | exact nI_ge h' (by omega) c27)
          exact r_vret hX dX6_offer_44 ⟨rfl, rfl, fun a j => by rw [hoff]; grind, rfl⟩ ⟨Nat.le_of_ble_eq_true rfl, Nat.le_of_ble_eq_true rfl⟩
      · refine r_aload_n hX dX6_offer_30 rfl ?_
        refine r_getR hX dX6_offer_31 hs.1.1 fl_X6_24 hs.2.2.2.2.2.1 ?_
        refine r_iload_n hX dX6_offer_34 rfl ?_
        refine r_iload_n hX dX6_offer_35 rfl ?_
        refine r_iastoreN hX dX6_offer_36 hs.1.2.2.2.2.2.1 hd (by decide) ?_
        refine r_aload_n hX dX6_offer_37 rfl ?_
        refine r_getR hX dX6_offer_38 hs.1.1 fl_X6_27 hs.2.2.2.2.2.2 ?_
        refine r_iload_n hX dX6_offer_41 rfl ?_
        refine r_iload_n hX dX6_offer_42 rfl ?_
        refine r_iastoreN hX dX6_offer_43 hs.1.2.2.2.2.2.2 hd (by decide) ?_
        first
        | have hoff : offr c w p = (w, p) := if_pos (by
            first
            | exact Or.inl (Nat.lt_of_not_le (fun h => absurd c7 (Int32.not_lt.mpr (nI_le h (by omega)))))
            | exact Or.inr ⟨(nI_eq hw.1 hc.1).mp c17, Nat.lt_of_not_le (fun h => c27 (nI_le h (by omega)))⟩)
          exact r_vret hX dX6_offer_44 ⟨rfl, rfl, fun a j => by rw [hoff]; simp only [qI_wI]; grind, rfl⟩ ⟨Nat.le_of_ble_eq_true rfl, Nat.le_of_ble_eq_true rfl⟩
        | have hoff : offr c w p = c := if_neg (by
            intro h
            rcases h with h | ⟨h, h'⟩
            · exact c7 (nI_lt h hw.1)
            · first
              | exact c17 (by rw [h])
              | exact nI_ge h' (by omega) c27)
          exact r_vret hX dX6_offer_44 ⟨rfl, rfl, fun a j => by rw [hoff]; grind, rfl⟩ ⟨Nat.le_of_ble_eq_true rfl, Nat.le_of_ble_eq_true rfl⟩
set_option maxRecDepth 20000 in
set_option maxHeartbeats 4000000 in
theorem s_X6_plan_i {E : qE} {X : qX} {Q : State → Prop} {g : qG} {m : qM} (hX : MC E yX6_planByDays cX6_planByDays 4 none 1 0 0 [] X) {t n D d : Nat} {T : Nat → kP} {WP : Nat → Nat × Nat} (hs : TelS g m t) (hT : TelT m t T n) (hb : ∀ i, i < n → 1 ≤ (T i).1 ∧ (T i).1 ≤ (T i).2.1 ∧ (T i).2.1 ≤ D ∧ (T i).2.2 ≤ 20) (hD : D ≤ 60) (hd : 1 ≤ d ∧ d ≤ D) (hWP : ∀ j, (WP j).1 ≤ 1200 ∧ (WP j).2 ≤ 60) : ∀ (k i : Nat) (m1 : qM), i + k = n → ((∀ j, d + 1 ≤ j → j ≤ D + 1 → qI m1 (t + 5) j = nI (WP j).1 ∧ qI m1 (t + 6) j = nI (WP j).2) ∧ (qI m1 (t + 5) d = nI (offs T d WP i).1 ∧ qI m1 (t + 6) d = nI (offs T d WP i).2) ∧ (∀ a j, a ≠ t + 5 → a ≠ t + 6 → qI m1 a j = qI m a j) ∧ m1.2 = m.2) → (∀ (j : Int32) (m2 : qM), ((∀ j, d + 1 ≤ j → j ≤ D + 1 → qI m2 (t + 5) j = nI (WP j).1 ∧ qI m2 (t + 6) j = nI (WP j).2) ∧ (qI m2 (t + 5) d = nI (offs T d WP n).1 ∧ qI m2 (t + 6) d = nI (offs T d WP n).2) ∧ (∀ a j, a ≠ t + 5 → a ≠ t + 6 → qI m2 a j = qI m a j) ∧ m2.2 = m.2) → WS E X 0 0 Q g m2 118 [some (.ref t), some (.int (nI D)), some (.int (nI d)), some (.int j)] []) → WS E X 0 0 Q g m1 54 [some (.ref t), some (.int (nI D)), some (.int (nI d)), some (.int (nI i))] [] := by
  intro k
  have hn := hT.2.1
  induction k with
  | zero =>
    intro i m1 hi hm1 K
    have hib : i = n := by omega
    subst hib
    refine r_iload_n hX dX6_planByDays_54 rfl ?_
    refine r_aload_n hX dX6_planByDays_55 rfl ?_
    refine r_getI hX dX6_planByDays_56 hs.1.1 fl_X6_30 ?_
    rw [hm1.2.2.1 _ _ (by omega) (by omega), hT.1]
    refine r_icmp_ge (tgt := 118) hX dX6_planByDays_59 (by decide) (fun c59 => ?_) (fun c59 => ?_)
    · exact K _ _ hm1
    · exact absurd (nI_le (Nat.le_refl _) (by omega)) c59
  | succ k ih =>
    intro i m1 hi hm1 K
    have hi1 : i < n := by omega
    have hi120 : i < 120 := by omega
    obtain ⟨b1, b2, b3, b4⟩ := hb i hi1
    have hTi := hT.2.2 i hi1
    have hof := offs_le (d := d) hWP (fun i hi => (hb i hi).2.2.2) i (by omega)
    have hwp := hWP ((T i).2.1 + 1)
    have hf : offs T d WP (i + 1) = if (T i).1 = d then offr (offs T d WP i) ((T i).2.2 + (WP ((T i).2.1 + 1)).1) (1 + (WP ((T i).2.1 + 1)).2) else offs T d WP i := rfl
    refine r_iload_n hX dX6_planByDays_54 rfl ?_
    refine r_aload_n hX dX6_planByDays_55 rfl ?_
    refine r_getI hX dX6_planByDays_56 hs.1.1 fl_X6_30 ?_
    rw [hm1.2.2.1 _ _ (by omega) (by omega), hT.1]
    refine r_icmp_ge (tgt := 118) hX dX6_planByDays_59 (by decide) (fun c59 => ?_) (fun c59 => ?_)
    · exact absurd c59 (nI_ge (by omega) (by omega))
    · refine r_aload_n hX dX6_planByDays_62 rfl ?_
      refine r_getR hX dX6_planByDays_63 hs.1.1 fl_X6_11 (hs.to hm1.2.2.2).2.1 ?_
      refine r_iload_n hX dX6_planByDays_66 rfl ?_
      refine r_ialoadN hX dX6_planByDays_67 hs.1.2.1 hi120 (by decide) ?_
      rw [hm1.2.2.1 _ _ (by omega) (by omega), hTi.1]
      refine r_iload_n hX dX6_planByDays_68 rfl ?_
      refine r_icmp_ne (tgt := 112) hX dX6_planByDays_69 (by decide) (fun c69 => ?_) (fun c69 => ?_)
      · refine r_iinc (v := nI (i + 1)) hX dX6_planByDays_112 rfl (ii1 i) rfl ?_
        refine r_goto (tgt := 54) hX dX6_planByDays_115 (by decide) ?_
        first
        | exact ih (i + 1) _ (by omega) (by rw [hf, if_neg (fun h => c69 (by rw [h]))]; exact hm1) K
        | rw [nI_eq (by omega) (by omega)] at c69
          refine ih (i + 1) _ (by omega) ⟨fun j h1 h2 => ?_, ?_, fun a j ha hb => ?_, hM.trans hm1.2.2.2⟩ K
          · rw [hI, hI, if_neg (by omega), if_neg (by omega), if_neg (by omega), if_neg (by omega)]; exact hm1.1 j h1 h2
          · rw [hI, hI, if_pos ⟨rfl, rfl⟩, if_neg (by omega), if_pos ⟨rfl, rfl⟩, hf, if_pos c69]; exact ⟨rfl, rfl⟩
          · rw [hI, if_neg (by omega), if_neg (by omega)]; exact hm1.2.2.1 a j ha hb
      · refine r_aload_n hX dX6_planByDays_72 rfl ?_
        refine r_iload_n hX dX6_planByDays_73 rfl ?_
        refine r_aload_n hX dX6_planByDays_74 rfl ?_
        refine r_getR hX dX6_planByDays_75 hs.1.1 fl_X6_18 (hs.to hm1.2.2.2).2.2.2.1 ?_
        refine r_iload_n hX dX6_planByDays_78 rfl ?_
        refine r_ialoadN hX dX6_planByDays_79 hs.1.2.2.2.1 hi120 (by decide) ?_
        rw [hm1.2.2.1 _ _ (by omega) (by omega), hTi.2.2]
        refine r_aload_n hX dX6_planByDays_80 rfl ?_
        refine r_getR hX dX6_planByDays_81 hs.1.1 fl_X6_24 (hs.to hm1.2.2.2).2.2.2.2.2.1 ?_
        refine r_aload_n hX dX6_planByDays_84 rfl ?_
        refine r_getR hX dX6_planByDays_85 hs.1.1 fl_X6_15 (hs.to hm1.2.2.2).2.2.1 ?_
        refine r_iload_n hX dX6_planByDays_88 rfl ?_
        refine r_ialoadN hX dX6_planByDays_89 hs.1.2.2.1 hi120 (by decide) ?_
        rw [hm1.2.2.1 _ _ (by omega) (by omega), hTi.2.1]
        refine r_iconst (v := 1) hX dX6_planByDays_90 (by decide) ?_
        refine r_iadd hX dX6_planByDays_91 ?_
        rw [nI_1]
        refine r_ialoadN hX dX6_planByDays_92 hs.1.2.2.2.2.2.1 (show (T i).2.1 + 1 < 62 by omega) (by decide) ?_
        rw [(hm1.1 ((T i).2.1 + 1) (by rw [nI_eq (by omega) (by omega)] at c69; omega) (by omega)).1]
        refine r_iadd hX dX6_planByDays_93 ?_
        rw [nI_add]
        refine r_iconst (v := 1) hX dX6_planByDays_94 (by decide) ?_
        refine r_aload_n hX dX6_planByDays_95 rfl ?_
        refine r_getR hX dX6_planByDays_96 hs.1.1 fl_X6_27 (hs.to hm1.2.2.2).2.2.2.2.2.2 ?_
        refine r_aload_n hX dX6_planByDays_99 rfl ?_
        refine r_getR hX dX6_planByDays_100 hs.1.1 fl_X6_15 (hs.to hm1.2.2.2).2.2.1 ?_
        refine r_iload_n hX dX6_planByDays_103 rfl ?_
        refine r_ialoadN hX dX6_planByDays_104 hs.1.2.2.1 hi120 (by decide) ?_
        rw [hm1.2.2.1 _ _ (by omega) (by omega), hTi.2.1]
        refine r_iconst (v := 1) hX dX6_planByDays_105 (by decide) ?_
        refine r_iadd hX dX6_planByDays_106 ?_
        rw [nI_1]
        refine r_ialoadN hX dX6_planByDays_107 hs.1.2.2.2.2.2.2 (show (T i).2.1 + 1 < 62 by omega) (by decide) ?_
        rw [(hm1.1 ((T i).2.1 + 1) (by rw [nI_eq (by omega) (by omega)] at c69; omega) (by omega)).2]
        refine r_iadd hX dX6_planByDays_108 ?_
        rw [show 1 + nI (WP ((T i).2.1 + 1)).2 = nI (1 + (WP ((T i).2.1 + 1)).2) from nI_add 1 _]
        refine r_callV hX dX6_planByDays_109 (s_X6_offer E g m1 t d ((T i).2.2 + (WP ((T i).2.1 + 1)).1) (1 + (WP ((T i).2.1 + 1)).2) (offs T d WP i) (hs.to hm1.2.2.2) (by omega) hm1.2.1.1 hm1.2.1.2 ⟨by omega, by omega⟩ ⟨by omega, by omega⟩) ml_X6_72 rfl rfl hs.1.1 rfl ⟨Nat.le_of_ble_eq_true rfl, Nat.le_of_ble_eq_true rfl⟩ ⟨Nat.le_of_ble_eq_true rfl, Nat.le_of_ble_eq_true rfl, rfl, Nat.le_of_ble_eq_true rfl⟩ (fun v109 g109 m109 hp => ?_)
        obtain ⟨hv, hg, hI, hM⟩ := hp
        subst v109
        subst g109
        refine r_iinc (v := nI (i + 1)) hX dX6_planByDays_112 rfl (ii1 i) rfl ?_
        refine r_goto (tgt := 54) hX dX6_planByDays_115 (by decide) ?_
        first
        | exact ih (i + 1) _ (by omega) (by rw [hf, if_neg (fun h => c69 (by rw [h]))]; exact hm1) K
        | rw [nI_eq (by omega) (by omega)] at c69
          refine ih (i + 1) _ (by omega) ⟨fun j h1 h2 => ?_, ?_, fun a j ha hb => ?_, hM.trans hm1.2.2.2⟩ K
          · rw [hI, hI, if_neg (by omega), if_neg (by omega), if_neg (by omega), if_neg (by omega)]; exact hm1.1 j h1 h2
          · rw [hI, hI, if_pos ⟨rfl, rfl⟩, if_neg (by omega), if_pos ⟨rfl, rfl⟩, hf, if_pos c69]; exact ⟨rfl, rfl⟩
          · rw [hI, if_neg (by omega), if_neg (by omega)]; exact hm1.2.2.1 a j ha hb
set_option maxRecDepth 20000 in
set_option maxHeartbeats 4000000 in
theorem s_X6_plan_o {E : qE} {X : qX} {Q : State → Prop} {g : qG} {m : qM} (hX : MC E yX6_planByDays cX6_planByDays 4 none 1 0 0 [] X) {t n D : Nat} {T : Nat → kP} (hs : TelS g m t) (hT : TelT m t T n) (hb : ∀ i, i < n → 1 ≤ (T i).1 ∧ (T i).1 ≤ (T i).2.1 ∧ (T i).2.1 ≤ D ∧ (T i).2.2 ≤ 20) (hD : D ≤ 60) : ∀ (d k : Nat) (m1 : qM) (z : Option Value), d + k = D → ((∀ j, D - k + 1 ≤ j → j ≤ D + 1 → qI m1 (t + 5) j = nI (plD T n D k j).1 ∧ qI m1 (t + 6) j = nI (plD T n D k j).2) ∧ (∀ a j, a ≠ t + 5 → a ≠ t + 6 → qI m1 a j = qI m a j) ∧ m1.2 = m.2) → (∀ (j : Int32) (z : Option Value) (m2 : qM), ((∀ j, D - D + 1 ≤ j → j ≤ D + 1 → qI m2 (t + 5) j = nI (plD T n D D j).1 ∧ qI m2 (t + 6) j = nI (plD T n D D j).2) ∧ (∀ a j, a ≠ t + 5 → a ≠ t + 6 → qI m2 a j = qI m a j) ∧ m2.2 = m.2) → WS E X 0 0 Q g m2 124 [some (.ref t), some (.int (nI D)), some (.int j), z] []) → WS E X 0 0 Q g m1 20 [some (.ref t), some (.int (nI D)), some (.int (nI d)), z] [] := by
  intro d
  have hn := hT.2.1
  induction d with
  | zero =>
    intro k m1 z hi hm1 K
    have hib : k = D := by omega
    subst hib
    refine r_iload_n hX dX6_planByDays_20 rfl ?_
    refine r_if_le (tgt := 124) hX dX6_planByDays_21 (by decide) (fun c21 => ?_) (fun c21 => ?_)
    · exact K _ _ _ hm1
    · exact absurd (show nI 0 ≤ 0 from Int32.le_refl _) c21
  | succ d ih =>
    intro k m1 z hi hm1 K
    have hd1 : d + 1 < 62 := by omega
    have hd2 : d + 1 + 1 < 62 := by omega
    have hdk : D - k = d + 1 := by omega
    have hw9 := plD_le (n := n) (D := D) (fun i hi => (hb i hi).2.2.2) k
    have hwp : ∀ j, (plD T n D k j).1 ≤ 1200 ∧ (plD T n D k j).2 ≤ 60 := fun j => by have := hw9 j; omega
    rw [hdk] at hm1
    refine r_iload_n hX dX6_planByDays_20 rfl ?_
    refine r_if_le (tgt := 124) hX dX6_planByDays_21 (by decide) (fun c21 => ?_) (fun c21 => ?_)
    · exact absurd c21 (show ¬ nI (d + 1) ≤ nI 0 from nI_ge (by omega) (by omega))
    · refine r_aload_n hX dX6_planByDays_24 rfl ?_
      refine r_getR hX dX6_planByDays_25 hs.1.1 fl_X6_24 (hs.to hm1.2.2).2.2.2.2.2.1 ?_
      refine r_iload_n hX dX6_planByDays_28 rfl ?_
      refine r_aload_n hX dX6_planByDays_29 rfl ?_
      refine r_getR hX dX6_planByDays_30 hs.1.1 fl_X6_24 (hs.to hm1.2.2).2.2.2.2.2.1 ?_
      refine r_iload_n hX dX6_planByDays_33 rfl ?_
      refine r_iconst (v := 1) hX dX6_planByDays_34 (by decide) ?_
      refine r_iadd hX dX6_planByDays_35 ?_
      rw [nI_1]
      refine r_ialoadN hX dX6_planByDays_36 hs.1.2.2.2.2.2.1 hd2 (by decide) ?_
      rw [(hm1.1 (d + 1 + 1) (by omega) (by omega)).1]
      refine r_iastoreN hX dX6_planByDays_37 hs.1.2.2.2.2.2.1 hd1 (by decide) ?_
      refine r_aload_n hX dX6_planByDays_38 rfl ?_
      refine r_getR hX dX6_planByDays_39 hs.1.1 fl_X6_27 (hs.to hm1.2.2).2.2.2.2.2.2 ?_
      refine r_iload_n hX dX6_planByDays_42 rfl ?_
      refine r_aload_n hX dX6_planByDays_43 rfl ?_
      refine r_getR hX dX6_planByDays_44 hs.1.1 fl_X6_27 (hs.to hm1.2.2).2.2.2.2.2.2 ?_
      refine r_iload_n hX dX6_planByDays_47 rfl ?_
      refine r_iconst (v := 1) hX dX6_planByDays_48 (by decide) ?_
      refine r_iadd hX dX6_planByDays_49 ?_
      rw [nI_1]
      refine r_ialoadN hX dX6_planByDays_50 hs.1.2.2.2.2.2.2 hd2 (by decide) ?_
      rw [qI_wI_a _ _ _ _ (by omega), (hm1.1 (d + 1 + 1) (by omega) (by omega)).2]
      refine r_iastoreN hX dX6_planByDays_51 hs.1.2.2.2.2.2.2 hd1 (by decide) ?_
      refine r_iconst (v := 0) hX dX6_planByDays_52 (by decide) ?_
      refine r_istore_n hX dX6_planByDays_53 (Nat.le_of_ble_eq_true rfl) rfl ?_
      refine s_X6_plan_i (d := d + 1) (WP := plD T n D k) hX hs hT hb hD (by omega) hwp n 0 _ (Nat.zero_add n) ⟨fun j h1 h2 => ?_, ?_, fun a j h1 h2 => ?_, hm1.2.2⟩ (fun j m2 hm2 => ?_)
      · rw [qI_wI_a _ _ _ _ (by omega), qI_wI_k _ _ _ _ (by omega), qI_wI_k _ _ _ _ (by omega), qI_wI_a _ _ _ _ (by omega)]
        exact hm1.1 j h1 h2
      · rw [qI_wI_a _ _ _ _ (by omega), qI_wI_s, qI_wI_s]
        exact ⟨rfl, rfl⟩
      · rw [qI_wI_a _ _ _ _ h2, qI_wI_a _ _ _ _ h1]
        exact hm1.2.1 a j h1 h2
      refine r_iinc (v := nI d) hX dX6_planByDays_118 rfl (iim1 d) rfl ?_
      refine r_goto (tgt := 20) hX dX6_planByDays_121 (by decide) ?_
      refine ih (k + 1) _ _ (by omega) ⟨fun j h1 h2 => ?_, hm2.2.2.1, hm2.2.2.2⟩ K
      rw [show plD T n D (k + 1) j = if j = D - k then offs T (D - k) (plD T n D k) n else plD T n D k j from rfl, hdk]
      by_cases e : j = d + 1
      · subst e
        rw [if_pos rfl]
        exact hm2.2.1
      · rw [if_neg e]
        exact hm2.1 j (by omega) h2
set_option maxRecDepth 20000 in
set_option maxHeartbeats 4000000 in
theorem s_X6_plan (E : qE) (g : qG) (m : qM) (t n D : Nat) (T : Nat → kP) (hs : TelS g m t) (hT : TelT m t T n) (hb : ∀ i, i < n → 1 ≤ (T i).1 ∧ (T i).1 ≤ (T i).2.1 ∧ (T i).2.1 ≤ D ∧ (T i).2.2 ≤ 20) (hD : D ≤ 60) : Sp E yX6_planByDays cX6_planByDays 4 none 1 0 0 [.ref t, .int (nI D)] g m (fun v g' m' => v = none ∧ g' = g ∧ (∀ j, 1 ≤ j → j ≤ D + 1 → qI m' (t + 5) j = nI (plD T n D D j).1 ∧ qI m' (t + 6) j = nI (plD T n D D j).2) ∧ (∀ a j, a ≠ t + 5 → a ≠ t + 6 → qI m' a j = qI m a j) ∧ m'.2 = m.2) := by
  have hD1 : D + 1 < 62 := by omega
  refine Sp.of (by decide) [some (.ref t), some (.int (nI D)), none, none] rfl rfl (Nat.le_of_ble_eq_true rfl) (fun X hX => ?_)
  refine r_aload_n hX dX6_planByDays_0 rfl ?_
  refine r_getR hX dX6_planByDays_1 hs.1.1 fl_X6_24 hs.2.2.2.2.2.1 ?_
  refine r_iload_n hX dX6_planByDays_4 rfl ?_
  refine r_iconst (v := 1) hX dX6_planByDays_5 (by decide) ?_
  refine r_iadd hX dX6_planByDays_6 ?_
  rw [nI_1]
  refine r_iconst (v := 0) hX dX6_planByDays_7 (by decide) ?_
  refine r_iastoreN hX dX6_planByDays_8 hs.1.2.2.2.2.2.1 hD1 (by decide) ?_
  refine r_aload_n hX dX6_planByDays_9 rfl ?_
  refine r_getR hX dX6_planByDays_10 hs.1.1 fl_X6_27 hs.2.2.2.2.2.2 ?_
  refine r_iload_n hX dX6_planByDays_13 rfl ?_
  refine r_iconst (v := 1) hX dX6_planByDays_14 (by decide) ?_
  refine r_iadd hX dX6_planByDays_15 ?_
  rw [nI_1]
  refine r_iconst (v := 0) hX dX6_planByDays_16 (by decide) ?_
  refine r_iastoreN hX dX6_planByDays_17 hs.1.2.2.2.2.2.2 hD1 (by decide) ?_
  refine r_iload_n hX dX6_planByDays_18 rfl ?_
  refine r_istore_n hX dX6_planByDays_19 (Nat.le_of_ble_eq_true rfl) rfl ?_
  refine s_X6_plan_o hX hs hT hb hD D 0 _ _ rfl ⟨fun j h1 h2 => ?_, fun a j h1 h2 => ?_, rfl⟩ (fun j z m1 hm1 => ?_)
  · rw [show j = D + 1 by omega, qI_wI_a _ _ _ _ (by omega), qI_wI_s, qI_wI_s]
    exact ⟨rfl, rfl⟩
  · rw [qI_wI_a _ _ _ _ h2, qI_wI_a _ _ _ _ h1]
  exact r_vret hX dX6_planByDays_124 ⟨rfl, rfl, fun j h1 h2 => hm1.1 j (by omega) h2, hm1.2⟩ ⟨Nat.le_of_ble_eq_true rfl, Nat.le_of_ble_eq_true rfl⟩
