/-! ===== CometObservatoryModel: ranks, the ring, means; undo, saving ===== -/
theorem id_lt {L : List (Nat → Nat)} (hp : L.Pairwise (fun a b => a 0 < b 0)) {i j : Nat} (hi : i < L.length) (hj : j < L.length) : i < j ↔ cAt L i 0 < cAt L j 0 := by
  rw [cAt_get hi, cAt_get hj]
  have h := List.pairwise_iff_getElem.mp hp
  constructor
  · exact h i j hi hj
  · intro h2
    rcases Nat.lt_trichotomy i j with h3 | h3 | h3
    · exact h3
    · subst h3; exact absurd h2 (Nat.lt_irrefl _)
    · exact absurd (h j i hj hi h3) (by omega)
theorem sub_gt {a b : Nat} (ha : a < 2 ^ 30) (hb : b < 2 ^ 30) : (0 : Int32) < nI a - nI b ↔ b < a := by
  rw [Int32.lt_iff_toInt_lt, pk_sub_toInt ha hb, show (0 : Int32).toInt = 0 from rfl]
  omega
theorem sub_0 {a b : Nat} (ha : a < 2 ^ 30) (hb : b < 2 ^ 30) : nI a - nI b = 0 ↔ a = b := by
  constructor
  · intro h
    have h2 := congrArg Int32.toInt h
    rw [pk_sub_toInt ha hb, show (0 : Int32).toInt = 0 from rfl] at h2
    omega
  · rintro rfl
    exact Int32.sub_self _
theorem rkB_i (a b : Nat → Nat) : rkB a b = true ↔ b 2 < a 2 ∨ (a 2 = b 2 ∧ (a 3 < b 3 ∨ (a 3 = b 3 ∧ a 0 < b 0))) := by
  unfold rkB
  rw [Bool.or_eq_true, Bool.and_eq_true, Bool.or_eq_true, Bool.and_eq_true]
  simp only [decide_eq_true_eq]
set_option maxRecDepth 20000 in
set_option maxHeartbeats 4000000 in
theorem s_X8_isAhead (E : qE) (g : qG) (m : qM) (y : Nat) (hs : ModS g m y) (V : kV) (hR : RepF (rowF m y 0) V) (hl : V.1.length ≤ 6) (hp : V.1.Pairwise (fun a b => a 0 < b 0)) (hc : ∀ c ∈ V.1, c 2 < 2 ^ 30 ∧ c 3 < 2 ^ 30) (i j : Nat) (hi : i < V.1.length) (hj : j < V.1.length) : Sp E yX8_isAhead cX8_isAhead 5 (some .boolean) 1 0 0 [.ref y, .int (nI i), .int (nI j)] g m (fun v g' m' => v = some (.int (if rkB (cAt V.1 i) (cAt V.1 j) = true then 1 else 0)) ∧ g' = g ∧ m' = m) := by
  refine Sp.of (by decide) [some (.ref y), some (.int (nI i)), some (.int (nI j)), none, none] rfl rfl (Nat.le_of_ble_eq_true rfl) (fun X hX => ?_)
  have hrk := rkB_i (cAt V.1 i) (cAt V.1 j)
  have hid := id_lt hp hi hj
  obtain ⟨a2, a3⟩ := hc _ (cAt_mem hi)
  obtain ⟨b2, b3⟩ := hc _ (cAt_mem hj)
  refine r_aload_n hX dX8_isAhead_0 rfl ?_
  refine r_iload_n hX dX8_isAhead_1 rfl ?_
  refine r_iconst (v := 2) hX dX8_isAhead_2 (by decide) ?_
  refine r_callV hX dX8_isAhead_3 (s_X8_c E g m y hs i 2 (by omega)) ml_X8_49 rfl rfl hs.1.1 rfl ⟨Nat.le_of_ble_eq_true rfl, Nat.le_of_ble_eq_true rfl⟩ ⟨Nat.le_of_ble_eq_true rfl, Nat.le_of_ble_eq_true rfl, rfl, Nat.le_of_ble_eq_true rfl⟩ (fun v3 g3 m3 hp => ?_)
  obtain ⟨hv, hg, hm⟩ := hp
  subst v3
  subst g3
  subst m3
  rw [hR.rC hi (by decide)]
  refine r_aload_n hX dX8_isAhead_6 rfl ?_
  refine r_iload_n hX dX8_isAhead_7 rfl ?_
  refine r_iconst (v := 2) hX dX8_isAhead_8 (by decide) ?_
  refine r_callV hX dX8_isAhead_9 (s_X8_c E g m y hs j 2 (by omega)) ml_X8_49 rfl rfl hs.1.1 rfl ⟨Nat.le_of_ble_eq_true rfl, Nat.le_of_ble_eq_true rfl⟩ ⟨Nat.le_of_ble_eq_true rfl, Nat.le_of_ble_eq_true rfl, rfl, Nat.le_of_ble_eq_true rfl⟩ (fun v9 g9 m9 hp => ?_)
  obtain ⟨hv, hg, hm⟩ := hp
  subst v9
  subst g9
  subst m9
  rw [hR.rC hj (by decide)]
  refine r_isub hX dX8_isAhead_12 ?_
  refine r_istore_n hX dX8_isAhead_13 (Nat.le_of_ble_eq_true rfl) rfl ?_
  refine r_aload_n hX dX8_isAhead_14 rfl ?_
  refine r_iload_n hX dX8_isAhead_15 rfl ?_
  refine r_iconst (v := 3) hX dX8_isAhead_16 (by decide) ?_
  refine r_callV hX dX8_isAhead_17 (s_X8_c E g m y hs j 3 (by omega)) ml_X8_49 rfl rfl hs.1.1 rfl ⟨Nat.le_of_ble_eq_true rfl, Nat.le_of_ble_eq_true rfl⟩ ⟨Nat.le_of_ble_eq_true rfl, Nat.le_of_ble_eq_true rfl, rfl, Nat.le_of_ble_eq_true rfl⟩ (fun v17 g17 m17 hp => ?_)
  obtain ⟨hv, hg, hm⟩ := hp
  subst v17
  subst g17
  subst m17
  rw [hR.rC hj (by decide)]
  refine r_aload_n hX dX8_isAhead_20 rfl ?_
  refine r_iload_n hX dX8_isAhead_21 rfl ?_
  refine r_iconst (v := 3) hX dX8_isAhead_22 (by decide) ?_
  refine r_callV hX dX8_isAhead_23 (s_X8_c E g m y hs i 3 (by omega)) ml_X8_49 rfl rfl hs.1.1 rfl ⟨Nat.le_of_ble_eq_true rfl, Nat.le_of_ble_eq_true rfl⟩ ⟨Nat.le_of_ble_eq_true rfl, Nat.le_of_ble_eq_true rfl, rfl, Nat.le_of_ble_eq_true rfl⟩ (fun v23 g23 m23 hp => ?_)
  obtain ⟨hv, hg, hm⟩ := hp
  subst v23
  subst g23
  subst m23
  rw [hR.rC hi (by decide)]
  refine r_isub hX dX8_isAhead_26 ?_
  refine r_istore hX dX8_isAhead_27 (Nat.le_of_ble_eq_true rfl) rfl ?_
  refine r_iload_n hX dX8_isAhead_29 rfl ?_
  refine r_if_gt (tgt := 52) hX dX8_isAhead_30 (by decide) (fun c30 => ?_) (fun c30 => ?_)
  · have h30 := (sub_gt a2 b2).mp c30
    refine r_iconst (v := 1) hX dX8_isAhead_52 (by decide) ?_
    refine r_goto (tgt := 57) hX dX8_isAhead_53 (by decide) ?_
    exact r_zret hX dX8_isAhead_57 rfl ⟨by rw [if_pos (hrk.mpr (Or.inl h30))], rfl, rfl⟩ ⟨Nat.le_of_ble_eq_true rfl, Nat.le_of_ble_eq_true rfl⟩
  · refine r_iload_n hX dX8_isAhead_33 rfl ?_
    refine r_if_ne (tgt := 56) hX dX8_isAhead_34 (by decide) (fun c34 => ?_) (fun c34 => ?_)
    · have h30 := (not_congr (sub_gt a2 b2)).mp c30
      have h34 := (not_congr (sub_0 a2 b2)).mp c34
      refine r_iconst (v := 0) hX dX8_isAhead_56 (by decide) ?_
      exact r_zret hX dX8_isAhead_57 rfl ⟨by rw [if_neg (fun h9 => by have h9 := hrk.mp h9; omega)], rfl, rfl⟩ ⟨Nat.le_of_ble_eq_true rfl, Nat.le_of_ble_eq_true rfl⟩
    · have h30 := (not_congr (sub_gt a2 b2)).mp c30
      have h34 := (sub_0 a2 b2).mp c34
      refine r_iload hX dX8_isAhead_37 rfl ?_
      refine r_if_gt (tgt := 52) hX dX8_isAhead_39 (by decide) (fun c39 => ?_) (fun c39 => ?_)
      · have h39 := (sub_gt b3 a3).mp c39
        refine r_iconst (v := 1) hX dX8_isAhead_52 (by decide) ?_
        refine r_goto (tgt := 57) hX dX8_isAhead_53 (by decide) ?_
        exact r_zret hX dX8_isAhead_57 rfl ⟨by rw [if_pos (hrk.mpr (Or.inr ⟨h34, Or.inl h39⟩))], rfl, rfl⟩ ⟨Nat.le_of_ble_eq_true rfl, Nat.le_of_ble_eq_true rfl⟩
      · refine r_iload hX dX8_isAhead_42 rfl ?_
        refine r_if_ne (tgt := 56) hX dX8_isAhead_44 (by decide) (fun c44 => ?_) (fun c44 => ?_)
        · have h39 := (not_congr (sub_gt b3 a3)).mp c39
          have h44 := (not_congr (sub_0 b3 a3)).mp c44
          refine r_iconst (v := 0) hX dX8_isAhead_56 (by decide) ?_
          exact r_zret hX dX8_isAhead_57 rfl ⟨by rw [if_neg (fun h9 => by have h9 := hrk.mp h9; omega)], rfl, rfl⟩ ⟨Nat.le_of_ble_eq_true rfl, Nat.le_of_ble_eq_true rfl⟩
        · have h39 := (not_congr (sub_gt b3 a3)).mp c39
          have h44 := (sub_0 b3 a3).mp c44
          refine r_iload_n hX dX8_isAhead_47 rfl ?_
          refine r_iload_n hX dX8_isAhead_48 rfl ?_
          refine r_icmp_ge (tgt := 56) hX dX8_isAhead_49 (by decide) (fun c49 => ?_) (fun c49 => ?_)
          · have h49 : ¬ i < j := fun h => absurd c49 (nI_ge h (by omega))
            refine r_iconst (v := 0) hX dX8_isAhead_56 (by decide) ?_
            exact r_zret hX dX8_isAhead_57 rfl ⟨by rw [if_neg (fun h9 => by have h9 := hrk.mp h9; omega)], rfl, rfl⟩ ⟨Nat.le_of_ble_eq_true rfl, Nat.le_of_ble_eq_true rfl⟩
          · have h49 : i < j := Nat.lt_of_not_le (fun h => c49 (nI_le h (by omega)))
            refine r_iconst (v := 1) hX dX8_isAhead_52 (by decide) ?_
            refine r_goto (tgt := 57) hX dX8_isAhead_53 (by decide) ?_
            exact r_zret hX dX8_isAhead_57 rfl ⟨by rw [if_pos (hrk.mpr (Or.inr ⟨h34, Or.inr ⟨h44.symm, hid.mp h49⟩⟩))], rfl, rfl⟩ ⟨Nat.le_of_ble_eq_true rfl, Nat.le_of_ble_eq_true rfl⟩
def mRank (O : kO) (r : Int32) : kR := match slotF (fun i => nI (rkF O.1.1 (cAt O.1.1 i) O.1.1.length)) r 0 O.1.1.length with
  | some i => (0, nI (cAt O.1.1 i 0), O)
  | none => (1, 0, O)
theorem mRank_s {O : kO} {r : Int32} {i : Nat} (h : slotF (fun i => nI (rkF O.1.1 (cAt O.1.1 i) O.1.1.length)) r 0 O.1.1.length = some i) : mRank O r = (0, nI (cAt O.1.1 i 0), O) := by unfold mRank; rw [h]
theorem mRank_n {O : kO} {r : Int32} (h : slotF (fun i => nI (rkF O.1.1 (cAt O.1.1 i) O.1.1.length)) r 0 O.1.1.length = none) : mRank O r = (1, 0, O) := by unfold mRank; rw [h]
set_option maxRecDepth 20000 in
set_option maxHeartbeats 4000000 in
theorem s_X8_rank_j {E : qE} {X : qX} {Q : State → Prop} {g : qG} {m : qM} (hX : MC E yX8_cometAtRank cX8_cometAtRank 5 (some .int) 4 0 0 [] X) {y : Nat} {V : kV} (hs : ModS g m y) (hR : RepF (rowF m y 0) V) (hl : V.1.length ≤ 6) (hp : V.1.Pairwise (fun a b => a 0 < b 0)) (hc : ∀ c ∈ V.1, c 2 < 2 ^ 30 ∧ c 3 < 2 ^ 30) {r : Int32} {i : Nat} (hi : i < V.1.length) : ∀ (n j : Nat), j + n = V.1.length → (∀ w : Int32, WS E X 0 0 Q g m 52 [some (.ref y), some (.int r), some (.int (nI i)), some (.int (nI (rkF V.1 (cAt V.1 i) V.1.length))), some (.int w)] []) → WS E X 0 0 Q g m 17 [some (.ref y), some (.int r), some (.int (nI i)), some (.int (nI (rkF V.1 (cAt V.1 i) j))), some (.int (nI j))] [] := by
  intro n
  induction n with
  | zero =>
    intro j hj K
    have hib : j = V.1.length := by omega
    subst hib
    refine r_iload hX dX8_cometAtRank_17 rfl ?_
    refine r_aload_n hX dX8_cometAtRank_19 rfl ?_
    refine r_getR hX dX8_cometAtRank_20 hs.1.1 fl_X8_9 hs.2.1 ?_
    refine r_iconst (v := 0) hX dX8_cometAtRank_23 (by decide) ?_
    refine r_ialoadN hX dX8_cometAtRank_24 hs.1.2.1 (show 0 < 539 by decide) (by decide) ?_
    rw [hR.r0]
    refine r_icmp_ge (tgt := 52) hX dX8_cometAtRank_25 (by decide) (fun c25 => ?_) (fun c25 => ?_)
    · exact K _
    · exact absurd (Int32.le_refl _) c25
  | succ n ih =>
    intro j hj K
    have hjl : j < V.1.length := by omega
    refine r_iload hX dX8_cometAtRank_17 rfl ?_
    refine r_aload_n hX dX8_cometAtRank_19 rfl ?_
    refine r_getR hX dX8_cometAtRank_20 hs.1.1 fl_X8_9 hs.2.1 ?_
    refine r_iconst (v := 0) hX dX8_cometAtRank_23 (by decide) ?_
    refine r_ialoadN hX dX8_cometAtRank_24 hs.1.2.1 (show 0 < 539 by decide) (by decide) ?_
    rw [hR.r0]
    refine r_icmp_ge (tgt := 52) hX dX8_cometAtRank_25 (by decide) (fun c25 => ?_) (fun c25 => ?_)
    · exact absurd c25 (nI_ge hjl (by omega))
    · refine r_iload_n hX dX8_cometAtRank_28 rfl ?_
      refine r_aload_n hX dX8_cometAtRank_29 rfl ?_
      refine r_iload hX dX8_cometAtRank_30 rfl ?_
      refine r_iload_n hX dX8_cometAtRank_32 rfl ?_
      refine r_callV hX dX8_cometAtRank_33 (s_X8_isAhead E g m y hs V hR hl hp hc j i hjl hi) ml_X8_128 rfl rfl hs.1.1 rfl ⟨Nat.le_of_ble_eq_true rfl, Nat.le_of_ble_eq_true rfl⟩ ⟨Nat.le_of_ble_eq_true rfl, Nat.le_of_ble_eq_true rfl, rfl, Nat.le_of_ble_eq_true rfl⟩ (fun v33 g33 m33 hp => ?_)
      obtain ⟨hv, hg, hm⟩ := hp
      subst v33
      subst g33
      subst m33
      refine r_if_eq (tgt := 43) hX dX8_cometAtRank_36 (by decide) (fun c36 => ?_) (fun c36 => ?_)
      · have hn : ¬ rkB (cAt V.1 j) (cAt V.1 i) = true := fun h => absurd c36 (by rw [if_pos h]; decide)
        have he : rkF V.1 (cAt V.1 i) (j + 1) = rkF V.1 (cAt V.1 i) j := by show rkF V.1 (cAt V.1 i) j + (if rkB (cAt V.1 j) (cAt V.1 i) = true then 1 else 0) = _; rw [if_neg hn]; rfl
        refine r_iconst (v := 0) hX dX8_cometAtRank_43 (by decide) ?_
        refine r_iadd hX dX8_cometAtRank_44 ?_
        rw [Int32.add_zero]
        refine r_istore_n hX dX8_cometAtRank_45 (Nat.le_of_ble_eq_true rfl) rfl ?_
        refine r_iinc (v := nI (j + 1)) hX dX8_cometAtRank_46 rfl (ii1 j) rfl ?_
        refine r_goto (tgt := 17) hX dX8_cometAtRank_49 (by decide) ?_
        rw [← he]
        exact ih (j + 1) (by omega) K
      · have hn : rkB (cAt V.1 j) (cAt V.1 i) = true := Classical.byContradiction (fun h => c36 (by rw [if_neg h]))
        have he : rkF V.1 (cAt V.1 i) (j + 1) = rkF V.1 (cAt V.1 i) j + 1 := by show rkF V.1 (cAt V.1 i) j + (if rkB (cAt V.1 j) (cAt V.1 i) = true then 1 else 0) = _; rw [if_pos hn]
        refine r_iconst (v := 1) hX dX8_cometAtRank_39 (by decide) ?_
        refine r_goto (tgt := 44) hX dX8_cometAtRank_40 (by decide) ?_
        refine r_iadd hX dX8_cometAtRank_44 ?_
        rw [nI_1]
        refine r_istore_n hX dX8_cometAtRank_45 (Nat.le_of_ble_eq_true rfl) rfl ?_
        refine r_iinc (v := nI (j + 1)) hX dX8_cometAtRank_46 rfl (ii1 j) rfl ?_
        refine r_goto (tgt := 17) hX dX8_cometAtRank_49 (by decide) ?_
        rw [← he]
        exact ih (j + 1) (by omega) K
set_option maxRecDepth 20000 in
set_option maxHeartbeats 4000000 in
theorem s_X8_rank_i {E : qE} {X : qX} {Q : State → Prop} {g : qG} {m : qM} (hX : MC E yX8_cometAtRank cX8_cometAtRank 5 (some .int) 4 0 0 [] X) {y : Nat} {V : kV} (hs : ModS g m y) (hR : RepF (rowF m y 0) V) (hl : V.1.length ≤ 6) (hp : V.1.Pairwise (fun a b => a 0 < b 0)) (hc : ∀ c ∈ V.1, c 2 < 2 ^ 30 ∧ c 3 < 2 ^ 30) {r : Int32} : ∀ (n i : Nat) (v0 : Int32) (o1 o2 : Option Value), i + n = V.1.length → (slotF (fun i => nI (rkF V.1 (cAt V.1 i) V.1.length)) r i n = none → ∀ (v : Int32) (o1 o2 : Option Value) (w : Int32), WS E X 0 0 Q g (wI m y 0 v) 82 [some (.ref y), some (.int r), some (.int w), o1, o2] []) → (∀ j : Nat, slotF (fun i => nI (rkF V.1 (cAt V.1 i) V.1.length)) r i n = some j → ∀ (o1 o2 : Option Value), WS E X 0 0 Q g (wI m y 0 0) 69 [some (.ref y), some (.int r), some (.int (nI j)), o1, o2] []) → WS E X 0 0 Q g (wI m y 0 v0) 2 [some (.ref y), some (.int r), some (.int (nI i)), o1, o2] [] := by
  intro n
  induction n with
  | zero =>
    intro i v0 o1 o2 hi K1 K2
    have hib : i = V.1.length := by omega
    subst hib
    have hR1 : RepF (rowF (wI m y 0 v0) y 0) V := by rw [rowF_n _ _ (show y ≠ y + 1 by omega)]; exact hR
    refine r_iload_n hX dX8_cometAtRank_2 rfl ?_
    refine r_aload_n hX dX8_cometAtRank_3 rfl ?_
    refine r_getR hX dX8_cometAtRank_4 hs.1.1 fl_X8_9 (hs.to rfl).2.1 ?_
    refine r_iconst (v := 0) hX dX8_cometAtRank_7 (by decide) ?_
    refine r_ialoadN hX dX8_cometAtRank_8 hs.1.2.1 (show 0 < 539 by decide) (by decide) ?_
    rw [hR1.r0]
    refine r_icmp_ge (tgt := 82) hX dX8_cometAtRank_9 (by decide) (fun c9 => ?_) (fun c9 => ?_)
    · exact K1 rfl _ _ _ _
    · exact absurd (Int32.le_refl _) c9
  | succ n ih =>
    intro i v0 o1 o2 hi K1 K2
    have hil : i < V.1.length := by omega
    have hR1 : RepF (rowF (wI m y 0 v0) y 0) V := by rw [rowF_n _ _ (show y ≠ y + 1 by omega)]; exact hR
    have hs1 : ModS g (wI m y 0 v0) y := hs.to rfl
    refine r_iload_n hX dX8_cometAtRank_2 rfl ?_
    refine r_aload_n hX dX8_cometAtRank_3 rfl ?_
    refine r_getR hX dX8_cometAtRank_4 hs.1.1 fl_X8_9 hs1.2.1 ?_
    refine r_iconst (v := 0) hX dX8_cometAtRank_7 (by decide) ?_
    refine r_ialoadN hX dX8_cometAtRank_8 hs.1.2.1 (show 0 < 539 by decide) (by decide) ?_
    rw [hR1.r0]
    refine r_icmp_ge (tgt := 82) hX dX8_cometAtRank_9 (by decide) (fun c9 => ?_) (fun c9 => ?_)
    · exact absurd c9 (nI_ge hil (by omega))
    · refine r_iconst (v := 0) hX dX8_cometAtRank_12 (by decide) ?_
      refine r_istore_n hX dX8_cometAtRank_13 (Nat.le_of_ble_eq_true rfl) rfl ?_
      refine r_iconst (v := 0) hX dX8_cometAtRank_14 (by decide) ?_
      refine r_istore hX dX8_cometAtRank_15 (Nat.le_of_ble_eq_true rfl) rfl ?_
      refine s_X8_rank_j hX hs1 hR1 hl hp hc hil V.1.length 0 (by omega) (fun w => ?_)
      refine r_aload_n hX dX8_cometAtRank_52 rfl ?_
      refine r_iload_n hX dX8_cometAtRank_53 rfl ?_
      refine r_iload_n hX dX8_cometAtRank_54 rfl ?_
      refine r_icmp_ne (tgt := 62) hX dX8_cometAtRank_55 (by decide) (fun c55 => ?_) (fun c55 => ?_)
      · have hq : ¬ (fun i => nI (rkF V.1 (cAt V.1 i) V.1.length)) i = r := c55
        refine r_iconst (v := 0) hX dX8_cometAtRank_62 (by decide) ?_
        refine r_callV hX dX8_cometAtRank_63 (s_X8_isFine E g (wI m y 0 v0) y hs1 false) ml_X8_115 rfl rfl hs.1.1 rfl ⟨Nat.le_of_ble_eq_true rfl, Nat.le_of_ble_eq_true rfl⟩ ⟨Nat.le_of_ble_eq_true rfl, Nat.le_of_ble_eq_true rfl, rfl, Nat.le_of_ble_eq_true rfl⟩ (fun v63 g63 m63 hp => ?_)
        obtain ⟨hv, hg, hm⟩ := hp
        subst v63
        subst g63
        have hm : m63 = wI m y 0 1 := hm.trans (wI_wI _ _ _ _ _)
        subst hm
        refine r_if_eq (tgt := 76) hX dX8_cometAtRank_66 (by decide) (fun c66 => ?_) (fun c66 => ?_)
        · refine r_iinc (v := nI (i + 1)) hX dX8_cometAtRank_76 rfl (ii1 i) rfl ?_
          refine r_goto (tgt := 2) hX dX8_cometAtRank_79 (by decide) ?_
          exact ih (i + 1) 1 _ _ (by omega) (fun h => K1 ((if_neg hq).trans h)) (fun j h => K2 j ((if_neg hq).trans h))
        · exact absurd rfl c66
      · have hq : (fun i => nI (rkF V.1 (cAt V.1 i) V.1.length)) i = r := c55
        refine r_iconst (v := 1) hX dX8_cometAtRank_58 (by decide) ?_
        refine r_goto (tgt := 63) hX dX8_cometAtRank_59 (by decide) ?_
        refine r_callV hX dX8_cometAtRank_63 (s_X8_isFine E g (wI m y 0 v0) y hs1 true) ml_X8_115 rfl rfl hs.1.1 rfl ⟨Nat.le_of_ble_eq_true rfl, Nat.le_of_ble_eq_true rfl⟩ ⟨Nat.le_of_ble_eq_true rfl, Nat.le_of_ble_eq_true rfl, rfl, Nat.le_of_ble_eq_true rfl⟩ (fun v63 g63 m63 hp => ?_)
        obtain ⟨hv, hg, hm⟩ := hp
        subst v63
        subst g63
        have hm : m63 = wI m y 0 0 := hm.trans (wI_wI _ _ _ _ _)
        subst hm
        refine r_if_eq (tgt := 76) hX dX8_cometAtRank_66 (by decide) (fun c66 => ?_) (fun c66 => ?_)
        · exact absurd c66 (by decide)
        · exact K2 i (if_pos hq) _ _
theorem wI_self (m : qM) (a k : Nat) : wI m a k (qI m a k) = m := by
  unfold wI qI
  refine congr (congrArg Prod.mk ?_) rfl
  funext b j
  show (if b = a ∧ j = k then m.1 a k else m.1 b j) = m.1 b j
  by_cases e : b = a ∧ j = k
  · rw [if_pos e, e.1, e.2]
  · rw [if_neg e]
set_option maxRecDepth 20000 in
set_option maxHeartbeats 4000000 in
theorem s_X8_cometAtRank (E : qE) (g : qG) (m : qM) (y : Nat) (O : kO) (hO : ModV g m y O) (u : Nat) (hw : WfO u O) (hu : u ≤ 6144) (r : Int32) : Sp E yX8_cometAtRank cX8_cometAtRank 5 (some .int) 4 0 0 [.ref y, .int r] g m (pU y g m (mRank O r)) := by
  refine Sp.of (by decide) [some (.ref y), some (.int r), none, none, none] rfl rfl (Nat.le_of_ble_eq_true rfl) (fun X hX => ?_)
  have hR := hO.2.2
  refine r_iconst (v := 0) hX dX8_cometAtRank_0 (by decide) ?_
  refine r_istore_n hX dX8_cometAtRank_1 (Nat.le_of_ble_eq_true rfl) rfl ?_
  have hS := s_X8_rank_i (g := g) (m := m) (Q := RQ E X (pU y g m (mRank O r)) 0 0) hX hO.1.1 hR hO.2.1 (hw.1.2.2.1) (fun c hc => by obtain ⟨b1, b2, b3, b4, b5, b6, b7, b8⟩ := hw.1.2.1 c hc; have := hw.1.2.2.2.2.1; omega) (r := r) O.1.1.length 0 (qI m y 0) none none (by omega) (fun hq v o1 o2 w => ?_) (fun j hq o1 o2 => ?_)
  · rw [wI_self] at hS
    exact hS
  · refine r_aload_n hX dX8_cometAtRank_82 rfl ?_
    refine r_iconst (v := 1) hX dX8_cometAtRank_83 (by decide) ?_
    refine r_putI hX dX8_cometAtRank_84 hO.1.1.1.1 fl_X8_36 ?_
    rw [wI_wI]
    refine r_iconst (v := 0) hX dX8_cometAtRank_87 (by decide) ?_
    exact r_iret hX dX8_cometAtRank_88 (by rw [mRank_n hq]; exact hO.no (by decide) rfl) ⟨Nat.le_of_ble_eq_true rfl, Nat.le_of_ble_eq_true rfl⟩
  · have hjl : j < O.1.1.length := by have := slotF_some hq; omega
    have hl6 := hO.2.1
    refine r_aload_n hX dX8_cometAtRank_69 rfl ?_
    refine r_iload_n hX dX8_cometAtRank_70 rfl ?_
    refine r_iconst (v := 0) hX dX8_cometAtRank_71 (by decide) ?_
    refine r_callV hX dX8_cometAtRank_72 (s_X8_c E g _ y (by exact hO.1.1.to rfl) j 0 (by omega)) ml_X8_49 rfl rfl hO.1.1.1.1 rfl ⟨Nat.le_of_ble_eq_true rfl, Nat.le_of_ble_eq_true rfl⟩ ⟨Nat.le_of_ble_eq_true rfl, Nat.le_of_ble_eq_true rfl, rfl, Nat.le_of_ble_eq_true rfl⟩ (fun v72 g72 m72 hp => ?_)
    obtain ⟨hv, hg, hm⟩ := hp
    subst v72
    subst g72
    subst m72
    rw [(hO.thr 0).2.2.rC hjl (by decide)]
    exact r_iret hX dX8_cometAtRank_75 (by rw [mRank_s hq]; exact hO.ok rfl) ⟨Nat.le_of_ble_eq_true rfl, Nat.le_of_ble_eq_true rfl⟩
