/-! ===== CometObservatory.Sky, questions ===== -/
def pAh (S : kS) (x : Int32) : Nat → Int32
  | 0 => 0
  | i + 1 => pAh S x i + cPassesUpTo (S.2.1 i 2) (S.2.1 i 3) (S.2.1 i 1) (S.1 2 + x)
set_option maxRecDepth 20000 in
set_option maxHeartbeats 4000000 in
theorem s_X5_passesAhead_l {E : qE} {X : qX} {Q : State → Prop} {g : qG} {m : qM} (hX : MC E yX5_passesAhead cX5_passesAhead 4 (some .int) 2 0 0 [] X) {q : Nat} {x : Int32} {ad : Nat → Nat} (hs : SkySh g q) (hr : SkyR m q ad) {S : kS} (hV : SkyV m q ad S) {n : Nat} (hc : S.1 0 = nI n ∧ n ≤ 6) : ∀ (k i : Nat), i + k = n → (∀ j : Int32, WS E X 0 0 Q g m 36 [some (.ref q), some (.int x), some (.int (pAh S x n)), some (.int j)] []) → WS E X 0 0 Q g m 4 [some (.ref q), some (.int x), some (.int (pAh S x i)), some (.int (nI i))] [] := by
  intro k
  induction k with
  | zero =>
    intro i hi K
    have hib : i = n := by omega
    subst hib
    refine r_iload_n hX dX5_passesAhead_4 rfl ?_
    refine r_aload_n hX dX5_passesAhead_5 rfl ?_
    refine r_getI hX dX5_passesAhead_6 hs.1 fl_X5_39 ?_
    rw [(hV.h 0 (by decide)).trans hc.1]
    refine r_icmp_ge (tgt := 36) hX dX5_passesAhead_9 (by decide) (fun c9 => ?_) (fun c9 => ?_)
    · exact K _
    · exact absurd (nI_le (Nat.le_refl _) (by omega)) c9
  | succ k ih =>
    intro i hi K
    have hi : i < 6 := by omega
    refine r_iload_n hX dX5_passesAhead_4 rfl ?_
    refine r_aload_n hX dX5_passesAhead_5 rfl ?_
    refine r_getI hX dX5_passesAhead_6 hs.1 fl_X5_39 ?_
    rw [(hV.h 0 (by decide)).trans hc.1]
    refine r_icmp_ge (tgt := 36) hX dX5_passesAhead_9 (by decide) (fun c9 => ?_) (fun c9 => ?_)
    · exact absurd c9 (nI_ge (by omega) (by omega))
    · refine r_iload_n hX dX5_passesAhead_12 rfl ?_
      refine r_aload_n hX dX5_passesAhead_13 rfl ?_
      refine r_getR hX dX5_passesAhead_14 hs.1 fl_X5_11 hr.1 ?_
      refine r_iload_n hX dX5_passesAhead_17 rfl ?_
      refine r_aaload5N hX dX5_passesAhead_18 hs.2.1 (by omega) (by decide) (hr.2.2.2.1 i (by omega)) ?_
      refine r_aload_n hX dX5_passesAhead_19 rfl ?_
      refine r_getI hX dX5_passesAhead_20 hs.1 fl_X5_45 ?_
      rw [show qI m q 4 = S.1 2 from hV.h 2 (by decide)]
      refine r_iload_n hX dX5_passesAhead_23 rfl ?_
      refine r_iadd hX dX5_passesAhead_24 ?_
      refine r_callV hX dX5_passesAhead_25 (s_X0_passesUpTo E g m (ad i) (S.1 2 + x) (adAt hs hr hi)) ml_X5_102 rfl rfl (adAt hs hr hi) rfl ⟨Nat.le_of_ble_eq_true rfl, Nat.le_of_ble_eq_true rfl⟩ ⟨Nat.le_of_ble_eq_true rfl, Nat.le_of_ble_eq_true rfl, rfl, Nat.le_of_ble_eq_true rfl⟩ (fun v25 g25 m25 hp => ?_)
      obtain ⟨hv, hg, hm⟩ := hp
      subst v25
      subst g25
      subst m25
      rw [hV.c i 2 hi (by decide), hV.c i 3 hi (by decide), hV.c i 1 hi (by decide)]
      refine r_iadd hX dX5_passesAhead_28 ?_
      refine r_istore_n hX dX5_passesAhead_29 (Nat.le_of_ble_eq_true rfl) rfl ?_
      refine r_iinc (v := nI (i + 1)) hX dX5_passesAhead_30 rfl (ii1 i) rfl ?_
      refine r_goto (tgt := 4) hX dX5_passesAhead_33 (by decide) ?_
      exact ih (i + 1) (by omega) K
set_option maxRecDepth 20000 in
set_option maxHeartbeats 4000000 in
theorem s_X5_passesAhead (E : qE) (g : qG) (m : qM) (q : Nat) (x : Int32) (S : kS) (hS : SkyIs g m q S) (n : Nat) (hc : S.1 0 = nI n ∧ n ≤ 6) : Sp E yX5_passesAhead cX5_passesAhead 4 (some .int) 2 0 0 [.ref q, .int x] g m (fun v g' m' => v = some (.int (pAh S x n)) ∧ g' = g ∧ m' = m) := by
  obtain ⟨hs, ad, hr, hV⟩ := hS
  refine Sp.of (by decide) [some (.ref q), some (.int x), none, none] rfl rfl (Nat.le_of_ble_eq_true rfl) (fun X hX => ?_)
  refine r_iconst (v := 0) hX dX5_passesAhead_0 (by decide) ?_
  refine r_istore_n hX dX5_passesAhead_1 (Nat.le_of_ble_eq_true rfl) rfl ?_
  refine r_iconst (v := 0) hX dX5_passesAhead_2 (by decide) ?_
  refine r_istore_n hX dX5_passesAhead_3 (Nat.le_of_ble_eq_true rfl) rfl ?_
  refine s_X5_passesAhead_l hX hs hr hV hc n 0 (Nat.zero_add n) (fun j => ?_)
  refine r_iload_n hX dX5_passesAhead_36 rfl ?_
  exact r_iret hX dX5_passesAhead_37 ⟨rfl, rfl, rfl⟩ ⟨Nat.le_of_ble_eq_true rfl, Nat.le_of_ble_eq_true rfl⟩
/-- how many of the first comets rank before one with brightness b, next day d, id x -/
def rkN (S : kS) (b d x : Int32) : Nat → Nat
  | 0 => 0
  | i + 1 => rkN S b d x i + if cRanks (S.2.1 i 2) (S.2.1 i 3) (S.2.1 i 0) b d x = 0 then 0 else 1
theorem rkN_le (S : kS) (b d x : Int32) : ∀ n, rkN S b d x n ≤ n
  | 0 => Nat.le_refl 0
  | n + 1 => by
    have := rkN_le S b d x n
    unfold rkN
    split <;> omega
set_option maxRecDepth 20000 in
set_option maxHeartbeats 4000000 in
theorem s_X5_rankOf_l {E : qE} {X : qX} {Q : State → Prop} {g : qG} {m : qM} (hX : MC E yX5_rankOf cX5_rankOf 4 (some .int) 1 0 0 [] X) {q c : Nat} {ad : Nat → Nat} (hs : SkySh g q) (hr : SkyR m q ad) {S : kS} (hV : SkyV m q ad S) {n : Nat} (hc : S.1 0 = nI n ∧ n ≤ 6) (hc2 : gAt g c (.inl 4)) : ∀ (k i : Nat), i + k = n → (∀ j : Int32, WS E X 0 0 Q g m 34 [some (.ref q), some (.ref c), some (.int (nI (rkN S (qI m c 2) (qI m c 3) (qI m c 0) n))), some (.int j)] []) → WS E X 0 0 Q g m 4 [some (.ref q), some (.ref c), some (.int (nI (rkN S (qI m c 2) (qI m c 3) (qI m c 0) i))), some (.int (nI i))] [] := by
  intro k
  induction k with
  | zero =>
    intro i hi K
    have hib : i = n := by omega
    subst hib
    refine r_iload_n hX dX5_rankOf_4 rfl ?_
    refine r_aload_n hX dX5_rankOf_5 rfl ?_
    refine r_getI hX dX5_rankOf_6 hs.1 fl_X5_39 ?_
    rw [(hV.h 0 (by decide)).trans hc.1]
    refine r_icmp_ge (tgt := 34) hX dX5_rankOf_9 (by decide) (fun c9 => ?_) (fun c9 => ?_)
    · exact K _
    · exact absurd (nI_le (Nat.le_refl _) (by omega)) c9
  | succ k ih =>
    intro i hi K
    have hi6 : i < 6 := by omega
    have hi := hi
    have hle := rkN_le S (qI m c 2) (qI m c 3) (qI m c 0) i
    have hf : rkN S (qI m c 2) (qI m c 3) (qI m c 0) (i + 1) = rkN S (qI m c 2) (qI m c 3) (qI m c 0) i + if cRanks (S.2.1 i 2) (S.2.1 i 3) (S.2.1 i 0) (qI m c 2) (qI m c 3) (qI m c 0) = 0 then 0 else 1 := rfl
    refine r_iload_n hX dX5_rankOf_4 rfl ?_
    refine r_aload_n hX dX5_rankOf_5 rfl ?_
    refine r_getI hX dX5_rankOf_6 hs.1 fl_X5_39 ?_
    rw [(hV.h 0 (by decide)).trans hc.1]
    refine r_icmp_ge (tgt := 34) hX dX5_rankOf_9 (by decide) (fun c9 => ?_) (fun c9 => ?_)
    · exact absurd c9 (nI_ge (by omega) (by omega))
    · refine r_aload_n hX dX5_rankOf_12 rfl ?_
      refine r_getR hX dX5_rankOf_13 hs.1 fl_X5_11 hr.1 ?_
      refine r_iload_n hX dX5_rankOf_16 rfl ?_
      refine r_aaload5N hX dX5_rankOf_17 hs.2.1 (by omega) (by decide) (hr.2.2.2.1 i (by omega)) ?_
      refine r_aload_n hX dX5_rankOf_18 rfl ?_
      refine r_callV hX dX5_rankOf_19 (s_X0_ranksBefore E g m (ad i) c (adAt hs hr hi6) hc2) ml_X5_109 rfl rfl (adAt hs hr hi6) rfl ⟨Nat.le_of_ble_eq_true rfl, Nat.le_of_ble_eq_true rfl⟩ ⟨Nat.le_of_ble_eq_true rfl, Nat.le_of_ble_eq_true rfl, rfl, Nat.le_of_ble_eq_true rfl⟩ (fun v19 g19 m19 hp => ?_)
      obtain ⟨hv, hg, hm⟩ := hp
      subst v19
      subst g19
      subst m19
      rw [hV.c i 2 hi6 (by decide), hV.c i 3 hi6 (by decide), hV.c i 0 hi6 (by decide)]
      refine r_if_eq (tgt := 28) hX dX5_rankOf_22 (by decide) (fun c22 => ?_) (fun c22 => ?_)
      · refine r_iinc (v := nI (i + 1)) hX dX5_rankOf_28 rfl (ii1 i) rfl ?_
        refine r_goto (tgt := 4) hX dX5_rankOf_31 (by decide) ?_
        have h9 := ih (i + 1) (by omega) K
        first
        | rw [hf, if_pos c22] at h9; exact h9
        | rw [hf, if_neg c22] at h9; exact h9
      · refine r_iinc (v := nI (rkN S (qI m c 2) (qI m c 3) (qI m c 0) i + 1)) hX dX5_rankOf_25 rfl (ii1 _) rfl ?_
        refine r_iinc (v := nI (i + 1)) hX dX5_rankOf_28 rfl (ii1 i) rfl ?_
        refine r_goto (tgt := 4) hX dX5_rankOf_31 (by decide) ?_
        have h9 := ih (i + 1) (by omega) K
        first
        | rw [hf, if_pos c22] at h9; exact h9
        | rw [hf, if_neg c22] at h9; exact h9
set_option maxRecDepth 20000 in
set_option maxHeartbeats 4000000 in
theorem s_X5_rankOf (E : qE) (g : qG) (m : qM) (q c : Nat) (hs : SkySh g q) (ad : Nat → Nat) (hr : SkyR m q ad) (S : kS) (hV : SkyV m q ad S) (n : Nat) (hc : S.1 0 = nI n ∧ n ≤ 6) (hc2 : gAt g c (.inl 4)) : Sp E yX5_rankOf cX5_rankOf 4 (some .int) 1 0 0 [.ref q, .ref c] g m (fun v g' m' => v = some (.int (nI (rkN S (qI m c 2) (qI m c 3) (qI m c 0) n))) ∧ g' = g ∧ m' = m) := by
  refine Sp.of (by decide) [some (.ref q), some (.ref c), none, none] rfl rfl (Nat.le_of_ble_eq_true rfl) (fun X hX => ?_)
  refine r_iconst (v := 0) hX dX5_rankOf_0 (by decide) ?_
  refine r_istore_n hX dX5_rankOf_1 (Nat.le_of_ble_eq_true rfl) rfl ?_
  refine r_iconst (v := 0) hX dX5_rankOf_2 (by decide) ?_
  refine r_istore_n hX dX5_rankOf_3 (Nat.le_of_ble_eq_true rfl) rfl ?_
  refine s_X5_rankOf_l hX hs hr hV hc hc2 n 0 (Nat.zero_add n) (fun j => ?_)
  refine r_iload_n hX dX5_rankOf_34 rfl ?_
  exact r_iret hX dX5_rankOf_35 ⟨rfl, rfl, rfl⟩ ⟨Nat.le_of_ble_eq_true rfl, Nat.le_of_ble_eq_true rfl⟩
def rkI (S : kS) (n i : Nat) : Int32 := nI (rkN S (S.2.1 i 2) (S.2.1 i 3) (S.2.1 i 0) n)
def idRk (S : kS) (n : Nat) (x : Int32) : Int32 := match slotF (rkI S n) x 0 n with
  | some i => S.2.1 i 0
  | none => -1
set_option maxRecDepth 20000 in
set_option maxHeartbeats 4000000 in
theorem s_X5_idAtRank_l {E : qE} {X : qX} {Q : State → Prop} {g : qG} {m : qM} (hX : MC E yX5_idAtRank cX5_idAtRank 3 (some .int) 2 0 0 [] X) {q : Nat} {x : Int32} {ad : Nat → Nat} (hs : SkySh g q) (hr : SkyR m q ad) {S : kS} (hV : SkyV m q ad S) {n : Nat} (hc : S.1 0 = nI n ∧ n ≤ 6) : ∀ (k i : Nat), i + k = n → (slotF (rkI S n) x i k = none → ∀ j : Int32, WS E X 0 0 Q g m 40 [some (.ref q), some (.int x), some (.int j)] []) → (∀ j : Nat, slotF (rkI S n) x i k = some j → WS E X 0 0 Q g m 24 [some (.ref q), some (.int x), some (.int (nI j))] []) → WS E X 0 0 Q g m 2 [some (.ref q), some (.int x), some (.int (nI i))] [] := by
  intro k
  induction k with
  | zero =>
    intro i hi K K2
    have hib : i = n := by omega
    subst hib
    refine r_iload_n hX dX5_idAtRank_2 rfl ?_
    refine r_aload_n hX dX5_idAtRank_3 rfl ?_
    refine r_getI hX dX5_idAtRank_4 hs.1 fl_X5_39 ?_
    rw [(hV.h 0 (by decide)).trans hc.1]
    refine r_icmp_ge (tgt := 40) hX dX5_idAtRank_7 (by decide) (fun c7 => ?_) (fun c7 => ?_)
    · exact K rfl _
    · exact absurd (nI_le (Nat.le_refl _) (by omega)) c7
  | succ k ih =>
    intro i hi K K2
    have hi6 : i < 6 := by omega
    have hf : slotF (rkI S n) x i (k + 1) = if rkI S n i = x then some i else slotF (rkI S n) x (i + 1) k := rfl
    refine r_iload_n hX dX5_idAtRank_2 rfl ?_
    refine r_aload_n hX dX5_idAtRank_3 rfl ?_
    refine r_getI hX dX5_idAtRank_4 hs.1 fl_X5_39 ?_
    rw [(hV.h 0 (by decide)).trans hc.1]
    refine r_icmp_ge (tgt := 40) hX dX5_idAtRank_7 (by decide) (fun c7 => ?_) (fun c7 => ?_)
    · exact absurd c7 (nI_ge (by omega) (by omega))
    · refine r_aload_n hX dX5_idAtRank_10 rfl ?_
      refine r_aload_n hX dX5_idAtRank_11 rfl ?_
      refine r_getR hX dX5_idAtRank_12 hs.1 fl_X5_11 hr.1 ?_
      refine r_iload_n hX dX5_idAtRank_15 rfl ?_
      refine r_aaload5N hX dX5_idAtRank_16 hs.2.1 (by omega) (by decide) (hr.2.2.2.1 i (by omega)) ?_
      refine r_callV hX dX5_idAtRank_17 (s_X5_rankOf E g m q (ad i) hs ad hr S hV n hc (adAt hs hr hi6)) ml_X5_105 rfl rfl hs.1 rfl ⟨Nat.le_of_ble_eq_true rfl, Nat.le_of_ble_eq_true rfl⟩ ⟨Nat.le_of_ble_eq_true rfl, Nat.le_of_ble_eq_true rfl, rfl, Nat.le_of_ble_eq_true rfl⟩ (fun v17 g17 m17 hp => ?_)
      obtain ⟨hv, hg, hm⟩ := hp
      subst v17
      subst g17
      subst m17
      rw [hV.c i 2 hi6 (by decide), hV.c i 3 hi6 (by decide), hV.c i 0 hi6 (by decide), show nI (rkN S (S.2.1 i 2) (S.2.1 i 3) (S.2.1 i 0) n) = rkI S n i from rfl]
      refine r_iload_n hX dX5_idAtRank_20 rfl ?_
      refine r_icmp_ne (tgt := 34) hX dX5_idAtRank_21 (by decide) (fun c21 => ?_) (fun c21 => ?_)
      · refine r_iinc (v := nI (i + 1)) hX dX5_idAtRank_34 rfl (ii1 i) rfl ?_
        refine r_goto (tgt := 2) hX dX5_idAtRank_37 (by decide) ?_
        exact ih (i + 1) (by omega) (fun h => K (by rw [hf, if_neg c21]; exact h)) (fun j h => K2 j (by rw [hf, if_neg c21]; exact h))
      · exact K2 i (by rw [hf, if_pos c21])
set_option maxRecDepth 20000 in
set_option maxHeartbeats 4000000 in
theorem s_X5_idAtRank (E : qE) (g : qG) (m : qM) (q : Nat) (x : Int32) (S : kS) (hS : SkyIs g m q S) (n : Nat) (hc : S.1 0 = nI n ∧ n ≤ 6) : Sp E yX5_idAtRank cX5_idAtRank 3 (some .int) 2 0 0 [.ref q, .int x] g m (fun v g' m' => v = some (.int (idRk S n x)) ∧ g' = g ∧ m' = m) := by
  obtain ⟨hs, ad, hr, hV⟩ := hS
  refine Sp.of (by decide) [some (.ref q), some (.int x), none] rfl rfl (Nat.le_of_ble_eq_true rfl) (fun X hX => ?_)
  refine r_iconst (v := 0) hX dX5_idAtRank_0 (by decide) ?_
  refine r_istore_n hX dX5_idAtRank_1 (Nat.le_of_ble_eq_true rfl) rfl ?_
  refine s_X5_idAtRank_l hX hs hr hV hc n 0 (Nat.zero_add n) (fun h j => ?_) (fun j h => ?_)
  · refine r_iconst (v := -1) hX dX5_idAtRank_40 (by decide) ?_
    exact r_iret hX dX5_idAtRank_41 ⟨by unfold idRk; rw [h], rfl, rfl⟩ ⟨Nat.le_of_ble_eq_true rfl, Nat.le_of_ble_eq_true rfl⟩
  · have hj := slotF_some h
    have hj6 : j < 6 := by omega
    refine r_aload_n hX dX5_idAtRank_24 rfl ?_
    refine r_getR hX dX5_idAtRank_25 hs.1 fl_X5_11 hr.1 ?_
    refine r_iload_n hX dX5_idAtRank_28 rfl ?_
    refine r_aaload5N hX dX5_idAtRank_29 hs.2.1 (by omega) (by decide) (hr.2.2.2.1 j (by omega)) ?_
    refine r_getI hX dX5_idAtRank_30 (adAt hs hr hj6) fl_X5_58 ?_
    rw [hV.c j 0 hj6 (by decide)]
    exact r_iret hX dX5_idAtRank_33 ⟨by unfold idRk; rw [h], rfl, rfl⟩ ⟨Nat.le_of_ble_eq_true rfl, Nat.le_of_ble_eq_true rfl⟩
def ahd (S : kS) : Nat → Nat → Bool
  | _, 0 => true
  | i, n + 1 => if S.1 2 < S.2.1 i 3 then ahd S (i + 1) n else false
set_option maxRecDepth 20000 in
set_option maxHeartbeats 4000000 in
theorem s_X5_ahead_l {E : qE} {X : qX} {Q : State → Prop} {g : qG} {m : qM} (hX : MC E yX5_allPassesAreAhead cX5_allPassesAreAhead 2 (some .boolean) 0 0 0 [] X) {q : Nat} {ad : Nat → Nat} (hs : SkySh g q) (hr : SkyR m q ad) {S : kS} (hV : SkyV m q ad S) {n : Nat} (hc : S.1 0 = nI n ∧ n ≤ 6) : ∀ (k i : Nat), i + k = n → (ahd S i k = true → ∀ j : Int32, WS E X 0 0 Q g m 34 [some (.ref q), some (.int j)] []) → (∀ j : Int32, ahd S i k = false → WS E X 0 0 Q g m 26 [some (.ref q), some (.int j)] []) → WS E X 0 0 Q g m 2 [some (.ref q), some (.int (nI i))] [] := by
  intro k
  induction k with
  | zero =>
    intro i hi K K2
    have hib : i = n := by omega
    subst hib
    refine r_iload_n hX dX5_allPassesAreAhead_2 rfl ?_
    refine r_aload_n hX dX5_allPassesAreAhead_3 rfl ?_
    refine r_getI hX dX5_allPassesAreAhead_4 hs.1 fl_X5_39 ?_
    rw [(hV.h 0 (by decide)).trans hc.1]
    refine r_icmp_ge (tgt := 34) hX dX5_allPassesAreAhead_7 (by decide) (fun c7 => ?_) (fun c7 => ?_)
    · exact K rfl _
    · exact absurd (nI_le (Nat.le_refl _) (by omega)) c7
  | succ k ih =>
    intro i hi K K2
    have hi6 : i < 6 := by omega
    have hf : ahd S i (k + 1) = if S.1 2 < S.2.1 i 3 then ahd S (i + 1) k else false := rfl
    refine r_iload_n hX dX5_allPassesAreAhead_2 rfl ?_
    refine r_aload_n hX dX5_allPassesAreAhead_3 rfl ?_
    refine r_getI hX dX5_allPassesAreAhead_4 hs.1 fl_X5_39 ?_
    rw [(hV.h 0 (by decide)).trans hc.1]
    refine r_icmp_ge (tgt := 34) hX dX5_allPassesAreAhead_7 (by decide) (fun c7 => ?_) (fun c7 => ?_)
    · exact absurd c7 (nI_ge (by omega) (by omega))
    · refine r_aload_n hX dX5_allPassesAreAhead_10 rfl ?_
      refine r_getR hX dX5_allPassesAreAhead_11 hs.1 fl_X5_11 hr.1 ?_
      refine r_iload_n hX dX5_allPassesAreAhead_14 rfl ?_
      refine r_aaload5N hX dX5_allPassesAreAhead_15 hs.2.1 (by omega) (by decide) (hr.2.2.2.1 i (by omega)) ?_
      refine r_getI hX dX5_allPassesAreAhead_16 (adAt hs hr hi6) fl_X5_67 ?_
      rw [hV.c i 3 hi6 (by decide)]
      refine r_aload_n hX dX5_allPassesAreAhead_19 rfl ?_
      refine r_getI hX dX5_allPassesAreAhead_20 hs.1 fl_X5_45 ?_
      rw [show qI m q 4 = S.1 2 from hV.h 2 (by decide)]
      refine r_icmp_gt (tgt := 28) hX dX5_allPassesAreAhead_23 (by decide) (fun c23 => ?_) (fun c23 => ?_)
      · refine r_iinc (v := nI (i + 1)) hX dX5_allPassesAreAhead_28 rfl (ii1 i) rfl ?_
        refine r_goto (tgt := 2) hX dX5_allPassesAreAhead_31 (by decide) ?_
        exact ih (i + 1) (by omega) (fun h => K (by rw [hf, if_pos c23]; exact h)) (fun j h => K2 j (by rw [hf, if_pos c23]; exact h))
      · exact K2 _ (by rw [hf, if_neg c23])
set_option maxRecDepth 20000 in
set_option maxHeartbeats 4000000 in
theorem s_X5_ahead (E : qE) (g : qG) (m : qM) (q : Nat) (S : kS) (hS : SkyIs g m q S) (n : Nat) (hc : S.1 0 = nI n ∧ n ≤ 6) : Sp E yX5_allPassesAreAhead cX5_allPassesAreAhead 2 (some .boolean) 0 0 0 [.ref q] g m (fun v g' m' => v = some (.int (if ahd S 0 n = true then 1 else 0)) ∧ g' = g ∧ m' = m) := by
  obtain ⟨hs, ad, hr, hV⟩ := hS
  refine Sp.of (by decide) [some (.ref q), none] rfl rfl (Nat.le_of_ble_eq_true rfl) (fun X hX => ?_)
  refine r_iconst (v := 0) hX dX5_allPassesAreAhead_0 (by decide) ?_
  refine r_istore_n hX dX5_allPassesAreAhead_1 (Nat.le_of_ble_eq_true rfl) rfl ?_
  refine s_X5_ahead_l hX hs hr hV hc n 0 (Nat.zero_add n) (fun h j => ?_) (fun j h => ?_)
  · refine r_iconst (v := 1) hX dX5_allPassesAreAhead_34 (by decide) ?_
    exact r_zret hX dX5_allPassesAreAhead_35 rfl ⟨by rw [if_pos h], rfl, rfl⟩ ⟨Nat.le_of_ble_eq_true rfl, Nat.le_of_ble_eq_true rfl⟩
  · refine r_iconst (v := 0) hX dX5_allPassesAreAhead_26 (by decide) ?_
    exact r_zret hX dX5_allPassesAreAhead_27 rfl ⟨by rw [if_neg (by rw [h]; decide)], rfl, rfl⟩ ⟨Nat.le_of_ble_eq_true rfl, Nat.le_of_ble_eq_true rfl⟩
