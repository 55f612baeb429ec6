/-! ===== floorMod; CometObservatory.Meetings; tailAt ===== -/
def okZ : Option Value → Bool
  | some v => v.category == 1
  | none => true
set_option maxRecDepth 20000 in
set_option maxHeartbeats 4000000 in
theorem s_floorMod (E : qE) (g : qG) (m : qM) (x y1 : Int32) (hy : ¬ y1 = 0) : Sp E yJ9_floorMod_7cf53 cJ9_floorMod_7cf53 3 (some .int) 0 0 0 [.int x, .int y1] g m (fun v g' m' => v = some (.int (fMod x y1)) ∧ g' = g ∧ m' = m) := by
  refine Sp.ofF (by decide +kernel) [some (.int x), some (.int y1), none] rfl rfl (Nat.le_of_ble_eq_true rfl) (fun X hX => ?_)
  refine r_iload_n hX dJ9_floorMod_7cf53_0 rfl ?_
  refine r_iload_n hX dJ9_floorMod_7cf53_1 rfl ?_
  refine r_irem hX dJ9_floorMod_7cf53_2 hy ?_
  refine r_istore_n hX dJ9_floorMod_7cf53_3 (Nat.le_of_ble_eq_true rfl) rfl ?_
  refine r_iload_n hX dJ9_floorMod_7cf53_4 rfl ?_
  refine r_iload_n hX dJ9_floorMod_7cf53_5 rfl ?_
  refine r_ixor hX dJ9_floorMod_7cf53_6 ?_
  refine r_if_ge (tgt := 18) hX dJ9_floorMod_7cf53_7 (by decide) (fun c7 => ?_) (fun c7 => ?_)
  · refine r_iload_n hX dJ9_floorMod_7cf53_18 rfl ?_
    exact r_iret hX dJ9_floorMod_7cf53_19 ⟨by unfold fMod; rw [if_pos c7], rfl, rfl⟩ ⟨Nat.le_of_ble_eq_true rfl, Nat.le_of_ble_eq_true rfl⟩
  · refine r_iload_n hX dJ9_floorMod_7cf53_10 rfl ?_
    refine r_if_eq (tgt := 18) hX dJ9_floorMod_7cf53_11 (by decide) (fun c11 => ?_) (fun c11 => ?_)
    · refine r_iload_n hX dJ9_floorMod_7cf53_18 rfl ?_
      exact r_iret hX dJ9_floorMod_7cf53_19 ⟨by unfold fMod; rw [if_neg c7, if_pos c11], rfl, rfl⟩ ⟨Nat.le_of_ble_eq_true rfl, Nat.le_of_ble_eq_true rfl⟩
    · refine r_iload_n hX dJ9_floorMod_7cf53_14 rfl ?_
      refine r_iload_n hX dJ9_floorMod_7cf53_15 rfl ?_
      refine r_iadd hX dJ9_floorMod_7cf53_16 ?_
      exact r_iret hX dJ9_floorMod_7cf53_17 ⟨by unfold fMod; rw [if_neg c7, if_neg c11], rfl, rfl⟩ ⟨Nat.le_of_ble_eq_true rfl, Nat.le_of_ble_eq_true rfl⟩
set_option maxRecDepth 20000 in
set_option maxHeartbeats 4000000 in
theorem s_X7_tailAt (E : qE) (g : qG) (m : qM) (x : Int32) : Sp E yX7_tailAt cX7_tailAt 1 (some .int) 0 0 0 [.int x] g m (fun v g' m' => v = some (.int (1 + x / 5)) ∧ g' = g ∧ m' = m) := by
  refine Sp.of (by decide) [some (.int x)] rfl rfl (Nat.le_of_ble_eq_true rfl) (fun X hX => ?_)
  refine r_iconst (v := 1) hX dX7_tailAt_0 (by decide) ?_
  refine r_iload_n hX dX7_tailAt_1 rfl ?_
  refine r_iconst (v := 5) hX dX7_tailAt_2 (by decide) ?_
  refine r_idiv hX dX7_tailAt_3 (by decide) ?_
  refine r_iadd hX dX7_tailAt_4 ?_
  exact r_iret hX dX7_tailAt_5 ⟨rfl, rfl, rfl⟩ ⟨Nat.le_of_ble_eq_true rfl, Nat.le_of_ble_eq_true rfl⟩
def gcdC (s : Int64 × Int64) : Bool := decide (0 < s.2)
def gcdS (s : Int64 × Int64) : Int64 × Int64 := (s.2, s.1 - s.1 / s.2 * s.2)
def gcdL (a b : Int64) : Int64 := (itr gcdC gcdS 100 (a, b)).1
theorem gcdC_f {a b : Int64} (h : lg_cmp b 0 ≤ 0) : ¬ gcdC (a, b) = true := by
  have := (lg_cmp_le b 0).mp h
  simp only [gcdC, decide_eq_true_eq]
  exact Int64.not_lt.mpr this
theorem gcdC_t {a b : Int64} (h : ¬ lg_cmp b 0 ≤ 0) : gcdC (a, b) = true := by
  have : ¬ b ≤ 0 := fun q => h ((lg_cmp_le b 0).mpr q)
  simp only [gcdC, decide_eq_true_eq]
  exact Int64.not_le.mp this
theorem ne0L {b : Int64} (h : ¬ lg_cmp b 0 ≤ 0) : ¬ b = 0 := fun q => h (by rw [q]; decide)
theorem h100 {i : Nat} (h : i = 100) : (100 : Int32) ≤ nI i := by rw [h]; decide
theorem l100 {i : Nat} (h : i < 100) : ¬ (100 : Int32) ≤ nI i := nI_ge (b := 100) h (by decide)
set_option maxRecDepth 20000 in
set_option maxHeartbeats 4000000 in
theorem s_X2_commonDivisor_l {E : qE} {X : qX} {cN sN : Nat} {Q : State → Prop} {g : qG} {m : qM} (hX : MC E yX2_commonDivisor cX2_commonDivisor 7 (some .long) 0 0 0 [] X) : ∀ (n i : Nat) (a b : Int64) (z : Option Value), i + n = 100 → (∀ (b1 : Int64) (j : Int32) (z1 : Option Value), WS E X cN sN Q g m 32 [some (.long (itr gcdC gcdS n (a, b)).1), none, some (.long b1), none, some (.int j), z1, none] []) → WS E X cN sN Q g m 3 [some (.long a), none, some (.long b), none, some (.int (nI i)), z, none] [] := by
  intro n
  induction n with
  | zero =>
    intro i a b z hi K
    refine r_iload hX dX2_commonDivisor_3 rfl ?_
    refine r_bipush (v := 100) hX dX2_commonDivisor_5 (by decide) ?_
    refine r_icmp_ge (tgt := 32) hX dX2_commonDivisor_7 (by decide) (fun c7 => ?_) (fun c7 => ?_)
    · exact K _ _ _
    · exact absurd (h100 hi) c7
  | succ n ih =>
    intro i a b z hi K
    refine r_iload hX dX2_commonDivisor_3 rfl ?_
    refine r_bipush (v := 100) hX dX2_commonDivisor_5 (by decide) ?_
    refine r_icmp_ge (tgt := 32) hX dX2_commonDivisor_7 (by decide) (fun c7 => ?_) (fun c7 => ?_)
    · exact absurd c7 (l100 (by omega))
    · refine r_lload_n hX dX2_commonDivisor_10 rfl ?_
      refine r_lconst (v := 0) hX dX2_commonDivisor_11 (by decide) ?_
      refine r_lcmp hX dX2_commonDivisor_12 ?_
      refine r_if_le (tgt := 32) hX dX2_commonDivisor_13 (by decide) (fun c13 => ?_) (fun c13 => ?_)
      · rw [itr_f (gcdC_f c13)] at K
        exact K _ _ _
      · refine r_lload_n hX dX2_commonDivisor_16 rfl ?_
        refine r_lload_n hX dX2_commonDivisor_17 rfl ?_
        refine r_lrem hX dX2_commonDivisor_18 (ne0L c13) ?_
        refine r_lstore hX dX2_commonDivisor_19 (Nat.le_of_ble_eq_true rfl) rfl ?_
        refine r_lload_n hX dX2_commonDivisor_21 rfl ?_
        refine r_lstore_n hX dX2_commonDivisor_22 (Nat.le_of_ble_eq_true rfl) rfl ?_
        refine r_lload hX dX2_commonDivisor_23 rfl ?_
        refine r_lstore_n hX dX2_commonDivisor_25 (Nat.le_of_ble_eq_true rfl) rfl ?_
        refine r_iinc (v := nI (i + 1)) hX dX2_commonDivisor_26 rfl (ii1 i) rfl ?_
        refine r_goto (tgt := 3) hX dX2_commonDivisor_29 (by decide) ?_
        rw [itr_t (gcdC_t c13)] at K
        exact ih (i + 1) _ _ _ (by omega) K
set_option maxRecDepth 20000 in
set_option maxHeartbeats 4000000 in
theorem s_X2_commonDivisor (E : qE) (g : qG) (m : qM) (a b : Int64) : Sp E yX2_commonDivisor cX2_commonDivisor 7 (some .long) 0 0 0 [.long a, .long b] g m (fun v g' m' => v = some (.long (gcdL a b)) ∧ g' = g ∧ m' = m) := by
  refine Sp.of (by decide) [some (.long a), none, some (.long b), none, none, none, none] rfl rfl (Nat.le_of_ble_eq_true rfl) (fun X hX => ?_)
  refine r_iconst (v := 0) hX dX2_commonDivisor_0 (by decide) ?_
  refine r_istore hX dX2_commonDivisor_1 (Nat.le_of_ble_eq_true rfl) rfl ?_
  refine s_X2_commonDivisor_l hX 100 0 a b none rfl (fun b1 j z1 => ?_)
  refine r_lload_n hX dX2_commonDivisor_32 rfl ?_
  exact r_lret hX dX2_commonDivisor_33 ⟨rfl, rfl, rfl⟩ ⟨Nat.le_of_ble_eq_true rfl, Nat.le_of_ble_eq_true rfl⟩
def lcmL (a b : Int64) : Int64 := if 0 ≤ lg_cmp (gcdL a b) 1 then a / gcdL a b * b else a
set_option maxRecDepth 20000 in
set_option maxHeartbeats 4000000 in
theorem s_X2_commonMultiple (E : qE) (g : qG) (m : qM) (a b : Int64) : Sp E yX2_commonMultiple cX2_commonMultiple 6 (some .long) 1 0 0 [.long a, .long b] g m (fun v g' m' => v = some (.long (lcmL a b)) ∧ g' = g ∧ m' = m) := by
  refine Sp.of (by decide) [some (.long a), none, some (.long b), none, none, none] rfl rfl (Nat.le_of_ble_eq_true rfl) (fun X hX => ?_)
  refine r_lload_n hX dX2_commonMultiple_0 rfl ?_
  refine r_lload_n hX dX2_commonMultiple_1 rfl ?_
  refine r_callS hX dX2_commonMultiple_2 (s_X2_commonDivisor E g m a b) ml_X2_24 rfl rfl ⟨Nat.le_of_ble_eq_true rfl, Nat.le_of_ble_eq_true rfl⟩ ⟨Nat.le_of_ble_eq_true rfl, Nat.le_of_ble_eq_true rfl, rfl, Nat.le_of_ble_eq_true rfl⟩ (fun v2 g2 m2 hp => ?_)
  obtain ⟨hv, hg, hm⟩ := hp
  subst v2
  subst g2
  subst m2
  refine r_lstore hX dX2_commonMultiple_5 (Nat.le_of_ble_eq_true rfl) rfl ?_
  refine r_lload hX dX2_commonMultiple_7 rfl ?_
  refine r_lconst (v := 1) hX dX2_commonMultiple_9 (by decide) ?_
  refine r_lcmp hX dX2_commonMultiple_10 ?_
  refine r_if_ge (tgt := 18) hX dX2_commonMultiple_11 (by decide) (fun c11 => ?_) (fun c11 => ?_)
  · refine r_lload_n hX dX2_commonMultiple_18 rfl ?_
    refine r_lload hX dX2_commonMultiple_19 rfl ?_
    refine r_ldiv hX dX2_commonMultiple_21 (fun q => absurd (q ▸ c11) (by decide)) ?_
    refine r_lload_n hX dX2_commonMultiple_22 rfl ?_
    refine r_lmul hX dX2_commonMultiple_23 ?_
    exact r_lret hX dX2_commonMultiple_24 ⟨by unfold lcmL; rw [if_pos c11], rfl, rfl⟩ ⟨Nat.le_of_ble_eq_true rfl, Nat.le_of_ble_eq_true rfl⟩
  · refine r_lload_n hX dX2_commonMultiple_14 rfl ?_
    refine r_goto (tgt := 24) hX dX2_commonMultiple_15 (by decide) ?_
    exact r_lret hX dX2_commonMultiple_24 ⟨by unfold lcmL; rw [if_neg c11], rfl, rfl⟩ ⟨Nat.le_of_ble_eq_true rfl, Nat.le_of_ble_eq_true rfl⟩
abbrev fdT : Type := Int32 × Int32 × Int32 × Int32
def fdC (s : fdT) : Bool := decide (0 < s.2.1)
def fdS (s : fdT) : fdT := (s.2.1, s.1 - s.1 / s.2.1 * s.2.1, s.2.2.2, s.2.2.1 - s.1 / s.2.1 * s.2.2.2)
def facL (a b : Int32) : Int32 := (itr fdC fdS 100 (a, b, 1, 0)).2.2.1
theorem fdC_f {a b c d : Int32} (h : b ≤ 0) : ¬ fdC (a, b, c, d) = true := by simp only [fdC, decide_eq_true_eq]; exact Int32.not_lt.mpr h
theorem fdC_t {a b c d : Int32} (h : ¬ b ≤ 0) : fdC (a, b, c, d) = true := by simp only [fdC, decide_eq_true_eq]; exact Int32.not_le.mp h
theorem ne0I {b : Int32} (h : ¬ b ≤ 0) : ¬ b = 0 := fun q => h (by rw [q]; decide)
set_option maxRecDepth 20000 in
set_option maxHeartbeats 4000000 in
theorem s_X2_factorOfDivisor_l {E : qE} {X : qX} {cN sN : Nat} {Q : State → Prop} {g : qG} {m : qM} (hX : MC E yX2_factorOfDivisor cX2_factorOfDivisor 8 (some .int) 0 0 0 [] X) : ∀ (n i : Nat) (a b f f2 : Int32) (z1 z2 z3 : Option Value), okZ z1 = true → okZ z2 = true → i + n = 100 → (∀ (a1 b1 c1 j : Int32) (y1 y2 y3 : Option Value), WS E X cN sN Q g m 52 [some (.int a1), some (.int b1), some (.int (itr fdC fdS n (a, b, f, f2)).2.2.1), some (.int c1), some (.int j), y1, y2, y3] []) → WS E X cN sN Q g m 7 [some (.int a), some (.int b), some (.int f), some (.int f2), some (.int (nI i)), z1, z2, z3] [] := by
  intro n
  induction n with
  | zero =>
    intro i a b f f2 z1 z2 z3 k1 k2 hi K
    refine r_iload hX dX2_factorOfDivisor_7 rfl ?_
    refine r_bipush (v := 100) hX dX2_factorOfDivisor_9 (by decide) ?_
    refine r_icmp_ge (tgt := 52) hX dX2_factorOfDivisor_11 (by decide) (fun c11 => ?_) (fun c11 => ?_)
    · exact K _ _ _ _ _ _ _
    · exact absurd (h100 hi) c11
  | succ n ih =>
    intro i a b f f2 z1 z2 z3 k1 k2 hi K
    refine r_iload hX dX2_factorOfDivisor_7 rfl ?_
    refine r_bipush (v := 100) hX dX2_factorOfDivisor_9 (by decide) ?_
    refine r_icmp_ge (tgt := 52) hX dX2_factorOfDivisor_11 (by decide) (fun c11 => ?_) (fun c11 => ?_)
    · exact absurd c11 (l100 (by omega))
    · refine r_iload_n hX dX2_factorOfDivisor_14 rfl ?_
      refine r_if_le (tgt := 52) hX dX2_factorOfDivisor_15 (by decide) (fun c15 => ?_) (fun c15 => ?_)
      · rw [itr_f (fdC_f c15)] at K
        exact K _ _ _ _ _ _ _
      · refine r_iload_n hX dX2_factorOfDivisor_18 rfl ?_
        refine r_iload_n hX dX2_factorOfDivisor_19 rfl ?_
        refine r_idiv hX dX2_factorOfDivisor_20 (ne0I c15) ?_
        refine r_istore hX dX2_factorOfDivisor_21 (Nat.le_of_ble_eq_true rfl) rfl ?_
        refine r_iload_n hX dX2_factorOfDivisor_23 rfl ?_
        refine r_iload_n hX dX2_factorOfDivisor_24 rfl ?_
        refine r_irem hX dX2_factorOfDivisor_25 (ne0I c15) ?_
        refine r_istore hX dX2_factorOfDivisor_26 (Nat.le_of_ble_eq_true rfl) rfl ?_
        refine r_iload_n hX dX2_factorOfDivisor_28 rfl ?_
        refine r_istore_n hX dX2_factorOfDivisor_29 (Nat.le_of_ble_eq_true rfl) rfl ?_
        refine r_iload hX dX2_factorOfDivisor_30 rfl ?_
        refine r_istore_n hX dX2_factorOfDivisor_32 (Nat.le_of_ble_eq_true rfl) rfl ?_
        refine r_iload_n hX dX2_factorOfDivisor_33 rfl ?_
        refine r_iload hX dX2_factorOfDivisor_34 rfl ?_
        refine r_iload_n hX dX2_factorOfDivisor_36 rfl ?_
        refine r_imul hX dX2_factorOfDivisor_37 ?_
        refine r_isub hX dX2_factorOfDivisor_38 ?_
        refine r_istore hX dX2_factorOfDivisor_39 (Nat.le_of_ble_eq_true rfl) rfl ?_
        refine r_iload_n hX dX2_factorOfDivisor_41 rfl ?_
        refine r_istore_n hX dX2_factorOfDivisor_42 (Nat.le_of_ble_eq_true rfl) rfl ?_
        refine r_iload hX dX2_factorOfDivisor_43 rfl ?_
        refine r_istore_n hX dX2_factorOfDivisor_45 (Nat.le_of_ble_eq_true rfl) rfl ?_
        refine r_iinc (v := nI (i + 1)) hX dX2_factorOfDivisor_46 rfl (ii1 i) rfl ?_
        refine r_goto (tgt := 7) hX dX2_factorOfDivisor_49 (by decide) ?_
        rw [itr_t (fdC_t c15)] at K
        exact ih (i + 1) _ _ _ _ _ _ _ rfl rfl (by omega) K
set_option maxRecDepth 20000 in
set_option maxHeartbeats 4000000 in
theorem s_X2_factorOfDivisor (E : qE) (g : qG) (m : qM) (a b : Int32) : Sp E yX2_factorOfDivisor cX2_factorOfDivisor 8 (some .int) 0 0 0 [.int a, .int b] g m (fun v g' m' => v = some (.int (facL a b)) ∧ g' = g ∧ m' = m) := by
  refine Sp.of (by decide) [some (.int a), some (.int b), none, none, none, none, none, none] rfl rfl (Nat.le_of_ble_eq_true rfl) (fun X hX => ?_)
  refine r_iconst (v := 1) hX dX2_factorOfDivisor_0 (by decide) ?_
  refine r_istore_n hX dX2_factorOfDivisor_1 (Nat.le_of_ble_eq_true rfl) rfl ?_
  refine r_iconst (v := 0) hX dX2_factorOfDivisor_2 (by decide) ?_
  refine r_istore_n hX dX2_factorOfDivisor_3 (Nat.le_of_ble_eq_true rfl) rfl ?_
  refine r_iconst (v := 0) hX dX2_factorOfDivisor_4 (by decide) ?_
  refine r_istore hX dX2_factorOfDivisor_5 (Nat.le_of_ble_eq_true rfl) rfl ?_
  refine s_X2_factorOfDivisor_l hX 100 0 a b 1 0 none none none rfl rfl rfl (fun a1 b1 c1 j y1 y2 y3 => ?_)
  refine r_iload_n hX dX2_factorOfDivisor_52 rfl ?_
  exact r_iret hX dX2_factorOfDivisor_53 ⟨rfl, rfl, rfl⟩ ⟨Nat.le_of_ble_eq_true rfl, Nat.le_of_ble_eq_true rfl⟩
def notB (x y1 z : Int32) : Int32 := if x ≤ y1 then y1 else if 1 ≤ z then x + fMod (y1 - x) z else y1
set_option maxRecDepth 20000 in
set_option maxHeartbeats 4000000 in
theorem s_X2_notBefore (E : qE) (g : qG) (m : qM) (x y1 z : Int32) : Sp E yX2_notBefore cX2_notBefore 3 (some .int) 1 0 0 [.int x, .int y1, .int z] g m (fun v g' m' => v = some (.int (notB x y1 z)) ∧ g' = g ∧ m' = m) := by
  refine Sp.of (by decide) [some (.int x), some (.int y1), some (.int z)] rfl rfl (Nat.le_of_ble_eq_true rfl) (fun X hX => ?_)
  refine r_iload_n hX dX2_notBefore_0 rfl ?_
  refine r_iload_n hX dX2_notBefore_1 rfl ?_
  refine r_icmp_ge (tgt := 10) hX dX2_notBefore_2 (by decide) (fun c2 => ?_) (fun c2 => ?_)
  · refine r_iload_n hX dX2_notBefore_10 rfl ?_
    exact r_iret hX dX2_notBefore_11 ⟨by unfold notB; rw [if_pos c2], rfl, rfl⟩ ⟨Nat.le_of_ble_eq_true rfl, Nat.le_of_ble_eq_true rfl⟩
  · refine r_iload_n hX dX2_notBefore_5 rfl ?_
    refine r_iconst (v := 1) hX dX2_notBefore_6 (by decide) ?_
    refine r_icmp_ge (tgt := 12) hX dX2_notBefore_7 (by decide) (fun c7 => ?_) (fun c7 => ?_)
    · refine r_iload_n hX dX2_notBefore_12 rfl ?_
      refine r_iload_n hX dX2_notBefore_13 rfl ?_
      refine r_iload_n hX dX2_notBefore_14 rfl ?_
      refine r_isub hX dX2_notBefore_15 ?_
      refine r_iload_n hX dX2_notBefore_16 rfl ?_
      refine r_callS hX dX2_notBefore_17 (s_floorMod E g m (y1 - x) z (ne0_of_le c7)) ml_X2_34 rfl rfl ⟨Nat.le_of_ble_eq_true rfl, Nat.le_of_ble_eq_true rfl⟩ ⟨Nat.le_of_ble_eq_true rfl, Nat.le_of_ble_eq_true rfl, rfl, Nat.le_of_ble_eq_true rfl⟩ (fun v17 g17 m17 hp => ?_)
      obtain ⟨hv, hg, hm⟩ := hp
      subst v17
      subst g17
      subst m17
      refine r_iadd hX dX2_notBefore_20 ?_
      exact r_iret hX dX2_notBefore_21 ⟨by unfold notB; rw [if_neg c2, if_pos c7], rfl, rfl⟩ ⟨Nat.le_of_ble_eq_true rfl, Nat.le_of_ble_eq_true rfl⟩
    · refine r_iload_n hX dX2_notBefore_10 rfl ?_
      exact r_iret hX dX2_notBefore_11 ⟨by unfold notB; rw [if_neg c2, if_neg c7], rfl, rfl⟩ ⟨Nat.le_of_ble_eq_true rfl, Nat.le_of_ble_eq_true rfl⟩
def mEuclid (p1 d1 p2 d2 : Int32) : Int32 :=
  if (gcdL p1.toInt64 p2.toInt64).toInt32 < 1 then -1 else if d2 - d1 - (d2 - d1) / (gcdL p1.toInt64 p2.toInt64).toInt32 * (gcdL p1.toInt64 p2.toInt64).toInt32 = 0 then
    (if 1 ≤ p2 / (gcdL p1.toInt64 p2.toInt64).toInt32 then
      notB (if d1 < d2 then d2 else d1) (d1 + fMod (fMod ((d2 - d1) / (gcdL p1.toInt64 p2.toInt64).toInt32) (p2 / (gcdL p1.toInt64 p2.toInt64).toInt32) * fMod (facL p1 p2) (p2 / (gcdL p1.toInt64 p2.toInt64).toInt32)) (p2 / (gcdL p1.toInt64 p2.toInt64).toInt32) * p1) (p2 / (gcdL p1.toInt64 p2.toInt64).toInt32 * p1)
    else -1) else -1
set_option maxRecDepth 20000 in
set_option maxHeartbeats 4000000 in
theorem s_X2_byEuclid (E : qE) (g : qG) (m : qM) (a b : Nat) (ha : gAt g a (.inl 4)) (hb : gAt g b (.inl 4)) : Sp E yX2_byEuclid cX2_byEuclid 8 (some .int) 3 0 0 [.ref a, .ref b] g m (fun v g' m' => v = some (.int (mEuclid (qI m a 1) (qI m a 3) (qI m b 1) (qI m b 3))) ∧ g' = g ∧ m' = m) := by
  refine Sp.of (by decide) [some (.ref a), some (.ref b), none, none, none, none, none, none] rfl rfl (Nat.le_of_ble_eq_true rfl) (fun X hX => ?_)
  refine r_aload_n hX dX2_byEuclid_0 rfl ?_
  refine r_getI hX dX2_byEuclid_1 ha fl_X2_15 ?_
  refine r_i2l hX dX2_byEuclid_4 ?_
  refine r_aload_n hX dX2_byEuclid_5 rfl ?_
  refine r_getI hX dX2_byEuclid_6 hb fl_X2_15 ?_
  refine r_i2l hX dX2_byEuclid_9 ?_
  refine r_callS hX dX2_byEuclid_10 (s_X2_commonDivisor E g m _ _) ml_X2_24 rfl rfl ⟨Nat.le_of_ble_eq_true rfl, Nat.le_of_ble_eq_true rfl⟩ ⟨Nat.le_of_ble_eq_true rfl, Nat.le_of_ble_eq_true rfl, rfl, Nat.le_of_ble_eq_true rfl⟩ (fun v10 g10 m10 hp => ?_)
  obtain ⟨hv, hg, hm⟩ := hp
  subst v10
  subst g10
  subst m10
  refine r_l2i hX dX2_byEuclid_13 ?_
  refine r_istore_n hX dX2_byEuclid_14 (Nat.le_of_ble_eq_true rfl) rfl ?_
  refine r_aload_n hX dX2_byEuclid_15 rfl ?_
  refine r_getI hX dX2_byEuclid_16 hb fl_X2_9 ?_
  refine r_aload_n hX dX2_byEuclid_19 rfl ?_
  refine r_getI hX dX2_byEuclid_20 ha fl_X2_9 ?_
  refine r_isub hX dX2_byEuclid_23 ?_
  refine r_istore_n hX dX2_byEuclid_24 (Nat.le_of_ble_eq_true rfl) rfl ?_
  refine r_iload_n hX dX2_byEuclid_25 rfl ?_
  refine r_iconst (v := 1) hX dX2_byEuclid_26 (by decide) ?_
  refine r_icmp_lt (tgt := 36) hX dX2_byEuclid_27 (by decide) (fun c27 => ?_) (fun c27 => ?_)
  · refine r_iconst (v := (-1)) hX dX2_byEuclid_36 (by decide) ?_
    exact r_iret hX dX2_byEuclid_37 ⟨by unfold mEuclid; rw [if_pos c27], rfl, rfl⟩ ⟨Nat.le_of_ble_eq_true rfl, Nat.le_of_ble_eq_true rfl⟩
  · refine r_iload_n hX dX2_byEuclid_30 rfl ?_
    refine r_iload_n hX dX2_byEuclid_31 rfl ?_
    refine r_irem hX dX2_byEuclid_32 (ne0_of_lt c27) ?_
    refine r_if_eq (tgt := 38) hX dX2_byEuclid_33 (by decide) (fun c33 => ?_) (fun c33 => ?_)
    · refine r_aload_n hX dX2_byEuclid_38 rfl ?_
      refine r_getI hX dX2_byEuclid_39 hb fl_X2_15 ?_
      refine r_iload_n hX dX2_byEuclid_42 rfl ?_
      refine r_idiv hX dX2_byEuclid_43 (ne0_of_lt c27) ?_
      refine r_istore hX dX2_byEuclid_44 (Nat.le_of_ble_eq_true rfl) rfl ?_
      refine r_iload hX dX2_byEuclid_46 rfl ?_
      refine r_iconst (v := 1) hX dX2_byEuclid_48 (by decide) ?_
      refine r_icmp_ge (tgt := 54) hX dX2_byEuclid_49 (by decide) (fun c49 => ?_) (fun c49 => ?_)
      · refine r_aload_n hX dX2_byEuclid_54 rfl ?_
        refine r_getI hX dX2_byEuclid_55 ha fl_X2_15 ?_
        refine r_aload_n hX dX2_byEuclid_58 rfl ?_
        refine r_getI hX dX2_byEuclid_59 hb fl_X2_15 ?_
        refine r_callS hX dX2_byEuclid_62 (s_X2_factorOfDivisor E g m _ _) ml_X2_30 rfl rfl ⟨Nat.le_of_ble_eq_true rfl, Nat.le_of_ble_eq_true rfl⟩ ⟨Nat.le_of_ble_eq_true rfl, Nat.le_of_ble_eq_true rfl, rfl, Nat.le_of_ble_eq_true rfl⟩ (fun v62 g62 m62 hp => ?_)
        obtain ⟨hv, hg, hm⟩ := hp
        subst v62
        subst g62
        subst m62
        refine r_istore hX dX2_byEuclid_65 (Nat.le_of_ble_eq_true rfl) rfl ?_
        refine r_iload_n hX dX2_byEuclid_67 rfl ?_
        refine r_iload_n hX dX2_byEuclid_68 rfl ?_
        refine r_idiv hX dX2_byEuclid_69 (ne0_of_lt c27) ?_
        refine r_iload hX dX2_byEuclid_70 rfl ?_
        refine r_callS hX dX2_byEuclid_72 (s_floorMod E g m _ _ (ne0_of_le c49)) ml_X2_34 rfl rfl ⟨Nat.le_of_ble_eq_true rfl, Nat.le_of_ble_eq_true rfl⟩ ⟨Nat.le_of_ble_eq_true rfl, Nat.le_of_ble_eq_true rfl, rfl, Nat.le_of_ble_eq_true rfl⟩ (fun v72 g72 m72 hp => ?_)
        obtain ⟨hv, hg, hm⟩ := hp
        subst v72
        subst g72
        subst m72
        refine r_iload hX dX2_byEuclid_75 rfl ?_
        refine r_iload hX dX2_byEuclid_77 rfl ?_
        refine r_callS hX dX2_byEuclid_79 (s_floorMod E g m _ _ (ne0_of_le c49)) ml_X2_34 rfl rfl ⟨Nat.le_of_ble_eq_true rfl, Nat.le_of_ble_eq_true rfl⟩ ⟨Nat.le_of_ble_eq_true rfl, Nat.le_of_ble_eq_true rfl, rfl, Nat.le_of_ble_eq_true rfl⟩ (fun v79 g79 m79 hp => ?_)
        obtain ⟨hv, hg, hm⟩ := hp
        subst v79
        subst g79
        subst m79
        refine r_imul hX dX2_byEuclid_82 ?_
        refine r_iload hX dX2_byEuclid_83 rfl ?_
        refine r_callS hX dX2_byEuclid_85 (s_floorMod E g m _ _ (ne0_of_le c49)) ml_X2_34 rfl rfl ⟨Nat.le_of_ble_eq_true rfl, Nat.le_of_ble_eq_true rfl⟩ ⟨Nat.le_of_ble_eq_true rfl, Nat.le_of_ble_eq_true rfl, rfl, Nat.le_of_ble_eq_true rfl⟩ (fun v85 g85 m85 hp => ?_)
        obtain ⟨hv, hg, hm⟩ := hp
        subst v85
        subst g85
        subst m85
        refine r_istore hX dX2_byEuclid_88 (Nat.le_of_ble_eq_true rfl) rfl ?_
        refine r_aload_n hX dX2_byEuclid_90 rfl ?_
        refine r_getI hX dX2_byEuclid_91 ha fl_X2_9 ?_
        refine r_aload_n hX dX2_byEuclid_94 rfl ?_
        refine r_getI hX dX2_byEuclid_95 hb fl_X2_9 ?_
        refine r_mmax hX dX2_byEuclid_98 mm_X2_37 ⟨Nat.le_of_ble_eq_true rfl, rfl, Nat.le_of_ble_eq_true rfl⟩ ⟨Nat.le_of_ble_eq_true rfl, Nat.le_of_ble_eq_true rfl⟩ ?_
        refine r_istore hX dX2_byEuclid_101 (Nat.le_of_ble_eq_true rfl) rfl ?_
        refine r_iload hX dX2_byEuclid_103 rfl ?_
        refine r_aload_n hX dX2_byEuclid_105 rfl ?_
        refine r_getI hX dX2_byEuclid_106 ha fl_X2_9 ?_
        refine r_iload hX dX2_byEuclid_109 rfl ?_
        refine r_aload_n hX dX2_byEuclid_111 rfl ?_
        refine r_getI hX dX2_byEuclid_112 ha fl_X2_15 ?_
        refine r_imul hX dX2_byEuclid_115 ?_
        refine r_iadd hX dX2_byEuclid_116 ?_
        refine r_iload hX dX2_byEuclid_117 rfl ?_
        refine r_aload_n hX dX2_byEuclid_119 rfl ?_
        refine r_getI hX dX2_byEuclid_120 ha fl_X2_15 ?_
        refine r_imul hX dX2_byEuclid_123 ?_
        refine r_callS hX dX2_byEuclid_124 (s_X2_notBefore E g m _ _ _) ml_X2_40 rfl rfl ⟨Nat.le_of_ble_eq_true rfl, Nat.le_of_ble_eq_true rfl⟩ ⟨Nat.le_of_ble_eq_true rfl, Nat.le_of_ble_eq_true rfl, rfl, Nat.le_of_ble_eq_true rfl⟩ (fun v124 g124 m124 hp => ?_)
        obtain ⟨hv, hg, hm⟩ := hp
        subst v124
        subst g124
        subst m124
        exact r_iret hX dX2_byEuclid_127 ⟨by unfold mEuclid; rw [if_neg c27, if_pos c33, if_pos c49], rfl, rfl⟩ ⟨Nat.le_of_ble_eq_true rfl, Nat.le_of_ble_eq_true rfl⟩
      · refine r_iconst (v := (-1)) hX dX2_byEuclid_52 (by decide) ?_
        exact r_iret hX dX2_byEuclid_53 ⟨by unfold mEuclid; rw [if_neg c27, if_pos c33, if_neg c49], rfl, rfl⟩ ⟨Nat.le_of_ble_eq_true rfl, Nat.le_of_ble_eq_true rfl⟩
    · refine r_iconst (v := (-1)) hX dX2_byEuclid_36 (by decide) ?_
      exact r_iret hX dX2_byEuclid_37 ⟨by unfold mEuclid; rw [if_neg c27, if_neg c33], rfl, rfl⟩ ⟨Nat.le_of_ble_eq_true rfl, Nat.le_of_ble_eq_true rfl⟩
def wkC (s : Int32 × Int32) : Bool := decide (¬ s.1 = s.2)
def wkS (p1 p2 : Int32) (s : Int32 × Int32) : Int32 × Int32 := if s.2 ≤ s.1 then (s.1, s.2 + p2) else (s.1 + p1, s.2)
def mWalk (p1 d1 p2 d2 : Int32) : Int32 := if (itr wkC (wkS p1 p2) (p1 + p2 + (if 0 ≤ d1 - d2 then d1 - d2 else 0 - (d1 - d2))).toNatClampNeg (d1, d2)).1 = (itr wkC (wkS p1 p2) (p1 + p2 + (if 0 ≤ d1 - d2 then d1 - d2 else 0 - (d1 - d2))).toNatClampNeg (d1, d2)).2 then (itr wkC (wkS p1 p2) (p1 + p2 + (if 0 ≤ d1 - d2 then d1 - d2 else 0 - (d1 - d2))).toNatClampNeg (d1, d2)).1 else -1
set_option maxRecDepth 20000 in
set_option maxHeartbeats 4000000 in
theorem s_X2_byWalking_l {E : qE} {X : qX} {cN sN : Nat} {Q : State → Prop} {g : qG} {m : qM} (hX : MC E yX2_byWalking cX2_byWalking 6 (some .int) 1 0 0 [] X) (a b : Nat) (ha : gAt g a (.inl 4)) (hb : gAt g b (.inl 4)) (st9 : Int32) : ∀ (n i : Nat) (x y1 : Int32), st9.toNatClampNeg - i = n → i < 2 ^ 31 → (∀ (j : Int32), WS E X cN sN Q g m 71 [some (.ref a), some (.ref b), some (.int (itr wkC (wkS (qI m a 1) (qI m b 1)) n (x, y1)).1), some (.int (itr wkC (wkS (qI m a 1) (qI m b 1)) n (x, y1)).2), some (.int st9), some (.int j)] []) → WS E X cN sN Q g m 31 [some (.ref a), some (.ref b), some (.int x), some (.int y1), some (.int st9), some (.int (nI i))] [] := by
  intro n
  induction n with
  | zero =>
    intro i x y1 hi hb2 K
    refine r_iload hX dX2_byWalking_31 rfl ?_
    refine r_iload hX dX2_byWalking_33 rfl ?_
    refine r_icmp_ge (tgt := 71) hX dX2_byWalking_35 (by decide) (fun c35 => ?_) (fun c35 => ?_)
    · exact K _
    · exact absurd ((le_clamp hb2).mpr (by omega)) c35
  | succ n ih =>
    intro i x y1 hi hb2 K
    have hcl := clamp_lt st9
    refine r_iload hX dX2_byWalking_31 rfl ?_
    refine r_iload hX dX2_byWalking_33 rfl ?_
    refine r_icmp_ge (tgt := 71) hX dX2_byWalking_35 (by decide) (fun c35 => ?_) (fun c35 => ?_)
    · exact absurd ((le_clamp hb2).mp c35) (by omega)
    · refine r_iload_n hX dX2_byWalking_38 rfl ?_
      refine r_iload_n hX dX2_byWalking_39 rfl ?_
      refine r_icmp_eq (tgt := 71) hX dX2_byWalking_40 (by decide) (fun c40 => ?_) (fun c40 => ?_)
      · rw [itr_f (by simp [wkC, c40])] at K
        exact K _
      · refine r_iload_n hX dX2_byWalking_43 rfl ?_
        refine r_iload_n hX dX2_byWalking_44 rfl ?_
        refine r_icmp_ge (tgt := 58) hX dX2_byWalking_45 (by decide) (fun c45 => ?_) (fun c45 => ?_)
        · refine r_iload_n hX dX2_byWalking_58 rfl ?_
          refine r_aload_n hX dX2_byWalking_59 rfl ?_
          refine r_getI hX dX2_byWalking_60 hb fl_X2_15 ?_
          refine r_iadd hX dX2_byWalking_63 ?_
          refine r_istore_n hX dX2_byWalking_64 (Nat.le_of_ble_eq_true rfl) rfl ?_
          refine r_iinc (v := nI (i + 1)) hX dX2_byWalking_65 rfl (ii1 i) rfl ?_
          refine r_goto (tgt := 31) hX dX2_byWalking_68 (by decide) ?_
          rw [itr_t (by simp [wkC, c40]), show wkS (qI m a 1) (qI m b 1) (x, y1) = _ from if_pos c45] at K
          exact ih (i + 1) _ _ (by omega) (by omega) K
        · refine r_iload_n hX dX2_byWalking_48 rfl ?_
          refine r_aload_n hX dX2_byWalking_49 rfl ?_
          refine r_getI hX dX2_byWalking_50 ha fl_X2_15 ?_
          refine r_iadd hX dX2_byWalking_53 ?_
          refine r_istore_n hX dX2_byWalking_54 (Nat.le_of_ble_eq_true rfl) rfl ?_
          refine r_goto (tgt := 65) hX dX2_byWalking_55 (by decide) ?_
          refine r_iinc (v := nI (i + 1)) hX dX2_byWalking_65 rfl (ii1 i) rfl ?_
          refine r_goto (tgt := 31) hX dX2_byWalking_68 (by decide) ?_
          rw [itr_t (by simp [wkC, c40]), show wkS (qI m a 1) (qI m b 1) (x, y1) = _ from if_neg c45] at K
          exact ih (i + 1) _ _ (by omega) (by omega) K
set_option maxRecDepth 20000 in
set_option maxHeartbeats 4000000 in
theorem s_X2_byWalking (E : qE) (g : qG) (m : qM) (a b : Nat) (ha : gAt g a (.inl 4)) (hb : gAt g b (.inl 4)) : Sp E yX2_byWalking cX2_byWalking 6 (some .int) 1 0 0 [.ref a, .ref b] g m (fun v g' m' => v = some (.int (mWalk (qI m a 1) (qI m a 3) (qI m b 1) (qI m b 3))) ∧ g' = g ∧ m' = m) := by
  refine Sp.of (by decide) [some (.ref a), some (.ref b), none, none, none, none] rfl rfl (Nat.le_of_ble_eq_true rfl) (fun X hX => ?_)
  refine r_aload_n hX dX2_byWalking_0 rfl ?_
  refine r_getI hX dX2_byWalking_1 ha fl_X2_9 ?_
  refine r_istore_n hX dX2_byWalking_4 (Nat.le_of_ble_eq_true rfl) rfl ?_
  refine r_aload_n hX dX2_byWalking_5 rfl ?_
  refine r_getI hX dX2_byWalking_6 hb fl_X2_9 ?_
  refine r_istore_n hX dX2_byWalking_9 (Nat.le_of_ble_eq_true rfl) rfl ?_
  refine r_aload_n hX dX2_byWalking_10 rfl ?_
  refine r_getI hX dX2_byWalking_11 ha fl_X2_15 ?_
  refine r_aload_n hX dX2_byWalking_14 rfl ?_
  refine r_getI hX dX2_byWalking_15 hb fl_X2_15 ?_
  refine r_iadd hX dX2_byWalking_18 ?_
  refine r_iload_n hX dX2_byWalking_19 rfl ?_
  refine r_iload_n hX dX2_byWalking_20 rfl ?_
  refine r_isub hX dX2_byWalking_21 ?_
  refine r_mabs hX dX2_byWalking_22 mm_X2_18 ⟨Nat.le_of_ble_eq_true rfl, rfl, Nat.le_of_ble_eq_true rfl⟩ ⟨Nat.le_of_ble_eq_true rfl, Nat.le_of_ble_eq_true rfl⟩ ?_
  refine r_iadd hX dX2_byWalking_25 ?_
  refine r_istore hX dX2_byWalking_26 (Nat.le_of_ble_eq_true rfl) rfl ?_
  refine r_iconst (v := 0) hX dX2_byWalking_28 (by decide) ?_
  refine r_istore hX dX2_byWalking_29 (Nat.le_of_ble_eq_true rfl) rfl ?_
  refine s_X2_byWalking_l hX a b ha hb _ _ 0 _ _ rfl (by decide) (fun j => ?_)
  refine r_iload_n hX dX2_byWalking_71 rfl ?_
  refine r_iload_n hX dX2_byWalking_72 rfl ?_
  refine r_icmp_ne (tgt := 80) hX dX2_byWalking_73 (by decide) (fun c73 => ?_) (fun c73 => ?_)
  · refine r_iconst (v := -1) hX dX2_byWalking_80 (by decide) ?_
    exact r_iret hX dX2_byWalking_81 ⟨congrArg (fun z => some (Value.int z)) (if_neg c73).symm, rfl, rfl⟩ ⟨Nat.le_of_ble_eq_true rfl, Nat.le_of_ble_eq_true rfl⟩
  · refine r_iload_n hX dX2_byWalking_76 rfl ?_
    refine r_goto (tgt := 81) hX dX2_byWalking_77 (by decide) ?_
    exact r_iret hX dX2_byWalking_81 ⟨congrArg (fun z => some (Value.int z)) (if_pos c73).symm, rfl, rfl⟩ ⟨Nat.le_of_ble_eq_true rfl, Nat.le_of_ble_eq_true rfl⟩
