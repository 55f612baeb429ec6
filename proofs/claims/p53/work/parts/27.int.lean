/-! ===== java.lang.Integer: how many digits, the digits ===== -/
def digs (w : Nat) : Nat := if w < 10 then 1 else if w < 100 then 2 else if w < 1000 then 3 else if w < 10000 then 4 else if w < 100000 then 5 else if w < 1000000 then 6 else if w < 10000000 then 7 else if w < 100000000 then 8 else 9
/-- the k-th digit from the right, as a sign -/
def dg (w k : Nat) : Nat := 48 + w / 10 ^ k % 10
theorem dg_lt (w k : Nat) : dg w k < 58 := by unfold dg; omega
theorem digs_le (w : Nat) : 1 ≤ digs w ∧ digs w ≤ 9 := by
  unfold digs
  repeat' split
  all_goals decide
theorem digs_100 {w : Nat} (h : 100 ≤ w) (h9 : w < 1000000000) : digs w = digs (w / 100) + 2 := by
  unfold digs
  repeat' split
  all_goals omega
theorem digs_10 {w : Nat} (h : 10 ≤ w) (h9 : w < 1000000000) : digs w = digs (w / 10) + 1 := by
  unfold digs
  repeat' split
  all_goals omega
theorem dg_100 (w k : Nat) : dg w (k + 2) = dg (w / 100) k := by
  unfold dg
  rw [Nat.pow_add, Nat.mul_comm, ← Nat.div_div_eq_div_mul]
theorem dg_10 (w k : Nat) : dg w (k + 1) = dg (w / 10) k := by
  unfold dg
  rw [Nat.pow_succ, Nat.mul_comm, ← Nat.div_div_eq_div_mul]
theorem dg_0 (w : Nat) : dg w 0 = 48 + w % 10 := by unfold dg; simp
/-- a number below nothing -/
theorem ng_lt {a b : Nat} (ha : a < 2 ^ 31) (hb : b < 2 ^ 31) : -nI a < -nI b ↔ b < a := by
  rw [Int32.lt_iff_toInt_lt]
  have e : ∀ c : Nat, c < 2 ^ 31 → (-nI c).toInt = -(c : Int) := fun c hc => by
    rw [Int32.toInt_neg, nI_toInt hc, Int.bmod_eq_of_le] <;> omega
  rw [e a ha, e b hb]
  omega
theorem ng_toInt {c : Nat} (hc : c < 2 ^ 31) : (-nI c).toInt = -(c : Int) := by
  rw [Int32.toInt_neg, nI_toInt hc, Int.bmod_eq_of_le] <;> omega
theorem ng_neg (a : Nat) : - -nI a = nI a := Int32.neg_neg
theorem ng_div {a : Nat} (ha : a < 2 ^ 31) : -nI a / 100 = -nI (a / 100) := by
  apply Int32.toInt_inj.mp
  rw [Int32.toInt_div_of_ne_right _ _ (by decide), ng_toInt ha, ng_toInt (by omega)]
  rw [show (100 : Int32).toInt = 100 by decide, Int.neg_tdiv]
  congr 1
theorem ng_mod {a : Nat} (ha : a < 2 ^ 31) : -nI (a / 100) * 100 - -nI a = nI (a % 100) := by
  rw [Int32.neg_mul, show nI (a / 100) * 100 = nI (a / 100 * 100) from pk_mul _ 100, Int32.sub_neg, Int32.add_comm, ← Int32.sub_eq_add_neg, pk_sub (by omega)]
  congr 1
  omega
set_option maxRecDepth 20000 in
set_option maxHeartbeats 4000000 in
theorem s_J6_size_l {E : qE} {X : qX} {Q : State → Prop} {g : qG} {m : qM} {w : Nat} (hX : MC E yJ6_stringSize_0f7a4 cJ6_stringSize_0f7a4 4 (some .int) 0 0 0 [] X) (hw : w < 1000000000) (K : ∀ i : Nat, i = digs w → i < 10 → WS E X 0 0 Q g m 27 [some (.int (-nI w)), some (.int 0), some (.int (-nI (10 ^ i))), some (.int (nI i))] []) : ∀ (k i : Nat), i + k = 9 → 1 ≤ i → (1 < i → 10 ^ (i - 1) ≤ w) → WS E X 0 0 Q g m 16 [some (.int (-nI w)), some (.int 0), some (.int (-nI (10 ^ i))), some (.int (nI i))] [] := by
  have hd : ∀ i : Nat, 1 ≤ i → i ≤ 9 → w < 10 ^ i → (1 < i → 10 ^ (i - 1) ≤ w) → i = digs w := fun i h1 h2 h3 h4 => by
    unfold digs
    obtain rfl | rfl | rfl | rfl | rfl | rfl | rfl | rfl | rfl : i = 1 ∨ i = 2 ∨ i = 3 ∨ i = 4 ∨ i = 5 ∨ i = 6 ∨ i = 7 ∨ i = 8 ∨ i = 9 := by omega
    all_goals
      simp only [Nat.reducePow, Nat.reduceSub, Nat.reduceLT, true_imp_iff] at h3 h4
      repeat' split
      all_goals first | rfl | omega
  have hp : ∀ i : Nat, i ≤ 9 → 10 ^ i < 2 ^ 31 := fun i hi => Nat.lt_of_le_of_lt (Nat.pow_le_pow_right (by decide) hi) (by decide)
  intro k
  induction k with
  | zero =>
    intro i hi h1 hlo
    have hib : i = 9 := by omega
    subst hib
    have hw9 : w < 10 ^ 9 := hw
    refine r_iload_n hX dJ6_stringSize_0f7a4_16 rfl ?_
    refine r_bipush (v := 10) hX dJ6_stringSize_0f7a4_17 (by decide) ?_
    refine r_icmp_ge (tgt := 42) hX dJ6_stringSize_0f7a4_19 (by decide) (fun c19 => ?_) (fun c19 => ?_)
    · exact absurd c19 (nI_ge (b := 10) (by decide) (by decide))
    · refine r_iload_n hX dJ6_stringSize_0f7a4_22 rfl ?_
      refine r_iload_n hX dJ6_stringSize_0f7a4_23 rfl ?_
      refine r_icmp_le (tgt := 31) hX dJ6_stringSize_0f7a4_24 (by decide) (fun c24 => ?_) (fun c24 => ?_)
      · exact absurd ((ng_lt (hp 9 (by decide)) (by omega)).mpr hw9) (Int32.not_lt.mpr c24)
      · exact K 9 (hd 9 (by decide) (by decide) hw9 hlo) (by decide)
  | succ k ih =>
    intro i hi h1 hlo
    have hpi := hp i (by omega)
    refine r_iload_n hX dJ6_stringSize_0f7a4_16 rfl ?_
    refine r_bipush (v := 10) hX dJ6_stringSize_0f7a4_17 (by decide) ?_
    refine r_icmp_ge (tgt := 42) hX dJ6_stringSize_0f7a4_19 (by decide) (fun c19 => ?_) (fun c19 => ?_)
    · exact absurd c19 (nI_ge (b := 10) (by omega) (by decide))
    · refine r_iload_n hX dJ6_stringSize_0f7a4_22 rfl ?_
      refine r_iload_n hX dJ6_stringSize_0f7a4_23 rfl ?_
      refine r_icmp_le (tgt := 31) hX dJ6_stringSize_0f7a4_24 (by decide) (fun c24 => ?_) (fun c24 => ?_)
      · have hge : 10 ^ i ≤ w := Nat.le_of_not_lt (fun h => absurd ((ng_lt hpi (by omega)).mpr h) (Int32.not_lt.mpr c24))
        refine r_bipush (v := 10) hX dJ6_stringSize_0f7a4_31 (by decide) ?_
        refine r_iload_n hX dJ6_stringSize_0f7a4_33 rfl ?_
        refine r_imul hX dJ6_stringSize_0f7a4_34 ?_
        rw [show (10 : Int32) * -nI (10 ^ i) = -nI (10 ^ (i + 1)) by rw [Int32.mul_neg, show (10 : Int32) * nI (10 ^ i) = nI (10 * 10 ^ i) from pk_mul 10 _, Nat.pow_succ, Nat.mul_comm]]
        refine r_istore_n hX dJ6_stringSize_0f7a4_35 (Nat.le_of_ble_eq_true rfl) rfl ?_
        refine r_iinc (v := nI (i + 1)) hX dJ6_stringSize_0f7a4_36 rfl (ii1 i) rfl ?_
        refine r_goto (tgt := 16) hX dJ6_stringSize_0f7a4_39 (by decide) ?_
        exact ih (i + 1) (by omega) (by omega) (fun _ => hge)
      · exact K i (hd i h1 (by omega) (Classical.byContradiction (fun h => c24 (Int32.not_lt.mp (fun h2 => h ((ng_lt hpi (by omega)).mp h2))))) hlo) (by omega)
set_option maxRecDepth 20000 in
set_option maxHeartbeats 4000000 in
theorem s_J6_size (E : qE) (g : qG) (m : qM) (w : Nat) (hw : w < 1000000000) : Sp E yJ6_stringSize_0f7a4 cJ6_stringSize_0f7a4 4 (some .int) 0 0 0 [.int (nI w)] g m (fun v g' m' => v = some (.int (nI (digs w))) ∧ g' = g ∧ m' = m) := by
  refine Sp.ofF (by decide +kernel) [some (.int (nI w)), none, none, none] rfl rfl (Nat.le_of_ble_eq_true rfl) (fun X hX => ?_)
  refine r_iconst (v := 1) hX dJ6_stringSize_0f7a4_0 (by decide) ?_
  refine r_istore_n hX dJ6_stringSize_0f7a4_1 (Nat.le_of_ble_eq_true rfl) rfl ?_
  refine r_iload_n hX dJ6_stringSize_0f7a4_2 rfl ?_
  refine r_if_lt (tgt := 11) hX dJ6_stringSize_0f7a4_3 (by decide) (fun c3 => ?_) (fun c3 => ?_)
  · exact absurd c3 (nI_pos (by omega))
  · refine r_iconst (v := 0) hX dJ6_stringSize_0f7a4_6 (by decide) ?_
    refine r_istore_n hX dJ6_stringSize_0f7a4_7 (Nat.le_of_ble_eq_true rfl) rfl ?_
    refine r_iload_n hX dJ6_stringSize_0f7a4_8 rfl ?_
    refine r_ineg hX dJ6_stringSize_0f7a4_9 ?_
    refine r_istore_n hX dJ6_stringSize_0f7a4_10 (Nat.le_of_ble_eq_true rfl) rfl ?_
    refine r_bipush (v := (-10)) hX dJ6_stringSize_0f7a4_11 (by decide) ?_
    refine r_istore_n hX dJ6_stringSize_0f7a4_13 (Nat.le_of_ble_eq_true rfl) rfl ?_
    refine r_iconst (v := 1) hX dJ6_stringSize_0f7a4_14 (by decide) ?_
    refine r_istore_n hX dJ6_stringSize_0f7a4_15 (Nat.le_of_ble_eq_true rfl) rfl ?_
    refine s_J6_size_l hX hw (fun i hi h10 => ?_) 8 1 rfl (by decide) (fun h => absurd h (by decide))
    refine r_iload_n hX dJ6_stringSize_0f7a4_27 rfl ?_
    refine r_iload_n hX dJ6_stringSize_0f7a4_28 rfl ?_
    refine r_iadd hX dJ6_stringSize_0f7a4_29 ?_
    rw [show nI i + 0 = nI i from nI_add i 0]
    exact r_iret hX dJ6_stringSize_0f7a4_30 ⟨by rw [hi], rfl, rfl⟩ ⟨Nat.le_of_ble_eq_true rfl, Nat.le_of_ble_eq_true rfl⟩
