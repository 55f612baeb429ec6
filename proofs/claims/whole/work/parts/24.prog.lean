/-! ===== CometObservatory.Program: the program at q, its text at q + 1, its kinds at q + 2, its numbers at q + 3, their rows at q + 4 .. q + 15 ===== -/
theorem wI_wI (m : qM) (a k : Nat) (v w : Int32) : wI (wI m a k v) a k w = wI m a k w := by
  unfold wI
  congr 1
  funext b j
  by_cases h : b = a ∧ j = k <;> simp [h]
theorem wI_id {m : qM} {a k : Nat} {v : Int32} (h : qI m a k = v) : wI m a k v = m := by
  unfold wI
  have e : (fun b j => if b = a ∧ j = k then v else m.1 b j) = m.1 := by
    funext b j
    by_cases h2 : b = a ∧ j = k
    · obtain ⟨rfl, rfl⟩ := h2
      rw [if_pos ⟨rfl, rfl⟩]; exact h.symm
    · rw [if_neg h2]
  rw [e]
def ProSh (g : qG) (q : Nat) : Prop := gAt g q (.inl 6) ∧ gAt g (q + 1) (.inr (1, 60)) ∧ gAt g (q + 2) (.inr (0, 12)) ∧ gAt g (q + 3) (.inr (7, 12)) ∧ ∀ i, i < 12 → gAt g (q + 4 + i) (.inr (0, 3))
def ProR (m : qM) (q : Nat) : Prop := qR m q 0 = some (q + 1) ∧ qR m q 1 = some (q + 2) ∧ qR m q 2 = some (q + 3) ∧ ∀ i, i < 12 → qR m (q + 3) i = some (q + 4 + i)
def ProS (g : qG) (m : qM) (q : Nat) : Prop := ProSh g q ∧ ProR m q
theorem ProS.to {g : qG} {m m' : qM} {q : Nat} (h : ProS g m q) (hm : m'.2 = m.2) : ProS g m' q := by
  unfold ProS ProR qR at h ⊢
  rw [hm]
  exact h
/-- the length is n, the position p -/
def PosIs (m : qM) (q n p : Nat) : Prop := qI m q 3 = nI n ∧ n ≤ 60 ∧ qI m q 4 = nI p ∧ p ≤ n
/-- a digit stands at p -/
def digA (tx : Nat → Int32) (n p : Nat) : Bool := decide (p < n) && (decide (48 ≤ tx p) && decide (tx p ≤ 57))
set_option maxRecDepth 20000 in
set_option maxHeartbeats 4000000 in
theorem s_X3_isFull (E : qE) (g : qG) (m : qM) (q : Nat) (hs : ProS g m q) : Sp E yX3_isFull cX3_isFull 1 (some .boolean) 0 0 0 [.ref q] g m (fun v g' m' => v = some (.int (if qI m q 3 < 60 then 0 else 1)) ∧ g' = g ∧ m' = m) := by
  refine Sp.of (by decide) [some (.ref q)] rfl rfl (Nat.le_of_ble_eq_true rfl) (fun X hX => ?_)
  refine r_aload_n hX dX3_isFull_0 rfl ?_
  refine r_getI hX dX3_isFull_1 hs.1.1 fl_X3_24 ?_
  refine r_bipush (v := 60) hX dX3_isFull_4 (by decide) ?_
  refine r_icmp_lt (tgt := 13) hX dX3_isFull_6 (by decide) (fun c6 => ?_) (fun c6 => ?_)
  · refine r_iconst (v := 0) hX dX3_isFull_13 (by decide) ?_
    first
    | exact r_zret hX dX3_isFull_14 rfl ⟨by rw [if_pos c6], rfl, rfl⟩ ⟨Nat.le_of_ble_eq_true rfl, Nat.le_of_ble_eq_true rfl⟩
    | exact r_zret hX dX3_isFull_14 rfl ⟨by rw [if_neg c6], rfl, rfl⟩ ⟨Nat.le_of_ble_eq_true rfl, Nat.le_of_ble_eq_true rfl⟩
  · refine r_iconst (v := 1) hX dX3_isFull_9 (by decide) ?_
    refine r_goto (tgt := 14) hX dX3_isFull_10 (by decide) ?_
    first
    | exact r_zret hX dX3_isFull_14 rfl ⟨by rw [if_pos c6], rfl, rfl⟩ ⟨Nat.le_of_ble_eq_true rfl, Nat.le_of_ble_eq_true rfl⟩
    | exact r_zret hX dX3_isFull_14 rfl ⟨by rw [if_neg c6], rfl, rfl⟩ ⟨Nat.le_of_ble_eq_true rfl, Nat.le_of_ble_eq_true rfl⟩
set_option maxRecDepth 20000 in
set_option maxHeartbeats 4000000 in
theorem s_X3_add (E : qE) (g : qG) (m : qM) (q n : Nat) (x : Int32) (hs : ProS g m q) (hn : qI m q 3 = nI n) (h60 : n < 60) : Sp E yX3_add cX3_add 2 none 1 0 0 [.ref q, .int x] g m (fun v g' m' => v = none ∧ g' = g ∧ m' = wI (wI m (q + 1) n (x.toUInt32 % 65536).toInt32) q 3 (nI (n + 1))) := by
  refine Sp.of (by decide) [some (.ref q), some (.int x)] rfl rfl (Nat.le_of_ble_eq_true rfl) (fun X hX => ?_)
  have hl : qI m q 3 < 60 := by rw [hn]; exact nI_lt (b := 60) h60 (by decide)
  refine r_aload_n hX dX3_add_0 rfl ?_
  refine r_callV hX dX3_add_1 (s_X3_isFull E g m q hs) ml_X3_28 rfl rfl hs.1.1 rfl ⟨Nat.le_of_ble_eq_true rfl, Nat.le_of_ble_eq_true rfl⟩ ⟨Nat.le_of_ble_eq_true rfl, Nat.le_of_ble_eq_true rfl, rfl, Nat.le_of_ble_eq_true rfl⟩ (fun v1 g1 m1 hp => ?_)
  obtain ⟨hv, hg, hm⟩ := hp
  subst v1
  subst g1
  subst m1
  rw [if_pos hl]
  refine r_if_ne (tgt := 27) hX dX3_add_4 (by decide) (fun c4 => ?_) (fun c4 => ?_)
  · exact absurd rfl c4
  · refine r_aload_n hX dX3_add_7 rfl ?_
    refine r_getR hX dX3_add_8 hs.1.1 fl_X3_9 hs.2.1 ?_
    refine r_aload_n hX dX3_add_11 rfl ?_
    refine r_getI hX dX3_add_12 hs.1.1 fl_X3_24 ?_
    rw [hn]
    refine r_iload_n hX dX3_add_15 rfl ?_
    refine r_castoreN hX dX3_add_16 hs.1.2.1 h60 (by decide) ?_
    refine r_aload_n hX dX3_add_17 rfl ?_
    refine r_dup hX dX3_add_18 rfl ?_
    refine r_getI hX dX3_add_19 hs.1.1 fl_X3_24 ?_
    rw [qI_wI_a _ _ _ _ (by omega), hn]
    refine r_iconst (v := 1) hX dX3_add_22 (by decide) ?_
    refine r_iadd hX dX3_add_23 ?_
    rw [show nI n + 1 = nI (n + 1) from nI_1 n]
    refine r_putI hX dX3_add_24 hs.1.1 fl_X3_24 ?_
    exact r_vret hX dX3_add_27 ⟨rfl, rfl, rfl⟩ ⟨Nat.le_of_ble_eq_true rfl, Nat.le_of_ble_eq_true rfl⟩
set_option maxRecDepth 20000 in
set_option maxHeartbeats 4000000 in
theorem s_X3_isAtDigit (E : qE) (g : qG) (m : qM) (q n p : Nat) (hs : ProS g m q) (hp : PosIs m q n p) : Sp E yX3_isAtDigit cX3_isAtDigit 1 (some .boolean) 0 0 0 [.ref q] g m (fun v g' m' => v = some (.int (if digA (fun j => qI m (q + 1) j) n p = true then 1 else 0)) ∧ g' = g ∧ m' = m) := by
  refine Sp.of (by decide) [some (.ref q)] rfl rfl (Nat.le_of_ble_eq_true rfl) (fun X hX => ?_)
  obtain ⟨p1, p2, p3, p4⟩ := hp
  have hD : digA (fun j => qI m (q + 1) j) n p = (decide (p < n) && (decide (48 ≤ qI m (q + 1) p) && decide (qI m (q + 1) p ≤ 57))) := rfl
  rw [hD]
  refine r_aload_n hX dX3_isAtDigit_0 rfl ?_
  refine r_getI hX dX3_isAtDigit_1 hs.1.1 fl_X3_32 ?_
  rw [p3]
  refine r_aload_n hX dX3_isAtDigit_4 rfl ?_
  refine r_getI hX dX3_isAtDigit_5 hs.1.1 fl_X3_24 ?_
  rw [p1]
  refine r_icmp_ge (tgt := 43) hX dX3_isAtDigit_8 (by decide) (fun c8 => ?_) (fun c8 => ?_)
  · refine r_iconst (v := 0) hX dX3_isAtDigit_43 (by decide) ?_
    rw [nI_leI (by omega) (by omega)] at c8
    first
    | exact r_zret hX dX3_isAtDigit_44 rfl ⟨by rw [if_neg (by simp; omega)], rfl, rfl⟩ ⟨Nat.le_of_ble_eq_true rfl, Nat.le_of_ble_eq_true rfl⟩
    | exact r_zret hX dX3_isAtDigit_44 rfl ⟨by rw [if_neg (by simp only [Bool.and_eq_true, decide_eq_true_eq]; exact fun h => absurd h.2.1 (Int32.not_le.mpr c22))], rfl, rfl⟩ ⟨Nat.le_of_ble_eq_true rfl, Nat.le_of_ble_eq_true rfl⟩
    | exact r_zret hX dX3_isAtDigit_44 rfl ⟨by rw [if_neg (by simp only [Bool.and_eq_true, decide_eq_true_eq]; exact fun h => absurd h.2.2 (Int32.not_le.mpr c36))], rfl, rfl⟩ ⟨Nat.le_of_ble_eq_true rfl, Nat.le_of_ble_eq_true rfl⟩
    | exact r_zret hX dX3_isAtDigit_44 rfl ⟨by rw [if_pos (by simp only [Bool.and_eq_true, decide_eq_true_eq]; exact ⟨by omega, Int32.not_lt.mp c22, Int32.not_lt.mp c36⟩)], rfl, rfl⟩ ⟨Nat.le_of_ble_eq_true rfl, Nat.le_of_ble_eq_true rfl⟩
  · refine r_aload_n hX dX3_isAtDigit_11 rfl ?_
    refine r_getR hX dX3_isAtDigit_12 hs.1.1 fl_X3_9 hs.2.1 ?_
    refine r_aload_n hX dX3_isAtDigit_15 rfl ?_
    refine r_getI hX dX3_isAtDigit_16 hs.1.1 fl_X3_32 ?_
    rw [p3]
    refine r_caloadN hX dX3_isAtDigit_19 hs.1.2.1 (show p < 60 by rw [nI_leI (by omega) (by omega)] at c8; omega) (by decide) ?_
    refine r_bipush (v := 48) hX dX3_isAtDigit_20 (by decide) ?_
    refine r_icmp_lt (tgt := 43) hX dX3_isAtDigit_22 (by decide) (fun c22 => ?_) (fun c22 => ?_)
    · refine r_iconst (v := 0) hX dX3_isAtDigit_43 (by decide) ?_
      rw [nI_leI (by omega) (by omega)] at c8
      first
      | exact r_zret hX dX3_isAtDigit_44 rfl ⟨by rw [if_neg (by simp; omega)], rfl, rfl⟩ ⟨Nat.le_of_ble_eq_true rfl, Nat.le_of_ble_eq_true rfl⟩
      | exact r_zret hX dX3_isAtDigit_44 rfl ⟨by rw [if_neg (by simp only [Bool.and_eq_true, decide_eq_true_eq]; exact fun h => absurd h.2.1 (Int32.not_le.mpr c22))], rfl, rfl⟩ ⟨Nat.le_of_ble_eq_true rfl, Nat.le_of_ble_eq_true rfl⟩
      | exact r_zret hX dX3_isAtDigit_44 rfl ⟨by rw [if_neg (by simp only [Bool.and_eq_true, decide_eq_true_eq]; exact fun h => absurd h.2.2 (Int32.not_le.mpr c36))], rfl, rfl⟩ ⟨Nat.le_of_ble_eq_true rfl, Nat.le_of_ble_eq_true rfl⟩
      | exact r_zret hX dX3_isAtDigit_44 rfl ⟨by rw [if_pos (by simp only [Bool.and_eq_true, decide_eq_true_eq]; exact ⟨by omega, Int32.not_lt.mp c22, Int32.not_lt.mp c36⟩)], rfl, rfl⟩ ⟨Nat.le_of_ble_eq_true rfl, Nat.le_of_ble_eq_true rfl⟩
    · refine r_aload_n hX dX3_isAtDigit_25 rfl ?_
      refine r_getR hX dX3_isAtDigit_26 hs.1.1 fl_X3_9 hs.2.1 ?_
      refine r_aload_n hX dX3_isAtDigit_29 rfl ?_
      refine r_getI hX dX3_isAtDigit_30 hs.1.1 fl_X3_32 ?_
      rw [p3]
      refine r_caloadN hX dX3_isAtDigit_33 hs.1.2.1 (show p < 60 by rw [nI_leI (by omega) (by omega)] at c8; omega) (by decide) ?_
      refine r_bipush (v := 57) hX dX3_isAtDigit_34 (by decide) ?_
      refine r_icmp_gt (tgt := 43) hX dX3_isAtDigit_36 (by decide) (fun c36 => ?_) (fun c36 => ?_)
      · refine r_iconst (v := 0) hX dX3_isAtDigit_43 (by decide) ?_
        rw [nI_leI (by omega) (by omega)] at c8
        first
        | exact r_zret hX dX3_isAtDigit_44 rfl ⟨by rw [if_neg (by simp; omega)], rfl, rfl⟩ ⟨Nat.le_of_ble_eq_true rfl, Nat.le_of_ble_eq_true rfl⟩
        | exact r_zret hX dX3_isAtDigit_44 rfl ⟨by rw [if_neg (by simp only [Bool.and_eq_true, decide_eq_true_eq]; exact fun h => absurd h.2.1 (Int32.not_le.mpr c22))], rfl, rfl⟩ ⟨Nat.le_of_ble_eq_true rfl, Nat.le_of_ble_eq_true rfl⟩
        | exact r_zret hX dX3_isAtDigit_44 rfl ⟨by rw [if_neg (by simp only [Bool.and_eq_true, decide_eq_true_eq]; exact fun h => absurd h.2.2 (Int32.not_le.mpr c36))], rfl, rfl⟩ ⟨Nat.le_of_ble_eq_true rfl, Nat.le_of_ble_eq_true rfl⟩
        | exact r_zret hX dX3_isAtDigit_44 rfl ⟨by rw [if_pos (by simp only [Bool.and_eq_true, decide_eq_true_eq]; exact ⟨by omega, Int32.not_lt.mp c22, Int32.not_lt.mp c36⟩)], rfl, rfl⟩ ⟨Nat.le_of_ble_eq_true rfl, Nat.le_of_ble_eq_true rfl⟩
      · refine r_iconst (v := 1) hX dX3_isAtDigit_39 (by decide) ?_
        refine r_goto (tgt := 44) hX dX3_isAtDigit_40 (by decide) ?_
        rw [nI_leI (by omega) (by omega)] at c8
        first
        | exact r_zret hX dX3_isAtDigit_44 rfl ⟨by rw [if_neg (by simp; omega)], rfl, rfl⟩ ⟨Nat.le_of_ble_eq_true rfl, Nat.le_of_ble_eq_true rfl⟩
        | exact r_zret hX dX3_isAtDigit_44 rfl ⟨by rw [if_neg (by simp only [Bool.and_eq_true, decide_eq_true_eq]; exact fun h => absurd h.2.1 (Int32.not_le.mpr c22))], rfl, rfl⟩ ⟨Nat.le_of_ble_eq_true rfl, Nat.le_of_ble_eq_true rfl⟩
        | exact r_zret hX dX3_isAtDigit_44 rfl ⟨by rw [if_neg (by simp only [Bool.and_eq_true, decide_eq_true_eq]; exact fun h => absurd h.2.2 (Int32.not_le.mpr c36))], rfl, rfl⟩ ⟨Nat.le_of_ble_eq_true rfl, Nat.le_of_ble_eq_true rfl⟩
        | exact r_zret hX dX3_isAtDigit_44 rfl ⟨by rw [if_pos (by simp only [Bool.and_eq_true, decide_eq_true_eq]; exact ⟨by omega, Int32.not_lt.mp c22, Int32.not_lt.mp c36⟩)], rfl, rfl⟩ ⟨Nat.le_of_ble_eq_true rfl, Nat.le_of_ble_eq_true rfl⟩
set_option maxRecDepth 20000 in
set_option maxHeartbeats 4000000 in
theorem s_X3_readSign (E : qE) (g : qG) (m : qM) (q n p : Nat) (x : Int32) (hs : ProS g m q) (hp : PosIs m q n p) : Sp E yX3_readSign cX3_readSign 2 (some .boolean) 0 0 0 [.ref q, .int x] g m (fun v g' m' => v = some (.int (if p < n ∧ qI m (q + 1) p = x then 1 else 0)) ∧ g' = g ∧ m' = wI m q 4 (nI (if p < n ∧ qI m (q + 1) p = x then p + 1 else p))) := by
  refine Sp.of (by decide) [some (.ref q), some (.int x)] rfl rfl (Nat.le_of_ble_eq_true rfl) (fun X hX => ?_)
  obtain ⟨p1, p2, p3, p4⟩ := hp
  refine r_aload_n hX dX3_readSign_0 rfl ?_
  refine r_getI hX dX3_readSign_1 hs.1.1 fl_X3_32 ?_
  rw [p3]
  refine r_aload_n hX dX3_readSign_4 rfl ?_
  refine r_getI hX dX3_readSign_5 hs.1.1 fl_X3_24 ?_
  rw [p1]
  refine r_icmp_ge (tgt := 24) hX dX3_readSign_8 (by decide) (fun c8 => ?_) (fun c8 => ?_)
  · refine r_iconst (v := 0) hX dX3_readSign_24 (by decide) ?_
    have hh : ¬ (p < n ∧ qI m (q + 1) p = x) := by
      rw [nI_leI (by omega) (by omega)] at c8
      first
      | exact fun h => absurd h.1 (by omega)
      | exact fun h => c21 h.2
    exact r_zret hX dX3_readSign_25 rfl ⟨by rw [if_neg hh], rfl, by rw [if_neg hh, wI_id p3]⟩ ⟨Nat.le_of_ble_eq_true rfl, Nat.le_of_ble_eq_true rfl⟩
  · refine r_aload_n hX dX3_readSign_11 rfl ?_
    refine r_getR hX dX3_readSign_12 hs.1.1 fl_X3_9 hs.2.1 ?_
    refine r_aload_n hX dX3_readSign_15 rfl ?_
    refine r_getI hX dX3_readSign_16 hs.1.1 fl_X3_32 ?_
    rw [p3]
    refine r_caloadN hX dX3_readSign_19 hs.1.2.1 (show p < 60 by rw [nI_leI (by omega) (by omega)] at c8; omega) (by decide) ?_
    refine r_iload_n hX dX3_readSign_20 rfl ?_
    refine r_icmp_eq (tgt := 26) hX dX3_readSign_21 (by decide) (fun c21 => ?_) (fun c21 => ?_)
    · refine r_aload_n hX dX3_readSign_26 rfl ?_
      refine r_dup hX dX3_readSign_27 rfl ?_
      refine r_getI hX dX3_readSign_28 hs.1.1 fl_X3_32 ?_
      rw [p3]
      refine r_iconst (v := 1) hX dX3_readSign_31 (by decide) ?_
      refine r_iadd hX dX3_readSign_32 ?_
      rw [show nI p + 1 = nI (p + 1) from nI_1 p]
      refine r_putI hX dX3_readSign_33 hs.1.1 fl_X3_32 ?_
      refine r_iconst (v := 1) hX dX3_readSign_36 (by decide) ?_
      have hh : p < n ∧ qI m (q + 1) p = x := ⟨by rw [nI_leI (by omega) (by omega)] at c8; omega, c21⟩
      exact r_zret hX dX3_readSign_37 rfl ⟨by rw [if_pos hh], rfl, by rw [if_pos hh]⟩ ⟨Nat.le_of_ble_eq_true rfl, Nat.le_of_ble_eq_true rfl⟩
    · refine r_iconst (v := 0) hX dX3_readSign_24 (by decide) ?_
      have hh : ¬ (p < n ∧ qI m (q + 1) p = x) := by
        rw [nI_leI (by omega) (by omega)] at c8
        first
        | exact fun h => absurd h.1 (by omega)
        | exact fun h => c21 h.2
      exact r_zret hX dX3_readSign_25 rfl ⟨by rw [if_neg hh], rfl, by rw [if_neg hh, wI_id p3]⟩ ⟨Nat.le_of_ble_eq_true rfl, Nat.le_of_ble_eq_true rfl⟩
theorem digA_lt {tx : Nat → Int32} {n p : Nat} (h : digA tx n p = true) : p < n := by
  unfold digA at h
  simp only [Bool.and_eq_true, decide_eq_true_eq] at h
  exact h.1
def rN (tx : Nat → Int32) (n : Nat) : Nat → Nat → Int32 → Int32 × Nat
  | 0, p, v => (v, p)
  | k + 1, p, v => if digA tx n p = true then rN tx n k (p + 1) (v * 10 + (tx p - 48)) else (v, p)
theorem rN_le {tx : Nat → Int32} {n : Nat} : ∀ (k p : Nat) (v : Int32), p ≤ n → p ≤ (rN tx n k p v).2 ∧ (rN tx n k p v).2 ≤ n
  | 0, p, v, h => ⟨Nat.le_refl p, h⟩
  | k + 1, p, v, h => by
    unfold rN
    split
    · rename_i hD
      have := digA_lt hD
      have := rN_le (tx := tx) (n := n) k (p + 1) (v * 10 + (tx p - 48)) (by omega)
      exact ⟨by omega, this.2⟩
    · exact ⟨Nat.le_refl p, h⟩
theorem PosIs.at {m : qM} {q n p p1 : Nat} (h : PosIs m q n p) (hp : p1 ≤ n) : PosIs (wI m q 4 (nI p1)) q n p1 := ⟨(qI_wI_k _ _ _ _ (by decide)).trans h.1, h.2.1, qI_wI_s _ _ _ _, hp⟩
theorem tx_wI (m : qM) (q : Nat) (v : Int32) : (fun j => qI (wI m q 4 v) (q + 1) j) = (fun j => qI m (q + 1) j) := funext fun j => qI_wI_a _ _ _ _ (by omega)
set_option maxRecDepth 20000 in
set_option maxHeartbeats 4000000 in
theorem s_X3_readNumber_l {E : qE} {X : qX} {Q : State → Prop} {g : qG} {m : qM} (hX : MC E yX3_readNumber cX3_readNumber 4 (some .int) 1 0 0 [] X) {q n p d : Nat} (hs : ProS g m q) (hp : PosIs m q n p) (hd : d < 2 ^ 31) : ∀ (k i p1 : Nat) (v : Int32), i + k = d → p1 ≤ n → (∀ (j : Int32), WS E X 0 0 Q g (wI m q 4 (nI (rN (fun j => qI m (q + 1) j) n k p1 v).2)) 59 [some (.ref q), some (.int (nI d)), some (.int (rN (fun j => qI m (q + 1) j) n k p1 v).1), some (.int j)] []) → WS E X 0 0 Q g (wI m q 4 (nI p1)) 13 [some (.ref q), some (.int (nI d)), some (.int v), some (.int (nI i))] [] := by
  intro k
  induction k with
  | zero =>
    intro i p1 v hi hp1 K
    have hib : i = d := by omega
    subst hib
    refine r_iload_n hX dX3_readNumber_13 rfl ?_
    refine r_iload_n hX dX3_readNumber_14 rfl ?_
    refine r_icmp_ge (tgt := 59) hX dX3_readNumber_15 (by decide) (fun c15 => ?_) (fun c15 => ?_)
    · exact K _
    · exact absurd (nI_le (Nat.le_refl _) (by omega)) c15
  | succ k ih =>
    intro i p1 v hi hp1 K
    have h60 := hp.2.1
    have hf : rN (fun j => qI m (q + 1) j) n (k + 1) p1 v = if digA (fun j => qI m (q + 1) j) n p1 = true then rN (fun j => qI m (q + 1) j) n k (p1 + 1) (v * 10 + (qI m (q + 1) p1 - 48)) else (v, p1) := rfl
    refine r_iload_n hX dX3_readNumber_13 rfl ?_
    refine r_iload_n hX dX3_readNumber_14 rfl ?_
    refine r_icmp_ge (tgt := 59) hX dX3_readNumber_15 (by decide) (fun c15 => ?_) (fun c15 => ?_)
    · exact absurd c15 (nI_ge (by omega) (by omega))
    · refine r_aload_n hX dX3_readNumber_18 rfl ?_
      refine r_callV hX dX3_readNumber_19 (s_X3_isAtDigit E g (wI m q 4 (nI p1)) q n p1 (hs.to rfl) (hp.at hp1)) ml_X3_81 rfl rfl hs.1.1 rfl ⟨Nat.le_of_ble_eq_true rfl, Nat.le_of_ble_eq_true rfl⟩ ⟨Nat.le_of_ble_eq_true rfl, Nat.le_of_ble_eq_true rfl, rfl, Nat.le_of_ble_eq_true rfl⟩ (fun v19 g19 m19 hp => ?_)
      obtain ⟨hv, hg, hm⟩ := hp
      subst v19
      subst g19
      subst m19
      rw [tx_wI]
      refine r_if_eq (tgt := 59) hX dX3_readNumber_22 (by decide) (fun c22 => ?_) (fun c22 => ?_)
      · rw [if_neg (by intro h; rw [if_pos h] at c22; exact absurd c22 (by decide))] at hf
        rw [hf] at K
        exact K _
      · have hD : digA (fun j => qI m (q + 1) j) n p1 = true := Classical.byContradiction (fun h => c22 (if_neg h))
        have hlt := digA_lt hD
        have hlt60 : p1 < 60 := by omega
        refine r_iload_n hX dX3_readNumber_25 rfl ?_
        refine r_bipush (v := 10) hX dX3_readNumber_26 (by decide) ?_
        refine r_imul hX dX3_readNumber_28 ?_
        refine r_aload_n hX dX3_readNumber_29 rfl ?_
        refine r_getR hX dX3_readNumber_30 hs.1.1 fl_X3_9 (hs.to rfl).2.1 ?_
        refine r_aload_n hX dX3_readNumber_33 rfl ?_
        refine r_getI hX dX3_readNumber_34 hs.1.1 fl_X3_32 ?_
        rw [qI_wI_s]
        refine r_caloadN hX dX3_readNumber_37 hs.1.2.1 hlt60 (by decide) ?_
        rw [qI_wI_a _ _ _ _ (by omega)]
        refine r_bipush (v := 48) hX dX3_readNumber_38 (by decide) ?_
        refine r_isub hX dX3_readNumber_40 ?_
        refine r_iadd hX dX3_readNumber_41 ?_
        refine r_istore_n hX dX3_readNumber_42 (Nat.le_of_ble_eq_true rfl) rfl ?_
        refine r_aload_n hX dX3_readNumber_43 rfl ?_
        refine r_dup hX dX3_readNumber_44 rfl ?_
        refine r_getI hX dX3_readNumber_45 hs.1.1 fl_X3_32 ?_
        rw [qI_wI_s]
        refine r_iconst (v := 1) hX dX3_readNumber_48 (by decide) ?_
        refine r_iadd hX dX3_readNumber_49 ?_
        rw [show nI p1 + 1 = nI (p1 + 1) from nI_1 p1]
        refine r_putI hX dX3_readNumber_50 hs.1.1 fl_X3_32 ?_
        refine r_iinc (v := nI (i + 1)) hX dX3_readNumber_53 rfl (ii1 i) rfl ?_
        refine r_goto (tgt := 13) hX dX3_readNumber_56 (by decide) ?_
        rw [wI_wI]
        rw [if_pos hD] at hf
        rw [hf] at K
        exact ih (i + 1) (p1 + 1) _ (by omega) (by omega) K
set_option maxRecDepth 20000 in
set_option maxHeartbeats 4000000 in
theorem s_X3_readNumber (E : qE) (g : qG) (m : qM) (q n p d : Nat) (hs : ProS g m q) (hp : PosIs m q n p) (hd : d < 2 ^ 31) : Sp E yX3_readNumber cX3_readNumber 4 (some .int) 1 0 0 [.ref q, .int (nI d)] g m (fun v g' m' => v = some (.int (if digA (fun j => qI m (q + 1) j) n p = true then (rN (fun j => qI m (q + 1) j) n d p 0).1 else -1)) ∧ g' = g ∧ m' = wI m q 4 (nI (if digA (fun j => qI m (q + 1) j) n p = true then (rN (fun j => qI m (q + 1) j) n d p 0).2 else p))) := by
  refine Sp.of (by decide) [some (.ref q), some (.int (nI d)), none, none] rfl rfl (Nat.le_of_ble_eq_true rfl) (fun X hX => ?_)
  refine r_aload_n hX dX3_readNumber_0 rfl ?_
  refine r_callV hX dX3_readNumber_1 (s_X3_isAtDigit E g m q n p hs hp) ml_X3_81 rfl rfl hs.1.1 rfl ⟨Nat.le_of_ble_eq_true rfl, Nat.le_of_ble_eq_true rfl⟩ ⟨Nat.le_of_ble_eq_true rfl, Nat.le_of_ble_eq_true rfl, rfl, Nat.le_of_ble_eq_true rfl⟩ (fun v1 g1 m1 hp => ?_)
  obtain ⟨hv, hg, hm⟩ := hp
  subst v1
  subst g1
  subst m1
  refine r_if_ne (tgt := 9) hX dX3_readNumber_4 (by decide) (fun c4 => ?_) (fun c4 => ?_)
  · have hD : digA (fun j => qI m (q + 1) j) n p = true := Classical.byContradiction (fun h => c4 (if_neg h))
    refine r_iconst (v := 0) hX dX3_readNumber_9 (by decide) ?_
    refine r_istore_n hX dX3_readNumber_10 (Nat.le_of_ble_eq_true rfl) rfl ?_
    refine r_iconst (v := 0) hX dX3_readNumber_11 (by decide) ?_
    refine r_istore_n hX dX3_readNumber_12 (Nat.le_of_ble_eq_true rfl) rfl ?_
    have hm : WS E X (0 + 0) (0 + 0) (RQ E X (fun v g' m' => v = some (.int (if digA (fun j => qI m (q + 1) j) n p = true then (rN (fun j => qI m (q + 1) j) n d p 0).1 else -1)) ∧ g' = g ∧ m' = wI m q 4 (nI (if digA (fun j => qI m (q + 1) j) n p = true then (rN (fun j => qI m (q + 1) j) n d p 0).2 else p))) 0 0) g (wI m q 4 (nI p)) 13 [some (.ref q), some (.int (nI d)), some (.int 0), some (.int (nI 0))] [] := by
      refine s_X3_readNumber_l hX hs hp hd d 0 p 0 (Nat.zero_add d) hp.2.2.2 (fun j => ?_)
      refine r_iload_n hX dX3_readNumber_59 rfl ?_
      exact r_iret hX dX3_readNumber_60 ⟨by rw [if_pos hD], rfl, by rw [if_pos hD]⟩ ⟨Nat.le_of_ble_eq_true rfl, Nat.le_of_ble_eq_true rfl⟩
    rw [wI_id hp.2.2.1] at hm
    exact hm
  · refine r_iconst (v := (-1)) hX dX3_readNumber_7 (by decide) ?_
    have hD : ¬ digA (fun j => qI m (q + 1) j) n p = true := fun h => by rw [if_pos h] at c4; exact absurd c4 (by decide)
    exact r_iret hX dX3_readNumber_8 ⟨by rw [if_neg hD], rfl, by rw [if_neg hD, wI_id hp.2.2.1]⟩ ⟨Nat.le_of_ble_eq_true rfl, Nat.le_of_ble_eq_true rfl⟩
set_option maxRecDepth 20000 in
set_option maxHeartbeats 4000000 in
theorem s_X3_wordOf (E : qE) (g : qG) (m : qM) (i : Nat) (hi : i < 7) : Sp E yX3_wordOf cX3_wordOf 1 (some (.object "java/lang/String")) 0 0 0 [.int (nI i)] g m (fun v g' m' => v = some (.ref (eS E i)) ∧ g' = g ∧ m' = m) := by
  rcases i with _ | _ | _ | _ | _ | _ | _ | i
  · refine Sp.of (by decide) [some (.int (nI 0))] rfl rfl (Nat.le_of_ble_eq_true rfl) (fun X hX => ?_)
    refine r_iload_n hX dX3_wordOf_0 rfl ?_
    refine r_tableIn (off := 39) (tgt := 40) hX dX3_wordOf_1 (by decide) (by decide) (by decide) (by decide) ?_
    refine r_ldcS (i := 0) (tx := "comet ") hX dX3_wordOf_40 rfl ?_
    exact r_aret hX dX3_wordOf_42 (Or.inl ⟨_, rfl⟩) (Or.inr ⟨_, rfl⟩) ⟨rfl, rfl, rfl⟩ ⟨Nat.le_of_ble_eq_true rfl, Nat.le_of_ble_eq_true rfl⟩
  · refine Sp.of (by decide) [some (.int (nI 1))] rfl rfl (Nat.le_of_ble_eq_true rfl) (fun X hX => ?_)
    refine r_iload_n hX dX3_wordOf_0 rfl ?_
    refine r_tableIn (off := 42) (tgt := 43) hX dX3_wordOf_1 (by decide) (by decide) (by decide) (by decide) ?_
    refine r_ldcS (i := 1) (tx := "drop ") hX dX3_wordOf_43 rfl ?_
    exact r_aret hX dX3_wordOf_45 (Or.inl ⟨_, rfl⟩) (Or.inr ⟨_, rfl⟩) ⟨rfl, rfl, rfl⟩ ⟨Nat.le_of_ble_eq_true rfl, Nat.le_of_ble_eq_true rfl⟩
  · refine Sp.of (by decide) [some (.int (nI 2))] rfl rfl (Nat.le_of_ble_eq_true rfl) (fun X hX => ?_)
    refine r_iload_n hX dX3_wordOf_0 rfl ?_
    refine r_tableIn (off := 45) (tgt := 46) hX dX3_wordOf_1 (by decide) (by decide) (by decide) (by decide) ?_
    refine r_ldcS (i := 2) (tx := "turn ") hX dX3_wordOf_46 rfl ?_
    exact r_aret hX dX3_wordOf_48 (Or.inl ⟨_, rfl⟩) (Or.inr ⟨_, rfl⟩) ⟨rfl, rfl, rfl⟩ ⟨Nat.le_of_ble_eq_true rfl, Nat.le_of_ble_eq_true rfl⟩
  · refine Sp.of (by decide) [some (.int (nI 3))] rfl rfl (Nat.le_of_ble_eq_true rfl) (fun X hX => ?_)
    refine r_iload_n hX dX3_wordOf_0 rfl ?_
    refine r_tableIn (off := 48) (tgt := 49) hX dX3_wordOf_1 (by decide) (by decide) (by decide) (by decide) ?_
    refine r_ldcS (i := 3) (tx := "shine ") hX dX3_wordOf_49 rfl ?_
    exact r_aret hX dX3_wordOf_51 (Or.inl ⟨_, rfl⟩) (Or.inr ⟨_, rfl⟩) ⟨rfl, rfl, rfl⟩ ⟨Nat.le_of_ble_eq_true rfl, Nat.le_of_ble_eq_true rfl⟩
  · refine Sp.of (by decide) [some (.int (nI 4))] rfl rfl (Nat.le_of_ble_eq_true rfl) (fun X hX => ?_)
    refine r_iload_n hX dX3_wordOf_0 rfl ?_
    refine r_tableIn (off := 51) (tgt := 52) hX dX3_wordOf_1 (by decide) (by decide) (by decide) (by decide) ?_
    refine r_ldcS (i := 4) (tx := "day ") hX dX3_wordOf_52 rfl ?_
    exact r_aret hX dX3_wordOf_54 (Or.inl ⟨_, rfl⟩) (Or.inr ⟨_, rfl⟩) ⟨rfl, rfl, rfl⟩ ⟨Nat.le_of_ble_eq_true rfl, Nat.le_of_ble_eq_true rfl⟩
  · refine Sp.of (by decide) [some (.int (nI 5))] rfl rfl (Nat.le_of_ble_eq_true rfl) (fun X hX => ?_)
    refine r_iload_n hX dX3_wordOf_0 rfl ?_
    refine r_tableIn (off := 54) (tgt := 55) hX dX3_wordOf_1 (by decide) (by decide) (by decide) (by decide) ?_
    refine r_ldcS (i := 5) (tx := "vac ") hX dX3_wordOf_55 rfl ?_
    exact r_aret hX dX3_wordOf_57 (Or.inl ⟨_, rfl⟩) (Or.inr ⟨_, rfl⟩) ⟨rfl, rfl, rfl⟩ ⟨Nat.le_of_ble_eq_true rfl, Nat.le_of_ble_eq_true rfl⟩
  · refine Sp.of (by decide) [some (.int (nI 6))] rfl rfl (Nat.le_of_ble_eq_true rfl) (fun X hX => ?_)
    refine r_iload_n hX dX3_wordOf_0 rfl ?_
    refine r_tableOut (tgt := 58) hX dX3_wordOf_1 (by decide) (by decide) ?_
    refine r_ldcS (i := 6) (tx := "rate ") hX dX3_wordOf_58 rfl ?_
    exact r_aret hX dX3_wordOf_60 (Or.inl ⟨_, rfl⟩) (Or.inr ⟨_, rfl⟩) ⟨rfl, rfl, rfl⟩ ⟨Nat.le_of_ble_eq_true rfl, Nat.le_of_ble_eq_true rfl⟩
  · omega
/-- how many numbers a command of the kind has, how many digits each -/
def nOf (i : Nat) : Nat := if i = 0 then 3 else if i = 2 ∨ i = 3 ∨ i = 5 then 2 else 1
def dOf (i : Nat) : Nat := if i = 6 then 1 else 2
theorem nOf_le (i : Nat) : nOf i ≤ 3 := by unfold nOf; split <;> (try split) <;> omega
set_option maxRecDepth 20000 in
set_option maxHeartbeats 4000000 in
theorem s_X3_numbersOf (E : qE) (g : qG) (m : qM) (i : Nat) (hi : i < 7) : Sp E yX3_numbersOf cX3_numbersOf 1 (some .int) 0 0 0 [.int (nI i)] g m (fun v g' m' => v = some (.int (nI (nOf i))) ∧ g' = g ∧ m' = m) := by
  rcases i with _ | _ | _ | _ | _ | _ | _ | i
  · refine Sp.of (by decide) [some (.int (nI 0))] rfl rfl (Nat.le_of_ble_eq_true rfl) (fun X hX => ?_)
    refine r_iload_n hX dX3_numbersOf_0 rfl ?_
    refine r_tableIn (off := 39) (tgt := 40) hX dX3_numbersOf_1 (by decide) (by decide) (by decide) (by decide) ?_
    refine r_iconst (v := 3) hX dX3_numbersOf_40 (by decide) ?_
    exact r_iret hX dX3_numbersOf_41 ⟨rfl, rfl, rfl⟩ ⟨Nat.le_of_ble_eq_true rfl, Nat.le_of_ble_eq_true rfl⟩
  · refine Sp.of (by decide) [some (.int (nI 1))] rfl rfl (Nat.le_of_ble_eq_true rfl) (fun X hX => ?_)
    refine r_iload_n hX dX3_numbersOf_0 rfl ?_
    refine r_tableIn (off := 43) (tgt := 44) hX dX3_numbersOf_1 (by decide) (by decide) (by decide) (by decide) ?_
    refine r_iconst (v := 1) hX dX3_numbersOf_44 (by decide) ?_
    exact r_iret hX dX3_numbersOf_45 ⟨rfl, rfl, rfl⟩ ⟨Nat.le_of_ble_eq_true rfl, Nat.le_of_ble_eq_true rfl⟩
  · refine Sp.of (by decide) [some (.int (nI 2))] rfl rfl (Nat.le_of_ble_eq_true rfl) (fun X hX => ?_)
    refine r_iload_n hX dX3_numbersOf_0 rfl ?_
    refine r_tableIn (off := 41) (tgt := 42) hX dX3_numbersOf_1 (by decide) (by decide) (by decide) (by decide) ?_
    refine r_iconst (v := 2) hX dX3_numbersOf_42 (by decide) ?_
    exact r_iret hX dX3_numbersOf_43 ⟨rfl, rfl, rfl⟩ ⟨Nat.le_of_ble_eq_true rfl, Nat.le_of_ble_eq_true rfl⟩
  · refine Sp.of (by decide) [some (.int (nI 3))] rfl rfl (Nat.le_of_ble_eq_true rfl) (fun X hX => ?_)
    refine r_iload_n hX dX3_numbersOf_0 rfl ?_
    refine r_tableIn (off := 41) (tgt := 42) hX dX3_numbersOf_1 (by decide) (by decide) (by decide) (by decide) ?_
    refine r_iconst (v := 2) hX dX3_numbersOf_42 (by decide) ?_
    exact r_iret hX dX3_numbersOf_43 ⟨rfl, rfl, rfl⟩ ⟨Nat.le_of_ble_eq_true rfl, Nat.le_of_ble_eq_true rfl⟩
  · refine Sp.of (by decide) [some (.int (nI 4))] rfl rfl (Nat.le_of_ble_eq_true rfl) (fun X hX => ?_)
    refine r_iload_n hX dX3_numbersOf_0 rfl ?_
    refine r_tableIn (off := 43) (tgt := 44) hX dX3_numbersOf_1 (by decide) (by decide) (by decide) (by decide) ?_
    refine r_iconst (v := 1) hX dX3_numbersOf_44 (by decide) ?_
    exact r_iret hX dX3_numbersOf_45 ⟨rfl, rfl, rfl⟩ ⟨Nat.le_of_ble_eq_true rfl, Nat.le_of_ble_eq_true rfl⟩
  · refine Sp.of (by decide) [some (.int (nI 5))] rfl rfl (Nat.le_of_ble_eq_true rfl) (fun X hX => ?_)
    refine r_iload_n hX dX3_numbersOf_0 rfl ?_
    refine r_tableIn (off := 41) (tgt := 42) hX dX3_numbersOf_1 (by decide) (by decide) (by decide) (by decide) ?_
    refine r_iconst (v := 2) hX dX3_numbersOf_42 (by decide) ?_
    exact r_iret hX dX3_numbersOf_43 ⟨rfl, rfl, rfl⟩ ⟨Nat.le_of_ble_eq_true rfl, Nat.le_of_ble_eq_true rfl⟩
  · refine Sp.of (by decide) [some (.int (nI 6))] rfl rfl (Nat.le_of_ble_eq_true rfl) (fun X hX => ?_)
    refine r_iload_n hX dX3_numbersOf_0 rfl ?_
    refine r_tableOut (tgt := 44) hX dX3_numbersOf_1 (by decide) (by decide) ?_
    refine r_iconst (v := 1) hX dX3_numbersOf_44 (by decide) ?_
    exact r_iret hX dX3_numbersOf_45 ⟨rfl, rfl, rfl⟩ ⟨Nat.le_of_ble_eq_true rfl, Nat.le_of_ble_eq_true rfl⟩
  · omega
set_option maxRecDepth 20000 in
set_option maxHeartbeats 4000000 in
theorem s_X3_digitsOf (E : qE) (g : qG) (m : qM) (i : Nat) (hi : i < 7) : Sp E yX3_digitsOf cX3_digitsOf 1 (some .int) 0 0 0 [.int (nI i)] g m (fun v g' m' => v = some (.int (nI (dOf i))) ∧ g' = g ∧ m' = m) := by
  refine Sp.of (by decide) [some (.int (nI i))] rfl rfl (Nat.le_of_ble_eq_true rfl) (fun X hX => ?_)
  refine r_iload_n hX dX3_digitsOf_0 rfl ?_
  refine r_bipush (v := 6) hX dX3_digitsOf_1 (by decide) ?_
  refine r_icmp_ne (tgt := 10) hX dX3_digitsOf_3 (by decide) (fun c3 => ?_) (fun c3 => ?_)
  · refine r_iconst (v := 2) hX dX3_digitsOf_10 (by decide) ?_
    unfold dOf
    first
    | (have h : i = 6 := (nI_eq (a := i) (b := 6) (by omega) (by decide)).mp c3
       exact r_iret hX dX3_digitsOf_11 ⟨by rw [if_pos h]; rfl, rfl, rfl⟩ ⟨Nat.le_of_ble_eq_true rfl, Nat.le_of_ble_eq_true rfl⟩)
    | exact r_iret hX dX3_digitsOf_11 ⟨by rw [if_neg (fun h => c3 (by rw [h]; rfl))]; rfl, rfl, rfl⟩ ⟨Nat.le_of_ble_eq_true rfl, Nat.le_of_ble_eq_true rfl⟩
  · refine r_iconst (v := 1) hX dX3_digitsOf_6 (by decide) ?_
    refine r_goto (tgt := 11) hX dX3_digitsOf_7 (by decide) ?_
    unfold dOf
    first
    | (have h : i = 6 := (nI_eq (a := i) (b := 6) (by omega) (by decide)).mp c3
       exact r_iret hX dX3_digitsOf_11 ⟨by rw [if_pos h]; rfl, rfl, rfl⟩ ⟨Nat.le_of_ble_eq_true rfl, Nat.le_of_ble_eq_true rfl⟩)
    | exact r_iret hX dX3_digitsOf_11 ⟨by rw [if_neg (fun h => c3 (by rw [h]; rfl))]; rfl, rfl, rfl⟩ ⟨Nat.le_of_ble_eq_true rfl, Nat.le_of_ble_eq_true rfl⟩
/-- how many signs of x stand from p on -/
def mS (tx : Nat → Int32) (n : Nat) : Nat → List Int32 → Nat
  | _, [] => 0
  | p, c :: r => if p < n ∧ tx p = c then mS tx n (p + 1) r + 1 else 0
theorem mS_le (tx : Nat → Int32) (n : Nat) : ∀ (r : List Int32) (p : Nat), p ≤ n → mS tx n p r ≤ r.length ∧ p + mS tx n p r ≤ n
  | [], p, h => ⟨Nat.le_refl 0, h⟩
  | c :: r, p, h => by
    unfold mS
    split
    · rename_i hc
      have := mS_le tx n r (p + 1) (by omega)
      exact ⟨Nat.succ_le_succ this.1, by omega⟩
    · exact ⟨Nat.zero_le _, h⟩
theorem drop_get {x : List Int32} {j : Nat} (h : j < x.length) : x.drop j = x.getD j 0 :: x.drop (j + 1) := by
  rw [List.drop_eq_getElem_cons h, List.getD_eq_getElem?_getD, List.getElem?_eq_getElem h]
  rfl
set_option maxRecDepth 20000 in
set_option maxHeartbeats 4000000 in
theorem s_X3_matched_l {E : qE} {X : qX} {Q : State → Prop} {g : qG} {m : qM} (hX : MC E yX3_matchedSigns cX3_matchedSigns 3 (some .int) 4 0 0 [] X) {q n p : Nat} (hs : ProS g m q) (hp : PosIs m q n p) {i : Nat} {x : List Int32} (hq : qwrd[i]? = some x) : ∀ (k j : Nat), j + k = x.length → p + j ≤ n → (WS E X 0 0 Q g m 48 [some (.ref q), some (.ref (eS E i)), some (.int (nI (j + mS (fun j => qI m (q + 1) j) n (p + j) (x.drop j))))] []) → WS E X 0 0 Q g m 2 [some (.ref q), some (.ref (eS E i)), some (.int (nI j))] [] := by
  intro k
  have hsz := wrd_sz hq
  have h60 := hp.2.1
  induction k with
  | zero =>
    intro j hj hpj K
    have e0 : mS (fun j => qI m (q + 1) j) n (p + j) (x.drop j) = 0 := by rw [List.drop_eq_nil_of_le (by omega)]; rfl
    rw [e0, Nat.add_zero] at K
    refine r_iload_n hX dX3_matchedSigns_2 rfl ?_
    refine r_aload_n hX dX3_matchedSigns_3 rfl ?_
    refine r_callStr hX dX3_matchedSigns_4 hq (s_J0_length E g m hq) ml_X3_67 rfl rfl rfl ⟨Nat.le_of_ble_eq_true rfl, Nat.le_of_ble_eq_true rfl⟩ ⟨Nat.le_of_ble_eq_true rfl, Nat.le_of_ble_eq_true rfl, rfl, Nat.le_of_ble_eq_true rfl⟩ (fun v4 g4 m4 hp => ?_)
    obtain ⟨hv, hg, hm⟩ := hp
    subst v4
    subst g4
    subst m4
    refine r_icmp_ge (tgt := 48) hX dX3_matchedSigns_7 (by decide) (fun c7 => ?_) (fun c7 => ?_)
    · exact K
    · exact absurd (nI_le (by omega) (by omega)) c7
  | succ k ih =>
    intro j hj hpj K
    have hjl : j < x.length := by omega
    have e0 : mS (fun j => qI m (q + 1) j) n (p + j) (x.drop j) = if p + j < n ∧ qI m (q + 1) (p + j) = x.getD j 0 then mS (fun j => qI m (q + 1) j) n (p + j + 1) (x.drop (j + 1)) + 1 else 0 := by rw [drop_get hjl]; rfl
    refine r_iload_n hX dX3_matchedSigns_2 rfl ?_
    refine r_aload_n hX dX3_matchedSigns_3 rfl ?_
    refine r_callStr hX dX3_matchedSigns_4 hq (s_J0_length E g m hq) ml_X3_67 rfl rfl rfl ⟨Nat.le_of_ble_eq_true rfl, Nat.le_of_ble_eq_true rfl⟩ ⟨Nat.le_of_ble_eq_true rfl, Nat.le_of_ble_eq_true rfl, rfl, Nat.le_of_ble_eq_true rfl⟩ (fun v4 g4 m4 hp => ?_)
    obtain ⟨hv, hg, hm⟩ := hp
    subst v4
    subst g4
    subst m4
    refine r_icmp_ge (tgt := 48) hX dX3_matchedSigns_7 (by decide) (fun c7 => ?_) (fun c7 => ?_)
    · exact absurd c7 (nI_ge (by omega) (by omega))
    · refine r_aload_n hX dX3_matchedSigns_10 rfl ?_
      refine r_getI hX dX3_matchedSigns_11 hs.1.1 fl_X3_32 ?_
      rw [hp.2.2.1]
      refine r_iload_n hX dX3_matchedSigns_14 rfl ?_
      refine r_iadd hX dX3_matchedSigns_15 ?_
      rw [nI_add]
      refine r_aload_n hX dX3_matchedSigns_16 rfl ?_
      refine r_getI hX dX3_matchedSigns_17 hs.1.1 fl_X3_24 ?_
      rw [hp.1]
      refine r_icmp_ge (tgt := 48) hX dX3_matchedSigns_20 (by decide) (fun c20 => ?_) (fun c20 => ?_)
      · have hno : ¬ (p + j < n ∧ qI m (q + 1) (p + j) = x.getD j 0) := by
          first
          | exact fun h => absurd c20 (nI_ge h.1 (by omega))
          | exact fun h => c39 h.2
        rw [e0, if_neg hno, Nat.add_zero] at K
        exact K
      · have hlt : p + j < n := by rw [nI_leI (by omega) (by omega)] at c20; omega
        refine r_aload_n hX dX3_matchedSigns_23 rfl ?_
        refine r_getR hX dX3_matchedSigns_24 hs.1.1 fl_X3_9 hs.2.1 ?_
        refine r_aload_n hX dX3_matchedSigns_27 rfl ?_
        refine r_getI hX dX3_matchedSigns_28 hs.1.1 fl_X3_32 ?_
        rw [hp.2.2.1]
        refine r_iload_n hX dX3_matchedSigns_31 rfl ?_
        refine r_iadd hX dX3_matchedSigns_32 ?_
        rw [nI_add]
        refine r_caloadN hX dX3_matchedSigns_33 hs.1.2.1 (show p + j < 60 by omega) (by decide) ?_
        refine r_aload_n hX dX3_matchedSigns_34 rfl ?_
        refine r_iload_n hX dX3_matchedSigns_35 rfl ?_
        refine r_callStr hX dX3_matchedSigns_36 hq (s_J0_charAt E g m hq j hjl) ml_X3_77 rfl rfl rfl ⟨Nat.le_of_ble_eq_true rfl, Nat.le_of_ble_eq_true rfl⟩ ⟨Nat.le_of_ble_eq_true rfl, Nat.le_of_ble_eq_true rfl, rfl, Nat.le_of_ble_eq_true rfl⟩ (fun v36 g36 m36 hp => ?_)
        obtain ⟨hv, hg, hm⟩ := hp
        subst v36
        subst g36
        subst m36
        refine r_icmp_ne (tgt := 48) hX dX3_matchedSigns_39 (by decide) (fun c39 => ?_) (fun c39 => ?_)
        · have hno : ¬ (p + j < n ∧ qI m (q + 1) (p + j) = x.getD j 0) := by
            first
            | exact fun h => absurd c20 (nI_ge h.1 (by omega))
            | exact fun h => c39 h.2
          rw [e0, if_neg hno, Nat.add_zero] at K
          exact K
        · refine r_iinc (v := nI (j + 1)) hX dX3_matchedSigns_42 rfl (ii1 j) rfl ?_
          refine r_goto (tgt := 2) hX dX3_matchedSigns_45 (by decide) ?_
          rw [e0, if_pos ⟨hlt, c39⟩] at K
          exact ih (j + 1) (by omega) (by omega) (by rw [show j + 1 + mS (fun j => qI m (q + 1) j) n (p + (j + 1)) (x.drop (j + 1)) = j + (mS (fun j => qI m (q + 1) j) n (p + j + 1) (x.drop (j + 1)) + 1) by rw [show p + (j + 1) = p + j + 1 by omega]; omega]; exact K)
set_option maxRecDepth 20000 in
set_option maxHeartbeats 4000000 in
theorem s_X3_matched (E : qE) (g : qG) (m : qM) (q n p : Nat) (hs : ProS g m q) (hp : PosIs m q n p) {i : Nat} {x : List Int32} (hq : qwrd[i]? = some x) : Sp E yX3_matchedSigns cX3_matchedSigns 3 (some .int) 4 0 0 [.ref q, .ref (eS E i)] g m (fun v g' m' => v = some (.int (nI (mS (fun j => qI m (q + 1) j) n p x))) ∧ g' = g ∧ m' = m) := by
  refine Sp.of (by decide) [some (.ref q), some (.ref (eS E i)), none] rfl rfl (Nat.le_of_ble_eq_true rfl) (fun X hX => ?_)
  refine r_iconst (v := 0) hX dX3_matchedSigns_0 (by decide) ?_
  refine r_istore_n hX dX3_matchedSigns_1 (Nat.le_of_ble_eq_true rfl) rfl ?_
  refine s_X3_matched_l hX hs hp hq x.length 0 (Nat.zero_add _) hp.2.2.2 ?_
  rw [Nat.zero_add, Nat.add_zero, List.drop_zero]
  refine r_iload_n hX dX3_matchedSigns_48 rfl ?_
  exact r_iret hX dX3_matchedSigns_49 ⟨rfl, rfl, rfl⟩ ⟨Nat.le_of_ble_eq_true rfl, Nat.le_of_ble_eq_true rfl⟩
def wd (i : Nat) : List Int32 := qwrd.getD i []
theorem wd_at {i : Nat} (h : i < 7) : qwrd[i]? = some (wd i) := by
  unfold wd
  rcases i with _ | _ | _ | _ | _ | _ | _ | i
  all_goals first | omega | rfl
/-- the word that stands at p: its number, or none; the position behind -/
def rW (tx : Nat → Int32) (n p : Nat) : Nat → Nat → Nat → Option Nat × Nat
  | 0, _, f => (none, p + f)
  | k + 1, i, f => if mS tx n p (wd i) = (wd i).length then (some i, p + mS tx n p (wd i)) else rW tx n p k (i + 1) (max f (mS tx n p (wd i)))
theorem rW_le {tx : Nat → Int32} {n p : Nat} (hp : p ≤ n) : ∀ (k i f : Nat), p + f ≤ n → p ≤ (rW tx n p k i f).2 ∧ (rW tx n p k i f).2 ≤ n
  | 0, i, f, h => ⟨Nat.le_add_right p f, h⟩
  | k + 1, i, f, h => by
    have h1 := (mS_le tx n (wd i) p hp).2
    unfold rW
    split
    · exact ⟨Nat.le_add_right _ _, h1⟩
    · exact rW_le hp k (i + 1) _ (by omega)
theorem rW_k {tx : Nat → Int32} {n p : Nat} : ∀ (k i f : Nat) (j : Nat), (rW tx n p k i f).1 = some j → i ≤ j ∧ j < i + k
  | 0, i, f, j, h => by simp [rW] at h
  | k + 1, i, f, j, h => by
    unfold rW at h
    split at h
    · cases h; exact ⟨Nat.le_refl _, by omega⟩
    · have := rW_k k (i + 1) _ j h; omega
set_option maxRecDepth 20000 in
set_option maxHeartbeats 4000000 in
theorem s_X3_readWord_l {E : qE} {X : qX} {Q : State → Prop} {g : qG} {m : qM} (hX : MC E yX3_readWord cX3_readWord 5 (some .int) 5 0 0 [] X) {q n p : Nat} (hs : ProS g m q) (hp : PosIs m q n p) : ∀ (k i f : Nat) (z3 z4 : Option Value), i + k = 7 → p + f ≤ n → (∀ (j : Nat) (f2 : Int32) (z3 z4 : Option Value), (rW (fun j => qI m (q + 1) j) n p k i f).1 = some j → WS E X 0 0 Q g (wI m q 4 (nI (rW (fun j => qI m (q + 1) j) n p k i f).2)) 42 [some (.ref q), some (.int f2), some (.int (nI j)), z3, z4] []) → (∀ (z2 : Int32) (f2 : Nat) (z3 z4 : Option Value), rW (fun j => qI m (q + 1) j) n p k i f = (none, p + f2) → p + f2 ≤ n → WS E X 0 0 Q g m 57 [some (.ref q), some (.int (nI f2)), some (.int z2), z3, z4] []) → WS E X 0 0 Q g m 4 [some (.ref q), some (.int (nI f)), some (.int (nI i)), z3, z4] [] := by
  have h60 := hp.2.1
  intro k
  induction k with
  | zero =>
    intro i f z3 z4 hi hf K1 K2
    have hib : i = 7 := by omega
    subst hib
    refine r_iload_n hX dX3_readWord_4 rfl ?_
    refine r_bipush (v := 7) hX dX3_readWord_5 (by decide) ?_
    refine r_icmp_ge (tgt := 57) hX dX3_readWord_7 (by decide) (fun c7 => ?_) (fun c7 => ?_)
    · exact K2 _ f _ _ rfl hf
    · exact absurd (by decide) c7
  | succ k ih =>
    intro i f z3 z4 hi hf K1 K2
    have hi7 : i < 7 := by omega
    have hq := wd_at hi7
    have hms := mS_le (fun j => qI m (q + 1) j) n (wd i) p hp.2.2.2
    have hsz := wrd_sz hq
    have hr : rW (fun j => qI m (q + 1) j) n p (k + 1) i f = if mS (fun j => qI m (q + 1) j) n p (wd i) = (wd i).length then (some i, p + mS (fun j => qI m (q + 1) j) n p (wd i)) else rW (fun j => qI m (q + 1) j) n p k (i + 1) (max f (mS (fun j => qI m (q + 1) j) n p (wd i))) := rfl
    refine r_iload_n hX dX3_readWord_4 rfl ?_
    refine r_bipush (v := 7) hX dX3_readWord_5 (by decide) ?_
    refine r_icmp_ge (tgt := 57) hX dX3_readWord_7 (by decide) (fun c7 => ?_) (fun c7 => ?_)
    · exact absurd c7 (nI_ge (b := 7) (by omega) (by decide))
    · refine r_iload_n hX dX3_readWord_10 rfl ?_
      refine r_callS hX dX3_readWord_11 (s_X3_wordOf E g m i hi7) ml_X3_59 rfl rfl ⟨Nat.le_of_ble_eq_true rfl, Nat.le_of_ble_eq_true rfl⟩ ⟨Nat.le_of_ble_eq_true rfl, Nat.le_of_ble_eq_true rfl, rfl, Nat.le_of_ble_eq_true rfl⟩ (fun v11 g11 m11 hp => ?_)
      obtain ⟨hv, hg, hm⟩ := hp
      subst v11
      subst g11
      subst m11
      refine r_astore_n hX dX3_readWord_14 (Nat.le_of_ble_eq_true rfl) rfl ?_
      refine r_aload_n hX dX3_readWord_15 rfl ?_
      refine r_aload_n hX dX3_readWord_16 rfl ?_
      refine r_callV hX dX3_readWord_17 (s_X3_matched E g m q n p hs hp hq) ml_X3_63 rfl rfl hs.1.1 rfl ⟨Nat.le_of_ble_eq_true rfl, Nat.le_of_ble_eq_true rfl⟩ ⟨Nat.le_of_ble_eq_true rfl, Nat.le_of_ble_eq_true rfl, rfl, Nat.le_of_ble_eq_true rfl⟩ (fun v17 g17 m17 hp => ?_)
      obtain ⟨hv, hg, hm⟩ := hp
      subst v17
      subst g17
      subst m17
      refine r_istore hX dX3_readWord_20 (Nat.le_of_ble_eq_true rfl) rfl ?_
      refine r_iload hX dX3_readWord_22 rfl ?_
      refine r_aload_n hX dX3_readWord_24 rfl ?_
      refine r_callStr hX dX3_readWord_25 hq (s_J0_length E g m hq) ml_X3_67 rfl rfl rfl ⟨Nat.le_of_ble_eq_true rfl, Nat.le_of_ble_eq_true rfl⟩ ⟨Nat.le_of_ble_eq_true rfl, Nat.le_of_ble_eq_true rfl, rfl, Nat.le_of_ble_eq_true rfl⟩ (fun v25 g25 m25 hp => ?_)
      obtain ⟨hv, hg, hm⟩ := hp
      subst v25
      subst g25
      subst m25
      refine r_icmp_ne (tgt := 44) hX dX3_readWord_28 (by decide) (fun c28 => ?_) (fun c28 => ?_)
      · refine r_iload_n hX dX3_readWord_44 rfl ?_
        refine r_iload hX dX3_readWord_45 rfl ?_
        refine r_mmax hX dX3_readWord_47 mm_X3_71 ⟨Nat.le_of_ble_eq_true rfl, rfl, Nat.le_of_ble_eq_true rfl⟩ ⟨Nat.le_of_ble_eq_true rfl, Nat.le_of_ble_eq_true rfl⟩ ?_
        rw [mxN (by omega) (by omega)]
        refine r_istore_n hX dX3_readWord_50 (Nat.le_of_ble_eq_true rfl) rfl ?_
        refine r_iinc (v := nI (i + 1)) hX dX3_readWord_51 rfl (ii1 i) rfl ?_
        refine r_goto (tgt := 4) hX dX3_readWord_54 (by decide) ?_
        rw [hr, if_neg (fun h => c28 (by rw [h]))] at K1 K2
        exact ih (i + 1) _ _ _ (by omega) (by omega) K1 K2
      · refine r_aload_n hX dX3_readWord_31 rfl ?_
        refine r_dup hX dX3_readWord_32 rfl ?_
        refine r_getI hX dX3_readWord_33 hs.1.1 fl_X3_32 ?_
        rw [hp.2.2.1]
        refine r_iload hX dX3_readWord_36 rfl ?_
        refine r_iadd hX dX3_readWord_38 ?_
        rw [nI_add]
        refine r_putI hX dX3_readWord_39 hs.1.1 fl_X3_32 ?_
        rw [nI_eq (by omega) (by omega)] at c28
        rw [hr, if_pos c28] at K1
        exact K1 i _ _ _ rfl
def oI (o : Option Nat) : Int32 := match o with
  | some i => nI i
  | none => -1
set_option maxRecDepth 20000 in
set_option maxHeartbeats 4000000 in
theorem s_X3_readWord (E : qE) (g : qG) (m : qM) (q n p : Nat) (hs : ProS g m q) (hp : PosIs m q n p) : Sp E yX3_readWord cX3_readWord 5 (some .int) 5 0 0 [.ref q] g m (fun v g' m' => v = some (.int (oI (rW (fun j => qI m (q + 1) j) n p 7 0 0).1)) ∧ g' = g ∧ m' = wI m q 4 (nI (rW (fun j => qI m (q + 1) j) n p 7 0 0).2)) := by
  refine Sp.of (by decide) [some (.ref q), none, none, none, none] rfl rfl (Nat.le_of_ble_eq_true rfl) (fun X hX => ?_)
  refine r_iconst (v := 0) hX dX3_readWord_0 (by decide) ?_
  refine r_istore_n hX dX3_readWord_1 (Nat.le_of_ble_eq_true rfl) rfl ?_
  refine r_iconst (v := 0) hX dX3_readWord_2 (by decide) ?_
  refine r_istore_n hX dX3_readWord_3 (Nat.le_of_ble_eq_true rfl) rfl ?_
  refine s_X3_readWord_l hX hs hp 7 0 0 _ _ rfl hp.2.2.2 (fun j f2 z3 z4 hj => ?_) (fun z2 f2 z3 z4 hj hf2 => ?_)
  · refine r_iload_n hX dX3_readWord_42 rfl ?_
    exact r_iret hX dX3_readWord_43 ⟨by rw [hj]; rfl, rfl, rfl⟩ ⟨Nat.le_of_ble_eq_true rfl, Nat.le_of_ble_eq_true rfl⟩
  · refine r_aload_n hX dX3_readWord_57 rfl ?_
    refine r_dup hX dX3_readWord_58 rfl ?_
    refine r_getI hX dX3_readWord_59 hs.1.1 fl_X3_32 ?_
    rw [hp.2.2.1]
    refine r_iload_n hX dX3_readWord_62 rfl ?_
    refine r_iadd hX dX3_readWord_63 ?_
    rw [nI_add]
    refine r_putI hX dX3_readWord_64 hs.1.1 fl_X3_32 ?_
    refine r_iconst (v := (-1)) hX dX3_readWord_67 (by decide) ?_
    exact r_iret hX dX3_readWord_68 ⟨by rw [hj]; rfl, rfl, by rw [hj]⟩ ⟨Nat.le_of_ble_eq_true rfl, Nat.le_of_ble_eq_true rfl⟩
