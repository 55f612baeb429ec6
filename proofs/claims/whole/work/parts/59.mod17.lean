/-! ===== CometObservatoryModel: the parser: signs, letters, numbers ===== -/
/-- the place and the error -/
abbrev kP2 : Type := Nat × Option Nat
def sgM (tx : Nat → Int32) (n h : Nat) : Int32 := if h < n then tx h else -1
def needM (tx : Nat → Int32) (n : Nat) (c : Int32) (s : kP2) : kP2 := match s.2 with
  | some e => (s.1, some e)
  | none => if h : sgM tx n s.1 = c then (s.1 + 1, none) else (s.1, some s.1)
def wordM (tx : Nat → Int32) (n : Nat) (l : List Int32) (s : kP2) : kP2 := l.foldl (fun s c => needM tx n c s) s
def numM (tx : Nat → Int32) (n d : Nat) (s : kP2) : Int32 × kP2 := match (needM tx n 32 s).2 with
  | some e => (0, (needM tx n 32 s).1, some e)
  | none => if digA tx n (needM tx n 32 s).1 = true then ((rN tx n d (needM tx n 32 s).1 0).1, (rN tx n d (needM tx n 32 s).1 0).2, none) else (0, (needM tx n 32 s).1, some (needM tx n 32 s).1)
def numsM (tx : Nat → Int32) (n : Nat) : Nat → kP2 → List Int32 × kP2
  | 0, s => ([], s)
  | k + 1, s => ((numM tx n 2 s).1 :: (numsM tx n k (numM tx n 2 s).2).1, (numsM tx n k (numM tx n 2 s).2).2)
theorem needM_e {tx : Nat → Int32} {n : Nat} {c : Int32} {h e : Nat} : needM tx n c (h, some e) = (h, some e) := rfl
theorem needM_y {tx : Nat → Int32} {n : Nat} {c : Int32} {h : Nat} (hq : sgM tx n h = c) : needM tx n c (h, none) = (h + 1, none) := by unfold needM; exact dif_pos hq
theorem needM_n {tx : Nat → Int32} {n : Nat} {c : Int32} {h : Nat} (hq : ¬ sgM tx n h = c) : needM tx n c (h, none) = (h, some h) := by unfold needM; exact dif_neg hq
/-- the parser stands at s; the text is tx, of n signs -/
def PaM (m : qM) (y n : Nat) (tx : Nat → Int32) (s : kP2) : Prop := qI m y 8 = nI n ∧ n ≤ 60 ∧ (∀ j, j < n → qI m (y + 4) j = tx j) ∧ qI m y 9 = nI s.1 ∧ s.1 ≤ n ∧ qI m y 10 = oI s.2 ∧ ∀ e, s.2 = some e → e ≤ n
def PZ (y : Nat) : Nat → Nat → Prop := fun a j => a = y ∧ (j = 9 ∨ j = 10)
theorem sg_lt {tx : Nat → Int32} {n h : Nat} {c : Int32} (hc : c ≠ -1) (hq : sgM tx n h = c) : h < n := by
  unfold sgM at hq
  by_cases e : h < n
  · exact e
  · rw [if_neg e] at hq; exact absurd hq.symm hc
theorem oI_neg : oI none < 0 := by decide
theorem oI_pos {e : Nat} (h : e ≤ 60) : ¬ oI (some e) < 0 := nI_pos (by omega)
theorem PaM.h {m m' : qM} {y n : Nat} {tx : Nat → Int32} {s : kP2} (hp : PaM m y n tx s) (he : ∀ j, (j = 8 ∨ j = 10) → qI m' y j = qI m y j) (ht : ∀ j, qI m' (y + 4) j = qI m (y + 4) j) {h : Nat} (h9 : qI m' y 9 = nI h) (hn : h ≤ n) : PaM m' y n tx (h, s.2) := by
  obtain ⟨p1, p2, p3, p4, p5, p6, p7⟩ := hp
  exact ⟨(he 8 (by omega)).trans p1, p2, fun j hj => (ht j).trans (p3 j hj), h9, hn, (he 10 (by omega)).trans p6, p7⟩
theorem PaM.e {m m' : qM} {y n : Nat} {tx : Nat → Int32} {s : kP2} (hp : PaM m y n tx s) (he : ∀ j, (j = 8 ∨ j = 9) → qI m' y j = qI m y j) (ht : ∀ j, qI m' (y + 4) j = qI m (y + 4) j) {h : Nat} (h9 : qI m' y 10 = nI h) (hn : h ≤ n) : PaM m' y n tx (s.1, some h) := by
  obtain ⟨p1, p2, p3, p4, p5, p6, p7⟩ := hp
  exact ⟨(he 8 (by omega)).trans p1, p2, fun j hj => (ht j).trans (p3 j hj), (he 9 (by omega)).trans p4, p5, h9, fun e he => by cases he; exact hn⟩
theorem PaM.mv {m m' : qM} {y n : Nat} {tx : Nat → Int32} {s : kP2} (hp : PaM m y n tx s) (he : ∀ j, (j = 8 ∨ j = 9 ∨ j = 10) → qI m' y j = qI m y j) (ht : ∀ j, qI m' (y + 4) j = qI m (y + 4) j) : PaM m' y n tx s := by
  obtain ⟨p1, p2, p3, p4, p5, p6, p7⟩ := hp
  exact ⟨(he 8 (by omega)).trans p1, p2, fun j hj => (ht j).trans (p3 j hj), (he 9 (by omega)).trans p4, p5, (he 10 (by omega)).trans p6, p7⟩
set_option maxRecDepth 20000 in
set_option maxHeartbeats 4000000 in
theorem s_X8_sign (E : qE) (g : qG) (m : qM) (y : Nat) (hs : ModS g m y) (n : Nat) (tx : Nat → Int32) (s : kP2) (hp : PaM m y n tx s) : Sp E yX8_sign cX8_sign 1 (some .int) 0 0 0 [.ref y] g m (fun v g' m' => v = some (.int (sgM tx n s.1)) ∧ g' = g ∧ m' = m) := by
  refine Sp.of (by decide) [some (.ref y)] rfl rfl (Nat.le_of_ble_eq_true rfl) (fun X hX => ?_)
  obtain ⟨p1, p2, p3, p4, p5, p6, p7⟩ := id hp
  refine r_aload_n hX dX8_sign_0 rfl ?_
  refine r_getI hX dX8_sign_1 hs.1.1 fl_X8_166 ?_
  rw [p4]
  refine r_aload_n hX dX8_sign_4 rfl ?_
  refine r_getI hX dX8_sign_5 hs.1.1 fl_X8_163 ?_
  rw [p1]
  refine r_icmp_ge (tgt := 23) hX dX8_sign_8 (by decide) (fun c8 => ?_) (fun c8 => ?_)
  · have h1 : ¬ s.1 < n := fun h => absurd c8 (nI_ge h (by omega))
    refine r_iconst (v := -1) hX dX8_sign_23 (by decide) ?_
    exact r_iret hX dX8_sign_24 ⟨by unfold sgM; rw [if_neg h1], rfl, rfl⟩ ⟨Nat.le_of_ble_eq_true rfl, Nat.le_of_ble_eq_true rfl⟩
  · have h1 : s.1 < n := Nat.lt_of_not_le (fun h => c8 (nI_le h (by omega)))
    refine r_aload_n hX dX8_sign_11 rfl ?_
    refine r_getR hX dX8_sign_12 hs.1.1 fl_X8_19 hs.2.2.2.2.1 ?_
    refine r_aload_n hX dX8_sign_15 rfl ?_
    refine r_getI hX dX8_sign_16 hs.1.1 fl_X8_166 ?_
    rw [p4]
    refine r_caloadN hX dX8_sign_19 hs.1.2.2.2.2.1 (show s.1 < 60 by omega) (by decide) ?_
    rw [p3 _ h1]
    refine r_goto (tgt := 24) hX dX8_sign_20 (by decide) ?_
    exact r_iret hX dX8_sign_24 ⟨by unfold sgM; rw [if_pos h1], rfl, rfl⟩ ⟨Nat.le_of_ble_eq_true rfl, Nat.le_of_ble_eq_true rfl⟩
set_option maxRecDepth 20000 in
set_option maxHeartbeats 4000000 in
theorem s_X8_needs (E : qE) (g : qG) (m : qM) (y : Nat) (hs : ModS g m y) (n : Nat) (tx : Nat → Int32) (s : kP2) (hp : PaM m y n tx s) (c : Int32) (hc : c ≠ -1) : Sp E yX8_needs cX8_needs 2 none 1 0 0 [.ref y, .int c] g m (fun v g' m' => v = none ∧ g' = g ∧ PaM m' y n tx (needM tx n c s) ∧ MF (PZ y) m m') := by
  refine Sp.of (by decide) [some (.ref y), some (.int c)] rfl rfl (Nat.le_of_ble_eq_true rfl) (fun X hX => ?_)
  obtain ⟨h, e⟩ := s
  obtain ⟨p1, p2, p3, p4, p5, p6, p7⟩ := id hp
  refine r_aload_n hX dX8_needs_0 rfl ?_
  refine r_getI hX dX8_needs_1 hs.1.1 fl_X8_169 ?_
  rw [p6]
  refine r_if_lt (tgt := 8) hX dX8_needs_4 (by decide) (fun c4 => ?_) (fun c4 => ?_)
  · rcases e with _ | e
    · refine r_aload_n hX dX8_needs_8 rfl ?_
      refine r_callV hX dX8_needs_9 (s_X8_sign E g m y hs n tx (h, none) hp) ml_X8_172 rfl rfl hs.1.1 rfl ⟨Nat.le_of_ble_eq_true rfl, Nat.le_of_ble_eq_true rfl⟩ ⟨Nat.le_of_ble_eq_true rfl, Nat.le_of_ble_eq_true rfl, rfl, Nat.le_of_ble_eq_true rfl⟩ (fun v9 g9 m9 hp => ?_)
      obtain ⟨hv, hg, hm⟩ := hp
      subst v9
      subst g9
      subst m9
      refine r_iload_n hX dX8_needs_12 rfl ?_
      refine r_icmp_eq (tgt := 25) hX dX8_needs_13 (by decide) (fun c13 => ?_) (fun c13 => ?_)
      · have hq : sgM tx n h = c := c13
        have hlt := sg_lt hc hq
        refine r_aload_n hX dX8_needs_25 rfl ?_
        refine r_dup hX dX8_needs_26 rfl ?_
        refine r_getI hX dX8_needs_27 hs.1.1 fl_X8_166 ?_
        rw [p4]
        refine r_iconst (v := 1) hX dX8_needs_30 (by decide) ?_
        refine r_iadd hX dX8_needs_31 ?_
        rw [nI_1]
        refine r_putI hX dX8_needs_32 hs.1.1 fl_X8_166 ?_
        exact r_vret hX dX8_needs_35 ⟨rfl, rfl, by rw [needM_y hq]; exact hp.h (fun j hj => qI_wI_k _ _ _ _ (by omega)) (fun j => qI_wI_a _ _ _ _ (by omega)) (qI_wI_s _ _ _ _) hlt, (MF.rf _ _).wI ⟨rfl, Or.inl rfl⟩⟩ ⟨Nat.le_of_ble_eq_true rfl, Nat.le_of_ble_eq_true rfl⟩
      · have hq : ¬ sgM tx n h = c := c13
        refine r_aload_n hX dX8_needs_16 rfl ?_
        refine r_aload_n hX dX8_needs_17 rfl ?_
        refine r_getI hX dX8_needs_18 hs.1.1 fl_X8_166 ?_
        rw [p4]
        refine r_putI hX dX8_needs_21 hs.1.1 fl_X8_169 ?_
        exact r_vret hX dX8_needs_24 ⟨rfl, rfl, by rw [needM_n hq]; exact hp.e (fun j hj => qI_wI_k _ _ _ _ (by omega)) (fun j => qI_wI_a _ _ _ _ (by omega)) (qI_wI_s _ _ _ _) p5, (MF.rf _ _).wI ⟨rfl, Or.inr rfl⟩⟩ ⟨Nat.le_of_ble_eq_true rfl, Nat.le_of_ble_eq_true rfl⟩
    · exact absurd c4 (oI_pos (Nat.le_trans (p7 e rfl) p2))
  · rcases e with _ | e
    · exact absurd oI_neg c4
    · exact r_vret hX dX8_needs_7 ⟨rfl, rfl, hp, MF.rf _ _⟩ ⟨Nat.le_of_ble_eq_true rfl, Nat.le_of_ble_eq_true rfl⟩
set_option maxRecDepth 20000 in
set_option maxHeartbeats 4000000 in
theorem s_X8_letters (E : qE) (g : qG) (m : qM) (y : Nat) (hs : ModS g m y) (n : Nat) (tx : Nat → Int32) (s : kP2) (h0 : PaM m y n tx s) (a b c : Int32) (ha : a ≠ -1) (hb : b ≠ -1) (hc : c ≠ -1) : Sp E yX8_letters cX8_letters 4 none 2 0 0 [.ref y, .int a, .int b, .int c] g m (fun v g' m' => v = none ∧ g' = g ∧ PaM m' y n tx (wordM tx n [a, b, c] s) ∧ MF (PZ y) m m') := by
  refine Sp.of (by decide) [some (.ref y), some (.int a), some (.int b), some (.int c)] rfl rfl (Nat.le_of_ble_eq_true rfl) (fun X hX => ?_)
  refine r_aload_n hX dX8_letters_0 rfl ?_
  refine r_iload_n hX dX8_letters_1 rfl ?_
  refine r_callV hX dX8_letters_2 (s_X8_needs E g m y hs n tx s h0 a ha) ml_X8_175 rfl rfl hs.1.1 rfl ⟨Nat.le_of_ble_eq_true rfl, Nat.le_of_ble_eq_true rfl⟩ ⟨Nat.le_of_ble_eq_true rfl, Nat.le_of_ble_eq_true rfl, rfl, Nat.le_of_ble_eq_true rfl⟩ (fun v2 g2 m2 hp => ?_)
  obtain ⟨hv, hg, hp2, hM2⟩ := hp
  subst v2
  subst g2
  refine r_aload_n hX dX8_letters_5 rfl ?_
  refine r_iload_n hX dX8_letters_6 rfl ?_
  refine r_callV hX dX8_letters_7 (s_X8_needs E g m2 y (hs.to hM2.2) n tx (needM tx n a s) hp2 b hb) ml_X8_175 rfl rfl hs.1.1 rfl ⟨Nat.le_of_ble_eq_true rfl, Nat.le_of_ble_eq_true rfl⟩ ⟨Nat.le_of_ble_eq_true rfl, Nat.le_of_ble_eq_true rfl, rfl, Nat.le_of_ble_eq_true rfl⟩ (fun v7 g7 m7 hp => ?_)
  obtain ⟨hv, hg, hp7, hM7⟩ := hp
  subst v7
  subst g7
  refine r_aload_n hX dX8_letters_10 rfl ?_
  refine r_iload_n hX dX8_letters_11 rfl ?_
  refine r_callV hX dX8_letters_12 (s_X8_needs E g m7 y (hs.to (hM2.tr hM7).2) n tx (needM tx n b (needM tx n a s)) hp7 c hc) ml_X8_175 rfl rfl hs.1.1 rfl ⟨Nat.le_of_ble_eq_true rfl, Nat.le_of_ble_eq_true rfl⟩ ⟨Nat.le_of_ble_eq_true rfl, Nat.le_of_ble_eq_true rfl, rfl, Nat.le_of_ble_eq_true rfl⟩ (fun v12 g12 m12 hp => ?_)
  obtain ⟨hv, hg, hp12, hM12⟩ := hp
  subst v12
  subst g12
  exact r_vret hX dX8_letters_15 ⟨rfl, rfl, hp12, (hM2.tr hM7).tr hM12⟩ ⟨Nat.le_of_ble_eq_true rfl, Nat.le_of_ble_eq_true rfl⟩
