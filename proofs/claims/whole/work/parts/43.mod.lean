/-! ===== CometObservatoryModel: the object at y, its rows at y + 1 .. y + 6 ===== -/
def ModSh (g : qG) (y : Nat) : Prop := gAt g y (.inl 11) ∧ gAt g (y + 1) (.inr (0, 539)) ∧ gAt g (y + 2) (.inr (0, 62)) ∧ gAt g (y + 3) (.inr (0, 62)) ∧ gAt g (y + 4) (.inr (1, 60)) ∧ gAt g (y + 5) (.inr (0, 244)) ∧ gAt g (y + 6) (.inr (1, 160))
def ModRf (m : qM) (y : Nat) : Prop := qR m y 1 = some (y + 1) ∧ qR m y 5 = some (y + 2) ∧ qR m y 6 = some (y + 3) ∧ qR m y 7 = some (y + 4) ∧ qR m y 13 = some (y + 5) ∧ qR m y 15 = some (y + 6)
def ModS (g : qG) (m : qM) (y : Nat) : Prop := ModSh g y ∧ ModRf m y
theorem ModS.to {g : qG} {m m' : qM} {y : Nat} (h : ModS g m y) (hm : m'.2 = m.2) : ModS g m' y := by
  refine ⟨h.1, ?_⟩
  unfold ModRf qR
  rw [hm]
  exact h.2
/-- nothing but P is changed -/
def MF (P : Nat → Nat → Prop) (m m' : qM) : Prop := (∀ a j, ¬ P a j → qI m' a j = qI m a j) ∧ m'.2 = m.2
theorem MF.rf (P : Nat → Nat → Prop) (m : qM) : MF P m m := ⟨fun _ _ _ => rfl, rfl⟩
theorem MF.tr {P : Nat → Nat → Prop} {m m1 m2 : qM} (h : MF P m m1) (h2 : MF P m1 m2) : MF P m m2 := ⟨fun a j ha => (h2.1 a j ha).trans (h.1 a j ha), h2.2.trans h.2⟩
theorem MF.mono {P P2 : Nat → Nat → Prop} {m m' : qM} (h : MF P m m') (h1 : ∀ a j, P a j → P2 a j) : MF P2 m m' := ⟨fun a j ha => h.1 a j (fun q => ha (h1 a j q)), h.2⟩
theorem MF.wI {P : Nat → Nat → Prop} {m m' : qM} (h : MF P m m') {a k : Nat} {v : Int32} (ha : P a k) : MF P m (wI m' a k v) := ⟨fun b j hb => by rw [qI_wI, if_neg (fun q => hb (by rw [q.1, q.2]; exact ha))]; exact h.1 b j hb, h.2⟩
/-- the present row, and what was put aside as an answer -/
def P0 (y : Nat) : Nat → Nat → Prop := fun a j => (a = y + 1 ∧ j < 49) ∨ (a = y ∧ j = 4)
def rowF (m : qM) (y w : Nat) : Nat → Int32 := fun k => qI m (y + 1) (49 * w + k)
theorem ix3 (i k : Nat) : (7 : Int32) + 5 * nI i + nI k = nI (7 + 5 * i + k) := by
  rw [show (5 : Int32) * nI i = nI (5 * i) from pk_mul 5 i, show (7 : Int32) + nI (5 * i) = nI (7 + 5 * i) from nI_add 7 _, nI_add]
theorem ix2 (i : Nat) : (7 : Int32) + 5 * nI i = nI (7 + 5 * i) := by
  rw [show (5 : Int32) * nI i = nI (5 * i) from pk_mul 5 i]
  exact nI_add 7 _
theorem ix49 (w k : Nat) : (49 : Int32) * nI w + nI k = nI (49 * w + k) := by
  rw [show (49 : Int32) * nI w = nI (49 * w) from pk_mul 49 w, nI_add]
theorem RepF.c {f : Nat → Int32} {V : kV} (h : RepF f V) {i k : Nat} (hi : i < V.1.length) (hk : k < 5) : f (7 + 5 * i + k) = nI (cAt V.1 i k) := h.2.2.1 i k hi hk
theorem RepF.erase {f f' : Nat → Int32} {V : kV} (h : RepF f V) {i : Nat} (hi : i < V.1.length) (h0 : f' 0 = nI (V.1.length - 1)) (h1 : ∀ k, 1 ≤ k → k < 7 → f' k = f k) (h2 : ∀ j, j < 12 → f' (37 + j) = f (37 + j)) (h3 : ∀ j k, j < V.1.length - 1 → k < 5 → f' (7 + 5 * j + k) = if j < i then f (7 + 5 * j + k) else f (7 + 5 * (j + 1) + k)) : RepF f' (V.1.eraseIdx i, V.2) := by
  have hle : (V.1.eraseIdx i).length = V.1.length - 1 := List.length_eraseIdx_of_lt hi
  refine ⟨by rw [h0]; exact congrArg nI hle.symm, fun k a b => (h1 k a b).trans (h.2.1 k a b), fun j k hj hk => ?_, fun j hj => (h2 j hj).trans (h.2.2.2 j hj)⟩
  have hj : j < (V.1.eraseIdx i).length := hj
  rw [hle] at hj
  show _ = nI (cAt (V.1.eraseIdx i) j k)
  rw [h3 j k hj hk, cAt_erase]
  split
  · exact h.c (by omega) hk
  · exact h.c (by omega) hk
theorem RepF.congr {f f' : Nat → Int32} {V : kV} (h : RepF f V) (he : ∀ k, k < 49 → f' k = f k) (hl : V.1.length ≤ 6) : RepF f' V := by
  obtain ⟨h0, h1, h2, h3⟩ := h
  exact ⟨(he 0 (by omega)).trans h0, fun k a b => (he k (by omega)).trans (h1 k a b), fun i k hi hk => (he _ (by omega)).trans (h2 i k hi hk), fun j hj => (he _ (by omega)).trans (h3 j hj)⟩
set_option maxRecDepth 20000 in
set_option maxHeartbeats 4000000 in
theorem s_X8_thrown (E : qE) (g : qG) (m : qM) (y : Nat) (hs : ModS g m y) : Sp E yX8_thrown cX8_thrown 1 (some .int) 0 0 0 [.ref y] g m (fun v g' m' => v = some (.int (qI m y 0)) ∧ g' = g ∧ m' = m) := by
  refine Sp.of (by decide) [some (.ref y)] rfl rfl (Nat.le_of_ble_eq_true rfl) (fun X hX => ?_)
  refine r_aload_n hX dX8_thrown_0 rfl ?_
  refine r_getI hX dX8_thrown_1 hs.1.1 fl_X8_36 ?_
  exact r_iret hX dX8_thrown_4 ⟨rfl, rfl, rfl⟩ ⟨Nat.le_of_ble_eq_true rfl, Nat.le_of_ble_eq_true rfl⟩
set_option maxRecDepth 20000 in
set_option maxHeartbeats 4000000 in
theorem s_X8_in (E : qE) (g : qG) (m : qM) (x : Int32) (a b : Nat) (ha : a < 2 ^ 31) (hb9 : b < 2 ^ 31) : Sp E yX8_in cX8_in 3 (some .boolean) 0 0 0 [.int x, .int (nI a), .int (nI b)] g m (fun v g' m' => v = some (.int (if rng x a b then 1 else 0)) ∧ g' = g ∧ m' = m) := by
  refine Sp.of (by decide) [some (.int x), some (.int (nI a)), some (.int (nI b))] rfl rfl (Nat.le_of_ble_eq_true rfl) (fun X hX => ?_)
  refine r_iload_n hX dX8_in_0 rfl ?_
  refine r_iload_n hX dX8_in_1 rfl ?_
  refine r_icmp_lt (tgt := 14) hX dX8_in_2 (by decide) (fun c2 => ?_) (fun c2 => ?_)
  · have h1 := (i_lt ha).mp c2
    have hb : ¬ rng x a b := fun h => by
      have h3 := (rng_i ha hb9).mp h
      omega
    refine r_iconst (v := 0) hX dX8_in_14 (by decide) ?_
    exact r_zret hX dX8_in_15 rfl ⟨by rw [if_neg hb], rfl, rfl⟩ ⟨Nat.le_of_ble_eq_true rfl, Nat.le_of_ble_eq_true rfl⟩
  · refine r_iload_n hX dX8_in_5 rfl ?_
    refine r_iload_n hX dX8_in_6 rfl ?_
    refine r_icmp_gt (tgt := 14) hX dX8_in_7 (by decide) (fun c7 => ?_) (fun c7 => ?_)
    · have h1 := (i_gt hb9).mp c7
      have hb : ¬ rng x a b := fun h => by
        have h3 := (rng_i ha hb9).mp h
        omega
      refine r_iconst (v := 0) hX dX8_in_14 (by decide) ?_
      exact r_zret hX dX8_in_15 rfl ⟨by rw [if_neg hb], rfl, rfl⟩ ⟨Nat.le_of_ble_eq_true rfl, Nat.le_of_ble_eq_true rfl⟩
    · have h1 := (not_congr (i_lt ha)).mp c2
      have h2 := (not_congr (i_gt hb9)).mp c7
      have hb : rng x a b := (rng_i ha hb9).mpr (by omega)
      refine r_iconst (v := 1) hX dX8_in_10 (by decide) ?_
      refine r_goto (tgt := 15) hX dX8_in_11 (by decide) ?_
      exact r_zret hX dX8_in_15 rfl ⟨by rw [if_pos hb], rfl, rfl⟩ ⟨Nat.le_of_ble_eq_true rfl, Nat.le_of_ble_eq_true rfl⟩
set_option maxRecDepth 20000 in
set_option maxHeartbeats 4000000 in
theorem s_X8_isFine (E : qE) (g : qG) (m : qM) (y : Nat) (hs : ModS g m y) (b : Bool) : Sp E yX8_isFine cX8_isFine 2 (some .boolean) 0 0 0 [.ref y, .int (if b = true then 1 else 0)] g m (fun v g' m' => v = some (.int (if b = true then 1 else 0)) ∧ g' = g ∧ m' = wI m y 0 (if b = true then 0 else 1)) := by
  refine Sp.of (by decide) [some (.ref y), some (.int (if b = true then 1 else 0))] rfl rfl (Nat.le_of_ble_eq_true rfl) (fun X hX => ?_)
  cases b
  · show WS E X 0 0 _ g m 0 [some (.ref y), some (.int 0)] []
    refine r_aload_n hX dX8_isFine_0 rfl ?_
    refine r_iload_n hX dX8_isFine_1 rfl ?_
    refine r_if_eq (tgt := 9) hX dX8_isFine_2 (by decide) (fun c2 => ?_) (fun c2 => ?_)
    · refine r_iconst (v := 1) hX dX8_isFine_9 (by decide) ?_
      refine r_putI hX dX8_isFine_10 hs.1.1 fl_X8_36 ?_
      refine r_iload_n hX dX8_isFine_13 rfl ?_
      exact r_zret hX dX8_isFine_14 rfl ⟨rfl, rfl, rfl⟩ ⟨Nat.le_of_ble_eq_true rfl, Nat.le_of_ble_eq_true rfl⟩
    · exact absurd rfl c2
  · show WS E X 0 0 _ g m 0 [some (.ref y), some (.int 1)] []
    refine r_aload_n hX dX8_isFine_0 rfl ?_
    refine r_iload_n hX dX8_isFine_1 rfl ?_
    refine r_if_eq (tgt := 9) hX dX8_isFine_2 (by decide) (fun c2 => ?_) (fun c2 => ?_)
    · exact absurd c2 (by decide)
    · refine r_iconst (v := 0) hX dX8_isFine_5 (by decide) ?_
      refine r_goto (tgt := 10) hX dX8_isFine_6 (by decide) ?_
      refine r_putI hX dX8_isFine_10 hs.1.1 fl_X8_36 ?_
      refine r_iload_n hX dX8_isFine_13 rfl ?_
      exact r_zret hX dX8_isFine_14 rfl ⟨rfl, rfl, rfl⟩ ⟨Nat.le_of_ble_eq_true rfl, Nat.le_of_ble_eq_true rfl⟩
set_option maxRecDepth 20000 in
set_option maxHeartbeats 4000000 in
theorem s_X8_c (E : qE) (g : qG) (m : qM) (y : Nat) (hs : ModS g m y) (i k : Nat) (hik : 7 + 5 * i + k < 539) : Sp E yX8_c cX8_c 3 (some .int) 0 0 0 [.ref y, .int (nI i), .int (nI k)] g m (fun v g' m' => v = some (.int (qI m (y + 1) (7 + 5 * i + k))) ∧ g' = g ∧ m' = m) := by
  refine Sp.of (by decide) [some (.ref y), some (.int (nI i)), some (.int (nI k))] rfl rfl (Nat.le_of_ble_eq_true rfl) (fun X hX => ?_)
  refine r_aload_n hX dX8_c_0 rfl ?_
  refine r_getR hX dX8_c_1 hs.1.1 fl_X8_9 hs.2.1 ?_
  refine r_bipush (v := 7) hX dX8_c_4 (by decide) ?_
  refine r_iconst (v := 5) hX dX8_c_6 (by decide) ?_
  refine r_iload_n hX dX8_c_7 rfl ?_
  refine r_imul hX dX8_c_8 ?_
  refine r_iadd hX dX8_c_9 ?_
  refine r_iload_n hX dX8_c_10 rfl ?_
  refine r_iadd hX dX8_c_11 ?_
  rw [ix3]
  refine r_ialoadN hX dX8_c_12 hs.1.2.1 hik (by decide) ?_
  exact r_iret hX dX8_c_13 ⟨rfl, rfl, rfl⟩ ⟨Nat.le_of_ble_eq_true rfl, Nat.le_of_ble_eq_true rfl⟩
set_option maxRecDepth 20000 in
set_option maxHeartbeats 4000000 in
theorem s_X8_set (E : qE) (g : qG) (m : qM) (y : Nat) (hs : ModS g m y) (i k : Nat) (hik : 7 + 5 * i + k < 539) (v : Int32) : Sp E yX8_set cX8_set 4 none 0 0 0 [.ref y, .int (nI i), .int (nI k), .int v] g m (fun v' g' m' => v' = none ∧ g' = g ∧ m' = wI m (y + 1) (7 + 5 * i + k) v) := by
  refine Sp.of (by decide) [some (.ref y), some (.int (nI i)), some (.int (nI k)), some (.int v)] rfl rfl (Nat.le_of_ble_eq_true rfl) (fun X hX => ?_)
  refine r_aload_n hX dX8_set_0 rfl ?_
  refine r_getR hX dX8_set_1 hs.1.1 fl_X8_9 hs.2.1 ?_
  refine r_bipush (v := 7) hX dX8_set_4 (by decide) ?_
  refine r_iconst (v := 5) hX dX8_set_6 (by decide) ?_
  refine r_iload_n hX dX8_set_7 rfl ?_
  refine r_imul hX dX8_set_8 ?_
  refine r_iadd hX dX8_set_9 ?_
  refine r_iload_n hX dX8_set_10 rfl ?_
  refine r_iadd hX dX8_set_11 ?_
  rw [ix3]
  refine r_iload_n hX dX8_set_12 rfl ?_
  refine r_iastoreN hX dX8_set_13 hs.1.2.1 hik (by decide) ?_
  exact r_vret hX dX8_set_14 ⟨rfl, rfl, rfl⟩ ⟨Nat.le_of_ble_eq_true rfl, Nat.le_of_ble_eq_true rfl⟩
set_option maxRecDepth 20000 in
set_option maxHeartbeats 4000000 in
theorem s_X8_tailOf (E : qE) (g : qG) (m : qM) (x : Int32) : Sp E yX8_tailOf cX8_tailOf 1 (some .int) 0 0 0 [.int x] g m (fun v g' m' => v = some (.int (1 + x / 5)) ∧ g' = g ∧ m' = m) := by
  refine Sp.of (by decide) [some (.int x)] rfl rfl (Nat.le_of_ble_eq_true rfl) (fun X hX => ?_)
  refine r_iconst (v := 1) hX dX8_tailOf_0 (by decide) ?_
  refine r_iload_n hX dX8_tailOf_1 rfl ?_
  refine r_iconst (v := 5) hX dX8_tailOf_2 (by decide) ?_
  refine r_idiv hX dX8_tailOf_3 (by decide) ?_
  refine r_iadd hX dX8_tailOf_4 ?_
  exact r_iret hX dX8_tailOf_5 ⟨rfl, rfl, rfl⟩ ⟨Nat.le_of_ble_eq_true rfl, Nat.le_of_ble_eq_true rfl⟩
set_option maxRecDepth 20000 in
set_option maxHeartbeats 4000000 in
theorem s_X8_copies_l {E : qE} {X : qX} {Q : State → Prop} {g : qG} {m : qM} (hX : MC E yX8_copies cX8_copies 4 none 0 0 0 [] X) {y : Nat} (hs : ModS g m y) {v w : Nat} (hv : v < 11) (hw : w < 11) (hne : v ≠ w) : ∀ (n i : Nat) (m1 : qM), i + n = 49 → ((∀ a j, qI m1 a j = if a = y + 1 ∧ 49 * w ≤ j ∧ j < 49 * w + i then qI m (y + 1) (49 * v + (j - 49 * w)) else qI m a j) ∧ m1.2 = m.2) → (∀ (j : Int32) (m2 : qM), ((∀ a j, qI m2 a j = if a = y + 1 ∧ 49 * w ≤ j ∧ j < 49 * w + 49 then qI m (y + 1) (49 * v + (j - 49 * w)) else qI m a j) ∧ m2.2 = m.2) → WS E X 0 0 Q g m2 36 [some (.ref y), some (.int (nI v)), some (.int (nI w)), some (.int j)] []) → WS E X 0 0 Q g m1 2 [some (.ref y), some (.int (nI v)), some (.int (nI w)), some (.int (nI i))] [] := by
  intro n
  induction n with
  | zero =>
    intro i m1 hi hm1 K
    have hib : i = 49 := by omega
    subst hib
    refine r_iload_n hX dX8_copies_2 rfl ?_
    refine r_bipush (v := 49) hX dX8_copies_3 (by decide) ?_
    refine r_icmp_ge (tgt := 36) hX dX8_copies_5 (by decide) (fun c5 => ?_) (fun c5 => ?_)
    · exact K _ _ hm1
    · exact absurd (Int32.le_refl _) c5
  | succ n ih =>
    intro i m1 hi hm1 K
    have hi9 : i < 49 := by omega
    refine r_iload_n hX dX8_copies_2 rfl ?_
    refine r_bipush (v := 49) hX dX8_copies_3 (by decide) ?_
    refine r_icmp_ge (tgt := 36) hX dX8_copies_5 (by decide) (fun c5 => ?_) (fun c5 => ?_)
    · exact absurd c5 (nI_ge (b := 49) hi9 (by decide))
    · refine r_aload_n hX dX8_copies_8 rfl ?_
      refine r_getR hX dX8_copies_9 hs.1.1 fl_X8_9 (hs.to hm1.2).2.1 ?_
      refine r_bipush (v := 49) hX dX8_copies_12 (by decide) ?_
      refine r_iload_n hX dX8_copies_14 rfl ?_
      refine r_imul hX dX8_copies_15 ?_
      refine r_iload_n hX dX8_copies_16 rfl ?_
      refine r_iadd hX dX8_copies_17 ?_
      rw [ix49]
      refine r_aload_n hX dX8_copies_18 rfl ?_
      refine r_getR hX dX8_copies_19 hs.1.1 fl_X8_9 (hs.to hm1.2).2.1 ?_
      refine r_bipush (v := 49) hX dX8_copies_22 (by decide) ?_
      refine r_iload_n hX dX8_copies_24 rfl ?_
      refine r_imul hX dX8_copies_25 ?_
      refine r_iload_n hX dX8_copies_26 rfl ?_
      refine r_iadd hX dX8_copies_27 ?_
      rw [ix49]
      refine r_ialoadN hX dX8_copies_28 hs.1.2.1 (show 49 * v + i < 539 by omega) (by decide) ?_
      refine r_iastoreN hX dX8_copies_29 hs.1.2.1 (show 49 * w + i < 539 by omega) (by decide) ?_
      refine r_iinc (v := nI (i + 1)) hX dX8_copies_30 rfl (ii1 i) rfl ?_
      refine r_goto (tgt := 2) hX dX8_copies_33 (by decide) ?_
      refine ih (i + 1) _ (by omega) ⟨fun a j => ?_, hm1.2⟩ K
      have hval : qI m1 (y + 1) (49 * v + i) = qI m (y + 1) (49 * v + i) := (hm1.1 _ _).trans (if_neg (by omega))
      rw [qI_wI, hval, hm1.1 a j]
      by_cases e : a = y + 1 ∧ j = 49 * w + i
      · obtain ⟨rfl, rfl⟩ := e
        rw [if_pos ⟨rfl, rfl⟩, if_pos ⟨rfl, by omega, by omega⟩]
        congr 1
        omega
      · rw [if_neg e]
        by_cases e2 : a = y + 1 ∧ 49 * w ≤ j ∧ j < 49 * w + i
        · rw [if_pos e2, if_pos ⟨e2.1, e2.2.1, by omega⟩]
        · rw [if_neg e2, if_neg (fun h => e2 ⟨h.1, h.2.1, by have := h.2.2; by_cases ej : j = 49 * w + i; exact absurd ⟨h.1, ej⟩ e; omega⟩)]
set_option maxRecDepth 20000 in
set_option maxHeartbeats 4000000 in
theorem s_X8_copies (E : qE) (g : qG) (m : qM) (y : Nat) (hs : ModS g m y) (v w : Nat) (hv : v < 11) (hw : w < 11) (hne : v ≠ w) : Sp E yX8_copies cX8_copies 4 none 0 0 0 [.ref y, .int (nI v), .int (nI w)] g m (fun v' g' m' => v' = none ∧ g' = g ∧ ((∀ a j, qI m' a j = if a = y + 1 ∧ 49 * w ≤ j ∧ j < 49 * w + 49 then qI m (y + 1) (49 * v + (j - 49 * w)) else qI m a j) ∧ m'.2 = m.2)) := by
  refine Sp.of (by decide) [some (.ref y), some (.int (nI v)), some (.int (nI w)), none] rfl rfl (Nat.le_of_ble_eq_true rfl) (fun X hX => ?_)
  refine r_iconst (v := 0) hX dX8_copies_0 (by decide) ?_
  refine r_istore_n hX dX8_copies_1 (Nat.le_of_ble_eq_true rfl) rfl ?_
  refine s_X8_copies_l hX hs hv hw hne 49 0 m (by omega) ⟨fun a j => by rw [if_neg (by omega)], rfl⟩ (fun j m2 hm2 => ?_)
  exact r_vret hX dX8_copies_36 ⟨rfl, rfl, hm2⟩ ⟨Nat.le_of_ble_eq_true rfl, Nat.le_of_ble_eq_true rfl⟩
set_option maxRecDepth 20000 in
set_option maxHeartbeats 4000000 in
theorem s_X8_place_l {E : qE} {X : qX} {Q : State → Prop} {g : qG} {m : qM} (hX : MC E yX8_place cX8_place 3 (some .int) 1 0 0 [] X) {y : Nat} (hs : ModS g m y) {x : Int32} {n : Nat} (hn : qI m (y + 1) 0 = nI n ∧ n ≤ 6) : ∀ (k i : Nat), i + k = n → (slotF (fun i => qI m (y + 1) (7 + 5 * i + 0)) x i k = none → ∀ j : Int32, WS E X 0 0 Q g m 30 [some (.ref y), some (.int x), some (.int j)] []) → (∀ j : Nat, slotF (fun i => qI m (y + 1) (7 + 5 * i + 0)) x i k = some j → WS E X 0 0 Q g m 22 [some (.ref y), some (.int x), some (.int (nI j))] []) → WS E X 0 0 Q g m 2 [some (.ref y), some (.int x), some (.int (nI i))] [] := by
  intro k
  induction k with
  | zero =>
    intro i hi K1 K2
    have hib : i = n := by omega
    subst hib
    refine r_iload_n hX dX8_place_2 rfl ?_
    refine r_aload_n hX dX8_place_3 rfl ?_
    refine r_getR hX dX8_place_4 hs.1.1 fl_X8_9 hs.2.1 ?_
    refine r_iconst (v := 0) hX dX8_place_7 (by decide) ?_
    refine r_ialoadN hX dX8_place_8 hs.1.2.1 (show 0 < 539 by decide) (by decide) ?_
    rw [hn.1]
    refine r_icmp_ge (tgt := 30) hX dX8_place_9 (by decide) (fun c9 => ?_) (fun c9 => ?_)
    · exact K1 rfl _
    · exact absurd (Int32.le_refl _) c9
  | succ k ih =>
    intro i hi K1 K2
    have h6 := hn.2
    refine r_iload_n hX dX8_place_2 rfl ?_
    refine r_aload_n hX dX8_place_3 rfl ?_
    refine r_getR hX dX8_place_4 hs.1.1 fl_X8_9 hs.2.1 ?_
    refine r_iconst (v := 0) hX dX8_place_7 (by decide) ?_
    refine r_ialoadN hX dX8_place_8 hs.1.2.1 (show 0 < 539 by decide) (by decide) ?_
    rw [hn.1]
    refine r_icmp_ge (tgt := 30) hX dX8_place_9 (by decide) (fun c9 => ?_) (fun c9 => ?_)
    · exact absurd c9 (nI_ge (by omega) (by omega))
    · refine r_aload_n hX dX8_place_12 rfl ?_
      refine r_iload_n hX dX8_place_13 rfl ?_
      refine r_iconst (v := 0) hX dX8_place_14 (by decide) ?_
      refine r_callV hX dX8_place_15 (s_X8_c E g m y hs i 0 (by omega)) ml_X8_49 rfl rfl hs.1.1 rfl ⟨Nat.le_of_ble_eq_true rfl, Nat.le_of_ble_eq_true rfl⟩ ⟨Nat.le_of_ble_eq_true rfl, Nat.le_of_ble_eq_true rfl, rfl, Nat.le_of_ble_eq_true rfl⟩ (fun v15 g15 m15 hp => ?_)
      obtain ⟨hv, hg, hm⟩ := hp
      subst v15
      subst g15
      subst m15
      refine r_iload_n hX dX8_place_18 rfl ?_
      refine r_icmp_ne (tgt := 24) hX dX8_place_19 (by decide) (fun c19 => ?_) (fun c19 => ?_)
      · refine r_iinc (v := nI (i + 1)) hX dX8_place_24 rfl (ii1 i) rfl ?_
        refine r_goto (tgt := 2) hX dX8_place_27 (by decide) ?_
        exact ih (i + 1) (by omega) (fun h => K1 ((if_neg c19).trans h)) (fun j h => K2 j ((if_neg c19).trans h))
      · exact K2 i (if_pos c19)
set_option maxRecDepth 20000 in
set_option maxHeartbeats 4000000 in
theorem s_X8_place (E : qE) (g : qG) (m : qM) (y : Nat) (hs : ModS g m y) (x : Int32) (V : kV) (hR : RepF (rowF m y 0) V) (hl : V.1.length ≤ 6) : Sp E yX8_place cX8_place 3 (some .int) 1 0 0 [.ref y, .int x] g m (fun v g' m' => v = some (.int (slotI (plV V.1 x))) ∧ g' = g ∧ m' = m) := by
  refine Sp.of (by decide) [some (.ref y), some (.int x), none] rfl rfl (Nat.le_of_ble_eq_true rfl) (fun X hX => ?_)
  have hp : slotF (fun i => qI m (y + 1) (7 + 5 * i + 0)) x 0 V.1.length = plV V.1 x := slotF_congr _ 0 (fun j _ hj => (congrArg (qI m (y + 1)) (by omega)).trans (hR.c (i := j) (k := 0) (by omega) (by decide)))
  refine r_iconst (v := 0) hX dX8_place_0 (by decide) ?_
  refine r_istore_n hX dX8_place_1 (Nat.le_of_ble_eq_true rfl) rfl ?_
  refine s_X8_place_l hX hs (n := V.1.length) ⟨hR.1, hl⟩ V.1.length 0 (by omega) (fun hq j => ?_) (fun j hq => ?_)
  · refine r_iconst (v := (-1)) hX dX8_place_30 (by decide) ?_
    exact r_iret hX dX8_place_31 ⟨by rw [← hp, hq]; rfl, rfl, rfl⟩ ⟨Nat.le_of_ble_eq_true rfl, Nat.le_of_ble_eq_true rfl⟩
  · refine r_iload_n hX dX8_place_22 rfl ?_
    exact r_iret hX dX8_place_23 ⟨by rw [← hp, hq]; rfl, rfl, rfl⟩ ⟨Nat.le_of_ble_eq_true rfl, Nat.le_of_ble_eq_true rfl⟩
set_option maxRecDepth 20000 in
set_option maxHeartbeats 4000000 in
theorem s_X8_isThere (E : qE) (g : qG) (m : qM) (y : Nat) (hs : ModS g m y) (x : Int32) (V : kV) (hR : RepF (rowF m y 0) V) (hl : V.1.length ≤ 6) : Sp E yX8_isThere cX8_isThere 2 (some .boolean) 2 0 0 [.ref y, .int x] g m (fun v g' m' => v = some (.int (if (plV V.1 x).isSome = true then 1 else 0)) ∧ g' = g ∧ m' = m) := by
  refine Sp.of (by decide) [some (.ref y), some (.int x)] rfl rfl (Nat.le_of_ble_eq_true rfl) (fun X hX => ?_)
  refine r_aload_n hX dX8_isThere_0 rfl ?_
  refine r_iload_n hX dX8_isThere_1 rfl ?_
  refine r_callV hX dX8_isThere_2 (s_X8_place E g m y hs x V hR hl) ml_X8_53 rfl rfl hs.1.1 rfl ⟨Nat.le_of_ble_eq_true rfl, Nat.le_of_ble_eq_true rfl⟩ ⟨Nat.le_of_ble_eq_true rfl, Nat.le_of_ble_eq_true rfl, rfl, Nat.le_of_ble_eq_true rfl⟩ (fun v2 g2 m2 hp => ?_)
  obtain ⟨hv, hg, hm⟩ := hp
  subst v2
  subst g2
  subst m2
  refine r_if_lt (tgt := 12) hX dX8_isThere_5 (by decide) (fun c5 => ?_) (fun c5 => ?_)
  · rcases hq : plV V.1 x with _ | i
    · refine r_iconst (v := 0) hX dX8_isThere_12 (by decide) ?_
      exact r_zret hX dX8_isThere_13 rfl ⟨rfl, rfl, rfl⟩ ⟨Nat.le_of_ble_eq_true rfl, Nat.le_of_ble_eq_true rfl⟩
    · rw [hq] at c5
      exact absurd c5 (nI_pos (by have := plV_lt hq; omega))
  · rcases hq : plV V.1 x with _ | i
    · rw [hq] at c5
      exact absurd (show (slotI none) < 0 by decide) c5
    · refine r_iconst (v := 1) hX dX8_isThere_8 (by decide) ?_
      refine r_goto (tgt := 13) hX dX8_isThere_9 (by decide) ?_
      exact r_zret hX dX8_isThere_13 rfl ⟨rfl, rfl, rfl⟩ ⟨Nat.le_of_ble_eq_true rfl, Nat.le_of_ble_eq_true rfl⟩
