/-! ===== CometObservatoryModel: what changes the present row ===== -/
theorem RepF.ext {f : Nat → Int32} {V V' : kV} (h : RepF f V) (hl : V.1.length = V'.1.length) (hc : ∀ i k, i < V'.1.length → k < 5 → cAt V.1 i k = cAt V'.1 i k) (hh : ∀ k, 1 ≤ k → k < 7 → V.2.1 k = V'.2.1 k) (hd : ∀ j, j < 12 → V.2.2 j = V'.2.2 j) : RepF f V' := by
  obtain ⟨h0, h1, h2, h3⟩ := h
  exact ⟨h0.trans (congrArg nI hl), fun k a b => (h1 k a b).trans (congrArg nI (hh k a b)), fun i k hi hk => (h2 i k (by omega) hk).trans (congrArg nI (hc i k hi hk)), fun j hj => (h3 j hj).trans (congrArg nI (hd j hj))⟩
theorem rowF_0 (m : qM) (y k : Nat) : rowF m y 0 k = qI m (y + 1) k := by
  unfold rowF
  congr 1
  omega
theorem rowF_w (m : qM) (y k l : Nat) (v : Int32) : rowF (wI m (y + 1) k v) y 0 l = if l = k then v else rowF m y 0 l := by
  rw [rowF_0, rowF_0, qI_wI]
  by_cases e : l = k
  · rw [if_pos ⟨rfl, e⟩, if_pos e]
  · rw [if_neg (fun h => e h.2), if_neg e]
theorem rowF_n (m : qM) {y a k : Nat} (v : Int32) (ha : a ≠ y + 1) : rowF (wI m a k v) y 0 = rowF m y 0 := funext fun l => by rw [rowF_0, rowF_0, qI_wI_a _ _ _ _ (fun h => ha h.symm)]
theorem RepF.wC {m : qM} {y : Nat} {V : kV} (h : RepF (rowF m y 0) V) {i k v : Nat} (hi : i < V.1.length) (hk : k < 5) (hl : V.1.length ≤ 6) : RepF (rowF (wI m (y + 1) (7 + 5 * i + k) (nI v)) y 0) (V.1.set i (updH (cAt V.1 i) k v), V.2) := by
  obtain ⟨h0, h1, h2, h3⟩ := h
  refine ⟨?_, fun l a b => ?_, fun j l hj hll => ?_, fun j hj => ?_⟩
  · rw [rowF_w, if_neg (by omega), h0]; exact congrArg nI List.length_set.symm
  · rw [rowF_w, if_neg (by omega)]; exact h1 l a b
  · have hj : j < (V.1.set i (updH (cAt V.1 i) k v)).length := hj
    rw [List.length_set] at hj
    show _ = nI (cAt (V.1.set i (updH (cAt V.1 i) k v)) j l)
    rw [rowF_w, cAt_set hi]
    by_cases e : j = i
    · subst e
      rw [if_pos rfl]
      unfold updH
      by_cases e2 : l = k
      · rw [if_pos (by omega), if_pos e2]
      · rw [if_neg (by omega), if_neg e2]; exact h2 j l hi hll
    · rw [if_neg (by omega), if_neg e]; exact h2 j l hj hll
  · rw [rowF_w, if_neg (by omega)]; exact h3 j hj
theorem RepF.wH {m : qM} {y : Nat} {V : kV} (h : RepF (rowF m y 0) V) {k v : Nat} (hk : 1 ≤ k ∧ k < 7) : RepF (rowF (wI m (y + 1) k (nI v)) y 0) (V.1, updH V.2.1 k v, V.2.2) := by
  obtain ⟨h0, h1, h2, h3⟩ := h
  refine ⟨?_, fun l a b => ?_, fun j l hj hll => ?_, fun j hj => ?_⟩
  · rw [rowF_w, if_neg (by omega)]; exact h0
  · rw [rowF_w]
    show _ = nI (if l = k then v else V.2.1 l)
    split
    · rfl
    · exact h1 l a b
  · rw [rowF_w, if_neg (by omega)]; exact h2 j l hj hll
  · rw [rowF_w, if_neg (by omega)]; exact h3 j hj
theorem RepF.wD {m : qM} {y : Nat} {V : kV} (h : RepF (rowF m y 0) V) {j v : Nat} (hj : j < 12) (hl : V.1.length ≤ 6) : RepF (rowF (wI m (y + 1) (37 + j) (nI v)) y 0) (V.1, V.2.1, fun l => if l = j then v else V.2.2 l) := by
  obtain ⟨h0, h1, h2, h3⟩ := h
  refine ⟨?_, fun l a b => ?_, fun i l hi hll => ?_, fun l hl => ?_⟩
  · rw [rowF_w, if_neg (by omega)]; exact h0
  · rw [rowF_w, if_neg (by omega)]; exact h1 l a b
  · have hi : i < V.1.length := hi
    rw [rowF_w, if_neg (by omega)]; exact h2 i l hi hll
  · rw [rowF_w]
    show _ = nI (if l = j then v else V.2.2 l)
    by_cases e : l = j
    · rw [if_pos (by omega), if_pos e]
    · rw [if_neg (by omega), if_neg e]; exact h3 l hl
theorem RepF.r0 {m : qM} {y : Nat} {V : kV} (h : RepF (rowF m y 0) V) : qI m (y + 1) 0 = nI V.1.length := (rowF_0 m y 0).symm.trans h.1
theorem RepF.rH {m : qM} {y : Nat} {V : kV} (h : RepF (rowF m y 0) V) {k : Nat} (h1 : 1 ≤ k) (h2 : k < 7) : qI m (y + 1) k = nI (V.2.1 k) := (rowF_0 m y k).symm.trans (h.2.1 k h1 h2)
theorem RepF.rC {m : qM} {y : Nat} {V : kV} (h : RepF (rowF m y 0) V) {i k : Nat} (h1 : i < V.1.length) (h2 : k < 5) : qI m (y + 1) (7 + 5 * i + k) = nI (cAt V.1 i k) := (rowF_0 m y _).symm.trans (h.2.2.1 i k h1 h2)
theorem RepF.rD {m : qM} {y : Nat} {V : kV} (h : RepF (rowF m y 0) V) {j : Nat} (h1 : j < 12) : qI m (y + 1) (37 + j) = nI (V.2.2 j) := (rowF_0 m y _).symm.trans (h.2.2.2 j h1)
/-- cells of the present row -/
def PR (y : Nat) : Nat → Nat → Prop := fun a j => a = y + 1 ∧ j < 49
set_option maxRecDepth 20000 in
set_option maxHeartbeats 4000000 in
theorem s_X8_goes_l {E : qE} {X : qX} {Q : State → Prop} {g : qG} {m : qM} (hX : MC E yX8_goes cX8_goes 4 none 1 0 0 [] X) {y : Nat} (hs : ModS g m y) {i t : Nat} (ht : t < 6) : ∀ (n k : Nat) (m1 : qM), k + n = 7 + 5 * t → 7 + 5 * i ≤ k → ((∀ a j, qI m1 a j = if a = y + 1 ∧ 7 + 5 * i ≤ j ∧ j < k then qI m (y + 1) (j + 5) else qI m a j) ∧ m1.2 = m.2) → (∀ (j : Int32) (m2 : qM), ((∀ a j, qI m2 a j = if a = y + 1 ∧ 7 + 5 * i ≤ j ∧ j < (7 + 5 * t) then qI m (y + 1) (j + 5) else qI m a j) ∧ m2.2 = m.2) → WS E X 0 0 Q g m2 46 [some (.ref y), some (.int (nI i)), some (.int (nI t)), some (.int j)] []) → WS E X 0 0 Q g m1 16 [some (.ref y), some (.int (nI i)), some (.int (nI t)), some (.int (nI k))] [] := by
  intro n
  induction n with
  | zero =>
    intro k m1 hk hik hm1 K
    have hib : k = 7 + 5 * t := by omega
    subst hib
    refine r_iload_n hX dX8_goes_16 rfl ?_
    refine r_bipush (v := 7) hX dX8_goes_17 (by decide) ?_
    refine r_iconst (v := 5) hX dX8_goes_19 (by decide) ?_
    refine r_iload_n hX dX8_goes_20 rfl ?_
    refine r_imul hX dX8_goes_21 ?_
    refine r_iadd hX dX8_goes_22 ?_
    rw [ix2]
    refine r_icmp_ge (tgt := 46) hX dX8_goes_23 (by decide) (fun c23 => ?_) (fun c23 => ?_)
    · exact K _ _ hm1
    · exact absurd (Int32.le_refl _) c23
  | succ n ih =>
    intro k m1 hk hik hm1 K
    refine r_iload_n hX dX8_goes_16 rfl ?_
    refine r_bipush (v := 7) hX dX8_goes_17 (by decide) ?_
    refine r_iconst (v := 5) hX dX8_goes_19 (by decide) ?_
    refine r_iload_n hX dX8_goes_20 rfl ?_
    refine r_imul hX dX8_goes_21 ?_
    refine r_iadd hX dX8_goes_22 ?_
    rw [ix2]
    refine r_icmp_ge (tgt := 46) hX dX8_goes_23 (by decide) (fun c23 => ?_) (fun c23 => ?_)
    · exact absurd c23 (nI_ge (by omega) (by omega))
    · refine r_aload_n hX dX8_goes_26 rfl ?_
      refine r_getR hX dX8_goes_27 hs.1.1 fl_X8_9 (hs.to hm1.2).2.1 ?_
      refine r_iload_n hX dX8_goes_30 rfl ?_
      refine r_aload_n hX dX8_goes_31 rfl ?_
      refine r_getR hX dX8_goes_32 hs.1.1 fl_X8_9 (hs.to hm1.2).2.1 ?_
      refine r_iload_n hX dX8_goes_35 rfl ?_
      refine r_iconst (v := 5) hX dX8_goes_36 (by decide) ?_
      refine r_iadd hX dX8_goes_37 ?_
      rw [show nI k + (5 : Int32) = nI (k + 5) from nI_add k 5]
      refine r_ialoadN hX dX8_goes_38 hs.1.2.1 (show k + 5 < 539 by omega) (by decide) ?_
      refine r_iastoreN hX dX8_goes_39 hs.1.2.1 (show k < 539 by omega) (by decide) ?_
      refine r_iinc (v := nI (k + 1)) hX dX8_goes_40 rfl (ii1 k) rfl ?_
      refine r_goto (tgt := 16) hX dX8_goes_43 (by decide) ?_
      have hval : qI m1 (y + 1) (k + 5) = qI m (y + 1) (k + 5) := (hm1.1 _ _).trans (if_neg (by omega))
      refine ih (k + 1) _ (by omega) (by omega) ⟨fun a j => ?_, hm1.2⟩ K
      rw [qI_wI, hval, hm1.1 a j]
      by_cases e : a = y + 1 ∧ j = k
      · obtain ⟨rfl, rfl⟩ := e
        rw [if_pos ⟨rfl, rfl⟩, if_pos ⟨rfl, hik, by omega⟩]
      · rw [if_neg e]
        by_cases e2 : a = y + 1 ∧ 7 + 5 * i ≤ j ∧ j < k
        · rw [if_pos e2, if_pos ⟨e2.1, e2.2.1, by omega⟩]
        · rw [if_neg e2, if_neg (fun h => e2 ⟨h.1, h.2.1, by have := h.2.2; by_cases ej : j = k; exact absurd ⟨h.1, ej⟩ e; omega⟩)]
set_option maxRecDepth 20000 in
set_option maxHeartbeats 4000000 in
theorem s_X8_goes_z {E : qE} {X : qX} {Q : State → Prop} {g : qG} {m : qM} (hX : MC E yX8_goes cX8_goes 4 none 1 0 0 [] X) {y : Nat} (hs : ModS g m y) {i t : Nat} (ht : t < 6) : ∀ (n k : Nat) (m1 : qM), k + n = 5 → ((∀ a j, qI m1 a j = if a = y + 1 ∧ 7 + 5 * t ≤ j ∧ j < 7 + 5 * t + k then 0 else qI m a j) ∧ m1.2 = m.2) → (∀ (j : Int32) (m2 : qM), ((∀ a j, qI m2 a j = if a = y + 1 ∧ 7 + 5 * t ≤ j ∧ j < 7 + 5 * t + 5 then 0 else qI m a j) ∧ m2.2 = m.2) → WS E X 0 0 Q g m2 66 [some (.ref y), some (.int (nI i)), some (.int (nI t)), some (.int j)] []) → WS E X 0 0 Q g m1 48 [some (.ref y), some (.int (nI i)), some (.int (nI t)), some (.int (nI k))] [] := by
  intro n
  induction n with
  | zero =>
    intro k m1 hk hm1 K
    have hib : k = 5 := by omega
    subst hib
    refine r_iload_n hX dX8_goes_48 rfl ?_
    refine r_iconst (v := 5) hX dX8_goes_49 (by decide) ?_
    refine r_icmp_ge (tgt := 66) hX dX8_goes_50 (by decide) (fun c50 => ?_) (fun c50 => ?_)
    · exact K _ _ hm1
    · exact absurd (Int32.le_refl _) c50
  | succ n ih =>
    intro k m1 hk hm1 K
    refine r_iload_n hX dX8_goes_48 rfl ?_
    refine r_iconst (v := 5) hX dX8_goes_49 (by decide) ?_
    refine r_icmp_ge (tgt := 66) hX dX8_goes_50 (by decide) (fun c50 => ?_) (fun c50 => ?_)
    · exact absurd c50 (nI_ge (b := 5) (by omega) (by decide))
    · refine r_aload_n hX dX8_goes_53 rfl ?_
      refine r_iload_n hX dX8_goes_54 rfl ?_
      refine r_iload_n hX dX8_goes_55 rfl ?_
      refine r_iconst (v := 0) hX dX8_goes_56 (by decide) ?_
      refine r_callV hX dX8_goes_57 (s_X8_set E g m1 y (hs.to hm1.2) t k (by omega) 0) ml_X8_57 rfl rfl hs.1.1 rfl ⟨Nat.le_of_ble_eq_true rfl, Nat.le_of_ble_eq_true rfl⟩ ⟨Nat.le_of_ble_eq_true rfl, Nat.le_of_ble_eq_true rfl, rfl, Nat.le_of_ble_eq_true rfl⟩ (fun v57 g57 m57 hp => ?_)
      obtain ⟨hv, hg, hm⟩ := hp
      subst v57
      subst g57
      subst m57
      refine r_iinc (v := nI (k + 1)) hX dX8_goes_60 rfl (ii1 k) rfl ?_
      refine r_goto (tgt := 48) hX dX8_goes_63 (by decide) ?_
      refine ih (k + 1) _ (by omega) ⟨fun a j => ?_, hm1.2⟩ K
      rw [qI_wI, hm1.1 a j]
      by_cases e : a = y + 1 ∧ j = 7 + 5 * t + k
      · obtain ⟨rfl, rfl⟩ := e
        rw [if_pos ⟨rfl, rfl⟩, if_pos ⟨rfl, by omega, by omega⟩]
      · rw [if_neg e]
        by_cases e2 : a = y + 1 ∧ 7 + 5 * t ≤ j ∧ j < 7 + 5 * t + k
        · rw [if_pos e2, if_pos ⟨e2.1, e2.2.1, by omega⟩]
        · rw [if_neg e2, if_neg (fun h => e2 ⟨h.1, h.2.1, by have := h.2.2; by_cases ej : j = 7 + 5 * t + k; exact absurd ⟨h.1, ej⟩ e; omega⟩)]
set_option maxRecDepth 20000 in
set_option maxHeartbeats 4000000 in
theorem s_X8_goes (E : qE) (g : qG) (m : qM) (y : Nat) (hs : ModS g m y) (V : kV) (hR : RepF (rowF m y 0) V) (hl : V.1.length ≤ 6) (i : Nat) (hi : i < V.1.length) : Sp E yX8_goes cX8_goes 4 none 1 0 0 [.ref y, .int (nI i)] g m (fun v g' m' => v = none ∧ g' = g ∧ RepF (rowF m' y 0) (V.1.eraseIdx i, V.2) ∧ MF (PR y) m m') := by
  refine Sp.of (by decide) [some (.ref y), some (.int (nI i)), none, none] rfl rfl (Nat.le_of_ble_eq_true rfl) (fun X hX => ?_)
  have h0 : qI m (y + 1) 0 = nI V.1.length := hR.r0
  refine r_aload_n hX dX8_goes_0 rfl ?_
  refine r_getR hX dX8_goes_1 hs.1.1 fl_X8_9 hs.2.1 ?_
  refine r_iconst (v := 0) hX dX8_goes_4 (by decide) ?_
  refine r_ialoadN hX dX8_goes_5 hs.1.2.1 (show 0 < 539 by decide) (by decide) ?_
  rw [h0]
  refine r_iconst (v := 1) hX dX8_goes_6 (by decide) ?_
  refine r_isub hX dX8_goes_7 ?_
  rw [show nI V.1.length - (1 : Int32) = nI (V.1.length - 1) from pk_sub (b := 1) (by omega)]
  refine r_istore_n hX dX8_goes_8 (Nat.le_of_ble_eq_true rfl) rfl ?_
  refine r_bipush (v := 7) hX dX8_goes_9 (by decide) ?_
  refine r_iconst (v := 5) hX dX8_goes_11 (by decide) ?_
  refine r_iload_n hX dX8_goes_12 rfl ?_
  refine r_imul hX dX8_goes_13 ?_
  refine r_iadd hX dX8_goes_14 ?_
  rw [ix2]
  refine r_istore_n hX dX8_goes_15 (Nat.le_of_ble_eq_true rfl) rfl ?_
  obtain ⟨t, ht⟩ : ∃ t, t = V.1.length - 1 := ⟨_, rfl⟩
  rw [← ht]
  refine s_X8_goes_l (g := g) (m := m) hX hs (i := i) (t := t) (by omega) (7 + 5 * t - (7 + 5 * i)) (7 + 5 * i) m (by omega) (Nat.le_refl _) ⟨fun a j => by rw [if_neg (by omega)], rfl⟩ (fun j m1 hm1 => ?_)
  refine r_iconst (v := 0) hX dX8_goes_46 (by decide) ?_
  refine r_istore_n hX dX8_goes_47 (Nat.le_of_ble_eq_true rfl) rfl ?_
  refine s_X8_goes_z (g := g) (m := m1) hX (hs.to hm1.2) (i := i) (t := t) (by omega) 5 0 m1 (by omega) ⟨fun a j => by rw [if_neg (by omega)], rfl⟩ (fun j m2 hm2 => ?_)
  refine r_aload_n hX dX8_goes_66 rfl ?_
  refine r_getR hX dX8_goes_67 hs.1.1 fl_X8_9 (hs.to (hm2.2.trans hm1.2)).2.1 ?_
  refine r_iconst (v := 0) hX dX8_goes_70 (by decide) ?_
  refine r_iload_n hX dX8_goes_71 rfl ?_
  refine r_iastoreN hX dX8_goes_72 hs.1.2.1 (show 0 < 539 by decide) (by decide) ?_
  refine r_vret hX dX8_goes_73 ⟨rfl, rfl, ?_, ?_⟩ ⟨Nat.le_of_ble_eq_true rfl, Nat.le_of_ble_eq_true rfl⟩
  · have e : ∀ k, k ≠ 0 → rowF (wI m2 (y + 1) 0 (nI t)) y 0 k = if 7 + 5 * t ≤ k ∧ k < 7 + 5 * t + 5 then 0 else if 7 + 5 * i ≤ k ∧ k < 7 + 5 * t then rowF m y 0 (k + 5) else rowF m y 0 k := fun k hk => by
      rw [rowF_w, if_neg hk, rowF_0, hm2.1, hm1.1, rowF_0, rowF_0]
      by_cases e1 : 7 + 5 * t ≤ k ∧ k < 7 + 5 * t + 5
      · rw [if_pos ⟨rfl, e1⟩, if_pos e1]
      · rw [if_neg (fun h => e1 h.2), if_neg e1]
        by_cases e2 : 7 + 5 * i ≤ k ∧ k < 7 + 5 * t
        · rw [if_pos ⟨rfl, e2⟩, if_pos e2]
        · rw [if_neg (fun h => e2 h.2), if_neg e2]
    refine hR.erase hi ?_ (fun k a b => ?_) (fun j hj => ?_) (fun j k hj hk => ?_)
    · rw [rowF_w, if_pos rfl, ht]
    · rw [e k (by omega), if_neg (by omega), if_neg (by omega)]
    · rw [e _ (by omega), if_neg (by omega), if_neg (by omega)]
    · rw [e _ (by omega), if_neg (by omega)]
      by_cases e1 : j < i
      · rw [if_pos e1, if_neg (by omega)]
      · rw [if_neg e1, if_pos (by omega)]
        congr 1
        omega
  · refine MF.wI ⟨fun a j hn => ?_, hm2.2.trans hm1.2⟩ ⟨rfl, by decide⟩
    rw [hm2.1, hm1.1, if_neg (fun h => hn ⟨h.1, by omega⟩), if_neg (fun h => hn ⟨h.1, by omega⟩)]
theorem set_pre (pre post : List (Nat → Nat)) (c d : Nat → Nat) : (pre ++ c :: post).set pre.length d = pre ++ d :: post := by
  rw [List.set_append_right _ _ (Nat.le_refl _), Nat.sub_self]
  rfl
theorem cAt_pre (pre post : List (Nat → Nat)) (c : Nat → Nat) : cAt (pre ++ c :: post) pre.length = c := by rw [cAt_app, if_neg (Nat.lt_irrefl _), Nat.sub_self, cAt_cons_0]
set_option maxRecDepth 20000 in
set_option maxHeartbeats 4000000 in
theorem s_X8_passes (E : qE) (g : qG) (m : qM) (y : Nat) (hs : ModS g m y) (pre post : List (Nat → Nat)) (c H f : Nat → Nat) (hR : RepF (rowF m y 0) (pre ++ c :: post, H, f)) (hl : (pre ++ c :: post).length ≤ 6) (h1 : 1 ≤ c 2 ∧ c 2 < 2 ^ 31) (h3 : c 3 = H 2) (hd : H 2 < 2 ^ 31) : Sp E yX8_passes cX8_passes 3 (some .boolean) 1 0 0 [.ref y, .int (nI pre.length)] g m (fun v g' m' => v = some (.int (if c 2 = 1 then 1 else 0)) ∧ g' = g ∧ RepF (rowF m' y 0) (pre ++ pasC c :: post, updH H 5 (H 5 + 1), fun j => if j = H 2 % 12 then f j + c 2 else f j) ∧ MF (PR y) m m') := by
  refine Sp.of (by decide) [some (.ref y), some (.int (nI pre.length)), none] rfl rfl (Nat.le_of_ble_eq_true rfl) (fun X hX => ?_)
  have hl6 : pre.length + (post.length + 1) ≤ 6 := by simpa using hl
  have hlt : pre.length < (pre ++ c :: post).length := by simp
  have hm12 : H 2 % 12 < 12 := Nat.mod_lt _ (by decide)
  have e2 : qI m (y + 1) (7 + 5 * pre.length + 2) = nI (c 2) := by rw [hR.rC hlt (by decide)]; exact congrArg (fun z => nI (z 2)) (cAt_pre _ _ _)
  refine r_aload_n hX dX8_passes_0 rfl ?_
  refine r_iload_n hX dX8_passes_1 rfl ?_
  refine r_iconst (v := 2) hX dX8_passes_2 (by decide) ?_
  refine r_callV hX dX8_passes_3 (s_X8_c E g m y hs pre.length 2 (by omega)) ml_X8_49 rfl rfl hs.1.1 rfl ⟨Nat.le_of_ble_eq_true rfl, Nat.le_of_ble_eq_true rfl⟩ ⟨Nat.le_of_ble_eq_true rfl, Nat.le_of_ble_eq_true rfl, rfl, Nat.le_of_ble_eq_true rfl⟩ (fun v3 g3 m3 hp => ?_)
  obtain ⟨hv, hg, hm⟩ := hp
  subst v3
  subst g3
  subst m3
  rw [e2]
  refine r_istore_n hX dX8_passes_6 (Nat.le_of_ble_eq_true rfl) rfl ?_
  refine r_aload_n hX dX8_passes_7 rfl ?_
  refine r_getR hX dX8_passes_8 hs.1.1 fl_X8_9 hs.2.1 ?_
  refine r_bipush (v := 37) hX dX8_passes_11 (by decide) ?_
  refine r_aload_n hX dX8_passes_13 rfl ?_
  refine r_getR hX dX8_passes_14 hs.1.1 fl_X8_9 hs.2.1 ?_
  refine r_iconst (v := 2) hX dX8_passes_17 (by decide) ?_
  refine r_ialoadN hX dX8_passes_18 hs.1.2.1 (show 2 < 539 by decide) (by decide) ?_
  rw [hR.rH (by decide) (by decide)]
  refine r_bipush (v := 12) hX dX8_passes_19 (by decide) ?_
  refine r_irem hX dX8_passes_21 (by decide) ?_
  rw [show nI (H 2) - nI (H 2) / 12 * 12 = nI (H 2 % 12) from pk_rem (d := 12) hd (by decide) (by decide)]
  refine r_iadd hX dX8_passes_22 ?_
  rw [show (37 : Int32) + nI (H 2 % 12) = nI (37 + H 2 % 12) from nI_add 37 _]
  refine r_dup2 hX dX8_passes_23 rfl rfl ?_
  refine r_ialoadN hX dX8_passes_24 hs.1.2.1 (show 37 + H 2 % 12 < 539 by omega) (by decide) ?_
  rw [hR.rD hm12]
  refine r_iload_n hX dX8_passes_25 rfl ?_
  refine r_iadd hX dX8_passes_26 ?_
  rw [nI_add]
  refine r_iastoreN hX dX8_passes_27 hs.1.2.1 (show 37 + H 2 % 12 < 539 by omega) (by decide) ?_
  have hR1 := hR.wD (v := f (H 2 % 12) + c 2) hm12 hl
  refine r_aload_n hX dX8_passes_28 rfl ?_
  refine r_getR hX dX8_passes_29 hs.1.1 fl_X8_9 hs.2.1 ?_
  refine r_iconst (v := 5) hX dX8_passes_32 (by decide) ?_
  refine r_dup2 hX dX8_passes_33 rfl rfl ?_
  refine r_ialoadN hX dX8_passes_34 hs.1.2.1 (show 5 < 539 by decide) (by decide) ?_
  rw [hR1.rH (by decide) (by decide)]
  refine r_iconst (v := 1) hX dX8_passes_35 (by decide) ?_
  refine r_iadd hX dX8_passes_36 ?_
  rw [nI_1]
  refine r_iastoreN hX dX8_passes_37 hs.1.2.1 (show 5 < 539 by decide) (by decide) ?_
  have hR2 := hR1.wH (k := 5) (v := H 5 + 1) (by decide)
  refine r_aload_n hX dX8_passes_38 rfl ?_
  refine r_iload_n hX dX8_passes_39 rfl ?_
  refine r_iconst (v := 4) hX dX8_passes_40 (by decide) ?_
  refine r_aload_n hX dX8_passes_41 rfl ?_
  refine r_iload_n hX dX8_passes_42 rfl ?_
  refine r_iconst (v := 4) hX dX8_passes_43 (by decide) ?_
  refine r_callV hX dX8_passes_44 (s_X8_c E g _ y (by exact hs.to rfl) pre.length 4 (by omega)) ml_X8_49 rfl rfl hs.1.1 rfl ⟨Nat.le_of_ble_eq_true rfl, Nat.le_of_ble_eq_true rfl⟩ ⟨Nat.le_of_ble_eq_true rfl, Nat.le_of_ble_eq_true rfl, rfl, Nat.le_of_ble_eq_true rfl⟩ (fun v44 g44 m44 hp => ?_)
  obtain ⟨hv, hg, hm⟩ := hp
  subst v44
  subst g44
  subst m44
  rw [hR2.rC (i := pre.length) (k := 4) hlt (by decide), show cAt (pre ++ c :: post) pre.length = c from cAt_pre _ _ _]
  refine r_iconst (v := 1) hX dX8_passes_47 (by decide) ?_
  refine r_iadd hX dX8_passes_48 ?_
  rw [nI_1]
  refine r_callV hX dX8_passes_49 (s_X8_set E g _ y (by exact hs.to rfl) pre.length 4 (by omega) (nI (c 4 + 1))) ml_X8_57 rfl rfl hs.1.1 rfl ⟨Nat.le_of_ble_eq_true rfl, Nat.le_of_ble_eq_true rfl⟩ ⟨Nat.le_of_ble_eq_true rfl, Nat.le_of_ble_eq_true rfl, rfl, Nat.le_of_ble_eq_true rfl⟩ (fun v49 g49 m49 hp => ?_)
  obtain ⟨hv, hg, hm⟩ := hp
  subst v49
  subst g49
  subst m49
  have hR3 := RepF.wC hR2 (i := pre.length) (k := 4) (v := c 4 + 1) hlt (by decide) hl
  rw [cAt_pre, set_pre] at hR3
  refine r_aload_n hX dX8_passes_52 rfl ?_
  refine r_iload_n hX dX8_passes_53 rfl ?_
  refine r_iconst (v := 2) hX dX8_passes_54 (by decide) ?_
  refine r_iload_n hX dX8_passes_55 rfl ?_
  refine r_iconst (v := 1) hX dX8_passes_56 (by decide) ?_
  refine r_isub hX dX8_passes_57 ?_
  rw [show nI (c 2) - (1 : Int32) = nI (c 2 - 1) from pk_sub (b := 1) h1.1]
  refine r_callV hX dX8_passes_58 (s_X8_set E g _ y (by exact hs.to rfl) pre.length 2 (by omega) (nI (c 2 - 1))) ml_X8_57 rfl rfl hs.1.1 rfl ⟨Nat.le_of_ble_eq_true rfl, Nat.le_of_ble_eq_true rfl⟩ ⟨Nat.le_of_ble_eq_true rfl, Nat.le_of_ble_eq_true rfl, rfl, Nat.le_of_ble_eq_true rfl⟩ (fun v58 g58 m58 hp => ?_)
  obtain ⟨hv, hg, hm⟩ := hp
  subst v58
  subst g58
  subst m58
  have hR4 := RepF.wC hR3 (i := pre.length) (k := 2) (v := c 2 - 1) (by simp) (by decide) (by simpa using hl6)
  rw [cAt_pre, set_pre] at hR4
  refine r_aload_n hX dX8_passes_61 rfl ?_
  refine r_iload_n hX dX8_passes_62 rfl ?_
  refine r_iconst (v := 3) hX dX8_passes_63 (by decide) ?_
  refine r_aload_n hX dX8_passes_64 rfl ?_
  refine r_getR hX dX8_passes_65 hs.1.1 fl_X8_9 hs.2.1 ?_
  refine r_iconst (v := 2) hX dX8_passes_68 (by decide) ?_
  refine r_ialoadN hX dX8_passes_69 hs.1.2.1 (show 2 < 539 by decide) (by decide) ?_
  rw [hR4.rH (k := 2) (by decide) (by decide)]
  refine r_aload_n hX dX8_passes_70 rfl ?_
  refine r_iload_n hX dX8_passes_71 rfl ?_
  refine r_iconst (v := 1) hX dX8_passes_72 (by decide) ?_
  refine r_callV hX dX8_passes_73 (s_X8_c E g _ y (by exact hs.to rfl) pre.length 1 (by omega)) ml_X8_49 rfl rfl hs.1.1 rfl ⟨Nat.le_of_ble_eq_true rfl, Nat.le_of_ble_eq_true rfl⟩ ⟨Nat.le_of_ble_eq_true rfl, Nat.le_of_ble_eq_true rfl, rfl, Nat.le_of_ble_eq_true rfl⟩ (fun v73 g73 m73 hp => ?_)
  obtain ⟨hv, hg, hm⟩ := hp
  subst v73
  subst g73
  subst m73
  rw [hR4.rC (i := pre.length) (k := 1) (by simp) (by decide), cAt_pre]
  refine r_iadd hX dX8_passes_76 ?_
  rw [show nI (updH H 5 (H 5 + 1) 2) + nI (updH (updH c 4 (c 4 + 1)) 2 (c 2 - 1) 1) = nI (c 3 + c 1) by rw [h3]; exact nI_add _ _]
  refine r_callV hX dX8_passes_77 (s_X8_set E g _ y (by exact hs.to rfl) pre.length 3 (by omega) (nI (c 3 + c 1))) ml_X8_57 rfl rfl hs.1.1 rfl ⟨Nat.le_of_ble_eq_true rfl, Nat.le_of_ble_eq_true rfl⟩ ⟨Nat.le_of_ble_eq_true rfl, Nat.le_of_ble_eq_true rfl, rfl, Nat.le_of_ble_eq_true rfl⟩ (fun v77 g77 m77 hp => ?_)
  obtain ⟨hv, hg, hm⟩ := hp
  subst v77
  subst g77
  subst m77
  have hR5 := RepF.wC hR4 (i := pre.length) (k := 3) (v := c 3 + c 1) (by simp) (by decide) (by simpa using hl6)
  rw [cAt_pre, set_pre] at hR5
  have hF : RepF (rowF (wI (wI (wI (wI (wI m (y + 1) (37 + H 2 % 12) (nI (f (H 2 % 12) + c 2))) (y + 1) 5 (nI (H 5 + 1))) (y + 1) (7 + 5 * pre.length + 4) (nI (c 4 + 1))) (y + 1) (7 + 5 * pre.length + 2) (nI (c 2 - 1))) (y + 1) (7 + 5 * pre.length + 3) (nI (c 3 + c 1))) y 0) (pre ++ pasC c :: post, updH H 5 (H 5 + 1), fun j => if j = H 2 % 12 then f j + c 2 else f j) := by
    refine hR5.ext (by simp) (fun i k hi hk => ?_) (fun k _ _ => rfl) (fun j hj => ?_)
    · show cAt (pre ++ updH (updH (updH c 4 (c 4 + 1)) 2 (c 2 - 1)) 3 (c 3 + c 1) :: post) i k = cAt (pre ++ pasC c :: post) i k
      have e9 : updH (updH (updH c 4 (c 4 + 1)) 2 (c 2 - 1)) 3 (c 3 + c 1) = pasC c := by
        funext k
        unfold updH pasC
        by_cases k2 : k = 2
        · subst k2; rfl
        · by_cases k3 : k = 3
          · subst k3; rfl
          · rw [if_neg k3, if_neg k2, if_neg k2, if_neg k3]
      rw [e9]
    · show (if j = H 2 % 12 then f (H 2 % 12) + c 2 else f j) = (if j = H 2 % 12 then f j + c 2 else f j)
      by_cases e : j = H 2 % 12
      · rw [if_pos e, if_pos e, e]
      · rw [if_neg e, if_neg e]
  have hMF : MF (PR y) m (wI (wI (wI (wI (wI m (y + 1) (37 + H 2 % 12) (nI (f (H 2 % 12) + c 2))) (y + 1) 5 (nI (H 5 + 1))) (y + 1) (7 + 5 * pre.length + 4) (nI (c 4 + 1))) (y + 1) (7 + 5 * pre.length + 2) (nI (c 2 - 1))) (y + 1) (7 + 5 * pre.length + 3) (nI (c 3 + c 1))) := (((((MF.rf (PR y) m).wI ⟨rfl, by omega⟩).wI ⟨rfl, by omega⟩).wI ⟨rfl, by omega⟩).wI ⟨rfl, by omega⟩).wI ⟨rfl, by omega⟩
  refine r_iload_n hX dX8_passes_80 rfl ?_
  refine r_iconst (v := 1) hX dX8_passes_81 (by decide) ?_
  refine r_icmp_ne (tgt := 89) hX dX8_passes_82 (by decide) (fun c82 => ?_) (fun c82 => ?_)
  · have hne : ¬ c 2 = 1 := fun h => c82 (by rw [h]; rfl)
    refine r_iconst (v := 0) hX dX8_passes_89 (by decide) ?_
    exact r_zret hX dX8_passes_90 rfl ⟨by rw [if_neg hne], rfl, hF, hMF⟩ ⟨Nat.le_of_ble_eq_true rfl, Nat.le_of_ble_eq_true rfl⟩
  · have heq : c 2 = 1 := (nI_eq (b := 1) h1.2 (by decide)).mp c82
    refine r_iconst (v := 1) hX dX8_passes_85 (by decide) ?_
    refine r_goto (tgt := 90) hX dX8_passes_86 (by decide) ?_
    exact r_zret hX dX8_passes_90 rfl ⟨by rw [if_pos heq], rfl, hF, hMF⟩ ⟨Nat.le_of_ble_eq_true rfl, Nat.le_of_ble_eq_true rfl⟩
