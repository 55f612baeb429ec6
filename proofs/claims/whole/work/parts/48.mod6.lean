/-! ===== CometObservatoryModel: the whole object, and what a changing call leaves ===== -/
def SavM (m : qM) (y : Nat) (v : Option kV) : Prop := qI m y 3 = (if v.isSome = true then 1 else 0) ∧ ∀ V, v = some V → V.1.length ≤ 6 ∧ RepF (rowF m y 9) V
def HisM (m : qM) (y : Nat) (l : List kV) : Prop := qI m y 2 = nI l.length ∧ l.length ≤ 8 ∧ ∀ (i : Nat) (V : kV), l[i]? = some V → V.1.length ≤ 6 ∧ RepF (rowF m y (l.length - i)) V
def TxM (m : qM) (y : Nat) (O : kO) : Prop := qI m y 8 = nI (oTn O) ∧ ∀ j, j < oTn O → qI m (y + 4) j = nI (oTx O j)
def LnM (m : qM) (y : Nat) (l : List Nat) : Prop := qI m y 16 = nI l.length ∧ ∀ j, j < l.length → qI m (y + 6) j = nI (l.getD j 0)
def ModB (g : qG) (m : qM) (y : Nat) (O : kO) : Prop := ModS g m y ∧ HisM m y (oHi O) ∧ SavM m y (oSv O) ∧ (qI m y 11 = oI (oEr O) ∧ qI m y 12 = oI (oFa O)) ∧ TxM m y O ∧ LnM m y (oLn O)
def ModV (g : qG) (m : qM) (y : Nat) (O : kO) : Prop := ModB g m y O ∧ O.1.1.length ≤ 6 ∧ RepF (rowF m y 0) O.1
/-- cells that ModB speaks of -/
def PB (y : Nat) : Nat → Nat → Prop := fun a j => (a = y + 1 ∧ 49 ≤ j ∧ j < 490) ∨ (a = y ∧ (j = 2 ∨ j = 3 ∨ j = 8 ∨ j = 11 ∨ j = 12 ∨ j = 16)) ∨ a = y + 4 ∨ a = y + 6
def PM (y : Nat) : Nat → Nat → Prop := fun a _ => y ≤ a ∧ a < y + 7
theorem ModB.fr {g : qG} {m m' : qM} {y : Nat} {O : kO} (h : ModB g m y O) (he : ∀ a j, PB y a j → qI m' a j = qI m a j) (h2 : m'.2 = m.2) : ModB g m' y O := by
  obtain ⟨b1, ⟨b2, b3, b4⟩, ⟨b5, b6⟩, ⟨b7, b8⟩, ⟨b9, b10⟩, b11, b12⟩ := h
  have er : ∀ w, 1 ≤ w → w < 10 → ∀ k, k < 49 → rowF m' y w k = rowF m y w k := fun w h1 h2 k hk => he _ _ (Or.inl ⟨rfl, by omega, by omega⟩)
  refine ⟨b1.to h2, ⟨?_, b3, fun i V hi => ?_⟩, ⟨?_, fun V hV => ?_⟩, ⟨?_, ?_⟩, ⟨?_, fun j hj => ?_⟩, ?_, fun j hj => ?_⟩
  · rw [he _ _ (Or.inr (Or.inl ⟨rfl, by omega⟩))]; exact b2
  · have hil := (List.getElem?_eq_some_iff.mp hi).1
    obtain ⟨c1, c2⟩ := b4 i V hi
    exact ⟨c1, c2.congr (er _ (by omega) (by omega)) c1⟩
  · rw [he _ _ (Or.inr (Or.inl ⟨rfl, by omega⟩))]; exact b5
  · obtain ⟨c1, c2⟩ := b6 V hV
    exact ⟨c1, c2.congr (er _ (by omega) (by omega)) c1⟩
  · rw [he _ _ (Or.inr (Or.inl ⟨rfl, by omega⟩))]; exact b7
  · rw [he _ _ (Or.inr (Or.inl ⟨rfl, by omega⟩))]; exact b8
  · rw [he _ _ (Or.inr (Or.inl ⟨rfl, by omega⟩))]; exact b9
  · rw [he _ _ (Or.inr (Or.inr (Or.inl rfl)))]; exact b10 j hj
  · rw [he _ _ (Or.inr (Or.inl ⟨rfl, by omega⟩))]; exact b11
  · rw [he _ _ (Or.inr (Or.inr (Or.inr rfl)))]; exact b12 j hj
theorem ModB.mf {P : Nat → Nat → Prop} {g : qG} {m m' : qM} {y : Nat} {O : kO} (h : ModB g m y O) (hM : MF P m m') (hP : ∀ a j, PB y a j → ¬ P a j) : ModB g m' y O := h.fr (fun a j hb => hM.1 a j (hP a j hb)) hM.2
theorem ModV.fr {g : qG} {m m' : qM} {y : Nat} {O : kO} (h : ModV g m y O) (he : ∀ a j, (PB y a j ∨ (a = y + 1 ∧ j < 49)) → qI m' a j = qI m a j) (h2 : m'.2 = m.2) : ModV g m' y O := ⟨h.1.fr (fun a j hb => he a j (Or.inl hb)) h2, h.2.1, h.2.2.congr (fun k hk => he _ _ (Or.inr ⟨rfl, by omega⟩)) h.2.1⟩
theorem ModV.mf {P : Nat → Nat → Prop} {g : qG} {m m' : qM} {y : Nat} {O : kO} (h : ModV g m y O) (hM : MF P m m') (hP : ∀ a j, (PB y a j ∨ (a = y + 1 ∧ j < 49)) → ¬ P a j) : ModV g m' y O := h.fr (fun a j hb => hM.1 a j (hP a j hb)) hM.2
/-- the rows the telescope's plans, the commands, the parser stand in; what is thrown; the answer -/
def PQ (y : Nat) : Nat → Nat → Prop := fun a j => a = y + 2 ∨ a = y + 3 ∨ a = y + 5 ∨ (a = y ∧ (j = 0 ∨ j = 4 ∨ j = 9 ∨ j = 10 ∨ j = 14))
theorem PQ_no {y : Nat} : ∀ a j, (PB y a j ∨ (a = y + 1 ∧ j < 49)) → ¬ PQ y a j := fun a j h hq => by
  unfold PB at h
  unfold PQ at hq
  omega
theorem PQ_in {y : Nat} : ∀ a j, PQ y a j → PM y a j := fun a j hq => by
  unfold PQ at hq
  unfold PM
  omega
/-- row w is written over by row v -/
def CPY (y v w : Nat) (m m' : qM) : Prop := (∀ a j, qI m' a j = if a = y + 1 ∧ 49 * w ≤ j ∧ j < 49 * w + 49 then qI m (y + 1) (49 * v + (j - 49 * w)) else qI m a j) ∧ m'.2 = m.2
section
variable {y v w : Nat} {m m' : qM}
theorem CPY.row (h : CPY y v w m m') : ∀ k, k < 49 → rowF m' y w k = rowF m y v k := fun k hk => by
  unfold rowF
  rw [h.1, if_pos ⟨rfl, by omega, by omega⟩]
  congr 1
  omega
theorem CPY.oth (h : CPY y v w m m') {w' : Nat} (hw : w' ≠ w) : ∀ k, k < 49 → rowF m' y w' k = rowF m y w' k := fun k hk => by
  unfold rowF
  rw [h.1, if_neg (by omega)]
theorem CPY.off (h : CPY y v w m m') {a : Nat} (ha : a ≠ y + 1) (j : Nat) : qI m' a j = qI m a j := by rw [h.1, if_neg (fun q => ha q.1)]
theorem CPY.mf (h : CPY y v w m m') : MF (fun a j => a = y + 1 ∧ 49 * w ≤ j ∧ j < 49 * w + 49) m m' := ⟨fun a j hn => by rw [h.1, if_neg hn], h.2⟩
end
theorem HisM.push {m m' : qM} {y : Nat} {l : List kV} {V : kV} (h : HisM m y l) (hl : V.1.length ≤ 6) (hA : RepF (rowF m y 10) V) (h2 : qI m' y 2 = nI (if l.length < 8 then l.length + 1 else 8)) (hr : ∀ k, k < 49 → rowF m' y (if l.length < 8 then l.length + 1 else 8) k = rowF m y 10 k) (ho : ∀ w, 1 ≤ w → w < (if l.length < 8 then l.length + 1 else 8) → ∀ k, k < 49 → rowF m' y w k = rowF m y (if l.length < 8 then w else w + 1) k) : HisM m' y ((V :: l).take 8) := by
  obtain ⟨a1, a2, a3⟩ := h
  have hlen : ((V :: l).take 8).length = if l.length < 8 then l.length + 1 else 8 := by
    rw [List.length_take, List.length_cons]
    split <;> omega
  have h8 : (if l.length < 8 then l.length + 1 else 8) ≤ 8 := by split <;> omega
  refine ⟨by rw [hlen]; exact h2, by rw [hlen]; exact h8, fun i W hi => ?_⟩
  have hi8 := (List.getElem?_eq_some_iff.mp hi).1
  rw [hlen] at hi8 ⊢
  rw [List.getElem?_take, if_pos (by omega)] at hi
  rcases i with _ | i
  · rw [List.getElem?_cons_zero] at hi
    cases hi
    exact ⟨hl, hA.congr hr hl⟩
  · rw [List.getElem?_cons_succ] at hi
    have hil := (List.getElem?_eq_some_iff.mp hi).1
    obtain ⟨c1, c2⟩ := a3 i W hi
    refine ⟨c1, c2.congr (fun k hk => ?_) c1⟩
    rw [ho _ (by omega) (by omega) k hk]
    congr 1
    split <;> omega
/-- what a call of the reference leaves that answers an int -/
def pU (y : Nat) (g : qG) (m : qM) (R : kR) : Option Value → qG → qM → Prop := fun v g' m' => (∃ w, v = some (.int w) ∧ (R.1 = 0 → w = R.2.1)) ∧ g' = g ∧ qI m' y 0 = nI R.1 ∧ ModV g m' y R.2.2 ∧ MF (PM y) m m'
section
variable {O : kO} {r : kA} {a b s u : Nat}
theorem chg_1 (h : r.1 = 1) : chg O r a b s u = (a, 0, O) := by unfold chg; rw [h]; rfl
theorem chg_2 (h : r.1 = 2) : chg O r a b s u = (b, 0, O) := by unfold chg; rw [h]; rfl
theorem chg_3 (h : r.1 = 3) : chg O r a b s u = (s, 0, O) := by unfold chg; rw [h]; rfl
theorem chg_4 (h : r.1 = 4) : chg O r a b s u = (u, 0, O) := by unfold chg; rw [h]; rfl
theorem chg_0 (h : r.1 = 0) : chg O r a b s u = (0, r.2.1, r.2.2, O.2.1, (O.1 :: O.2.2.1).take 8, O.2.2.2) := if_pos h
end
set_option maxRecDepth 20000 in
set_option maxHeartbeats 4000000 in
theorem s_X8_begins (E : qE) (g : qG) (m : qM) (y : Nat) (hs : ModS g m y) : Sp E yX8_begins cX8_begins 1 none 1 0 0 [.ref y] g m (fun v g' m' => v = none ∧ g' = g ∧ CPY y 0 10 m m') := by
  refine Sp.of (by decide) [some (.ref y)] rfl rfl (Nat.le_of_ble_eq_true rfl) (fun X hX => ?_)
  refine r_aload_n hX dX8_begins_0 rfl ?_
  refine r_iconst (v := 0) hX dX8_begins_1 (by decide) ?_
  refine r_bipush (v := 10) hX dX8_begins_2 (by decide) ?_
  refine r_callV hX dX8_begins_4 (s_X8_copies E g m y hs 0 10 (by decide) (by decide) (by decide)) ml_X8_39 rfl rfl hs.1.1 rfl ⟨Nat.le_of_ble_eq_true rfl, Nat.le_of_ble_eq_true rfl⟩ ⟨Nat.le_of_ble_eq_true rfl, Nat.le_of_ble_eq_true rfl, rfl, Nat.le_of_ble_eq_true rfl⟩ (fun v4 g4 m4 hp => ?_)
  obtain ⟨hv, hg, hm⟩ := hp
  subst v4
  subst g4
  exact r_vret hX dX8_begins_7 ⟨rfl, rfl, hm⟩ ⟨Nat.le_of_ble_eq_true rfl, Nat.le_of_ble_eq_true rfl⟩
set_option maxRecDepth 20000 in
set_option maxHeartbeats 4000000 in
theorem s_X8_ends_t {E : qE} {X : qX} {g : qG} {m0 m : qM} (hX : MC E yX8_ends cX8_ends 7 (some .int) 1 0 0 [] X) {y : Nat} (hs : ModS g m y) {O : kO} (hB : ModB g m y O) (hl : O.1.1.length ≤ 6) (hA : RepF (rowF m y 10) O.1) (hM : MF (PM y) m0 m) {K : Nat} (h0 : K ≠ 0) (hK : K < 2 ^ 31) (l1 l2 l3 l4 l5 : Int32) : WS E X 0 0 (RQ E X (pU y g m0 (K, 0, O)) 0 0) g m 40 [some (.ref y), some (.int l1), some (.int l2), some (.int l3), some (.int l4), some (.int l5), none] [.int (nI K), .ref y] := by
  refine r_putI hX dX8_ends_40 hs.1.1 fl_X8_36 ?_
  refine r_aload_n hX dX8_ends_43 rfl ?_
  refine r_getI hX dX8_ends_44 hs.1.1 fl_X8_36 ?_
  rw [show qI (wI m y 0 (nI K)) y 0 = nI K by rw [qI_wI, if_pos ⟨rfl, rfl⟩]]
  refine r_if_eq (tgt := 59) hX dX8_ends_47 (by decide) (fun c47 => ?_) (fun c47 => ?_)
  · exact absurd c47 (nI_ne0 (by omega) hK)
  · refine r_aload_n hX dX8_ends_50 rfl ?_
    refine r_bipush (v := 10) hX dX8_ends_51 (by decide) ?_
    refine r_iconst (v := 0) hX dX8_ends_53 (by decide) ?_
    refine r_callV hX dX8_ends_54 (s_X8_copies E g _ y (by exact hs.to rfl) 10 0 (by decide) (by decide) (by decide)) ml_X8_39 rfl rfl hs.1.1 rfl ⟨Nat.le_of_ble_eq_true rfl, Nat.le_of_ble_eq_true rfl⟩ ⟨Nat.le_of_ble_eq_true rfl, Nat.le_of_ble_eq_true rfl, rfl, Nat.le_of_ble_eq_true rfl⟩ (fun v54 g54 m54 hp => ?_)
    obtain ⟨hv, hg, hm⟩ := hp
    subst v54
    subst g54
    have hC : CPY y 10 0 _ _ := hm
    refine r_iconst (v := 0) hX dX8_ends_57 (by decide) ?_
    refine r_iret hX dX8_ends_58 ?_ ⟨Nat.le_of_ble_eq_true rfl, Nat.le_of_ble_eq_true rfl⟩
    refine ⟨⟨0, rfl, fun _ => rfl⟩, rfl, ?_, ⟨hB.mf (P := fun a j => (a = y ∧ j = 0) ∨ (a = y + 1 ∧ j < 49)) ?_ (fun a j hb hq => by unfold PB at hb; omega), hl, ?_⟩, ?_⟩
    · rw [hC.off (by omega), qI_wI, if_pos ⟨rfl, rfl⟩]
    · exact (((MF.rf _ m).wI (a := y) (k := 0) (v := nI K) (Or.inl ⟨rfl, rfl⟩)).tr (hC.mf.mono (fun a j h => Or.inr ⟨h.1, by omega⟩)))
    · refine hA.congr (fun k hk => ?_) hl
      rw [hC.row k hk]
      unfold rowF
      rw [qI_wI, if_neg (by omega)]
    · exact (hM.wI ⟨by omega, by omega⟩).tr (hC.mf.mono (fun a j h => ⟨by omega, by omega⟩))
set_option maxRecDepth 20000 in
set_option maxHeartbeats 4000000 in
theorem s_X8_ends_l {E : qE} {X : qX} {Q : State → Prop} {g : qG} {m : qM} (hX : MC E yX8_ends cX8_ends 7 (some .int) 1 0 0 [] X) {y : Nat} (hs : ModS g m y) (l1 l2 l3 l4 l5 : Int32) : ∀ (n k : Nat) (m1 : qM), k + n = 8 → 1 ≤ k → ((∀ a j, qI m1 a j = if a = y + 1 ∧ 49 ≤ j ∧ j < 49 * k then qI m (y + 1) (j + 49) else qI m a j) ∧ m1.2 = m.2) → (∀ (j : Int32) (m2 : qM), ((∀ a j, qI m2 a j = if a = y + 1 ∧ 49 ≤ j ∧ j < 49 * 8 then qI m (y + 1) (j + 49) else qI m a j) ∧ m2.2 = m.2) → WS E X 0 0 Q g m2 94 [some (.ref y), some (.int l1), some (.int l2), some (.int l3), some (.int l4), some (.int l5), some (.int j)] []) → WS E X 0 0 Q g m1 71 [some (.ref y), some (.int l1), some (.int l2), some (.int l3), some (.int l4), some (.int l5), some (.int (nI k))] [] := by
  intro n
  induction n with
  | zero =>
    intro k m1 hk h1 hm1 K
    have hib : k = 8 := by omega
    subst hib
    refine r_iload hX dX8_ends_71 rfl ?_
    refine r_bipush (v := 8) hX dX8_ends_73 (by decide) ?_
    refine r_icmp_ge (tgt := 94) hX dX8_ends_75 (by decide) (fun c75 => ?_) (fun c75 => ?_)
    · exact K _ m1 hm1
    · exact absurd (Int32.le_refl _) c75
  | succ n ih =>
    intro k m1 hk h1 hm1 K
    have hk8 : k < 8 := by omega
    refine r_iload hX dX8_ends_71 rfl ?_
    refine r_bipush (v := 8) hX dX8_ends_73 (by decide) ?_
    refine r_icmp_ge (tgt := 94) hX dX8_ends_75 (by decide) (fun c75 => ?_) (fun c75 => ?_)
    · exact absurd c75 (nI_ge (b := 8) hk8 (by decide))
    · refine r_aload_n hX dX8_ends_78 rfl ?_
      refine r_iload hX dX8_ends_79 rfl ?_
      refine r_iconst (v := 1) hX dX8_ends_81 (by decide) ?_
      refine r_iadd hX dX8_ends_82 ?_
      rw [nI_1]
      refine r_iload hX dX8_ends_83 rfl ?_
      refine r_callV hX dX8_ends_85 (s_X8_copies E g m1 y (hs.to hm1.2) (k + 1) k (by omega) (by omega) (by omega)) ml_X8_39 rfl rfl hs.1.1 rfl ⟨Nat.le_of_ble_eq_true rfl, Nat.le_of_ble_eq_true rfl⟩ ⟨Nat.le_of_ble_eq_true rfl, Nat.le_of_ble_eq_true rfl, rfl, Nat.le_of_ble_eq_true rfl⟩ (fun v85 g85 m85 hp => ?_)
      obtain ⟨hv, hg, hm⟩ := hp
      subst v85
      subst g85
      refine r_iinc (v := nI (k + 1)) hX dX8_ends_88 rfl (ii1 k) rfl ?_
      refine r_goto (tgt := 71) hX dX8_ends_91 (by decide) ?_
      have hC : CPY y (k + 1) k m1 m85 := hm
      refine ih (k + 1) _ (by omega) (by omega) ⟨fun a j => ?_, hC.2.trans hm1.2⟩ K
      rw [hC.1]
      by_cases e : a = y + 1 ∧ 49 * k ≤ j ∧ j < 49 * k + 49
      · rw [if_pos e, if_pos ⟨e.1, by omega, by omega⟩, hm1.1, if_neg (by omega)]
        congr 1
        omega
      · rw [if_neg e, hm1.1]
        by_cases e2 : a = y + 1 ∧ 49 ≤ j ∧ j < 49 * k
        · rw [if_pos e2, if_pos ⟨e2.1, e2.2.1, by omega⟩]
        · rw [if_neg e2, if_neg (fun h => by omega)]
set_option maxRecDepth 20000 in
set_option maxHeartbeats 4000000 in
theorem s_X8_ends_104 {E : qE} {X : qX} {g : qG} {m0 m : qM} (hX : MC E yX8_ends cX8_ends 7 (some .int) 1 0 0 [] X) {y : Nat} {m1 : qM} (hs : ModS g m1 y) {O : kO} (hB : ModB g m y O) (hl : O.1.1.length ≤ 6) (hA : RepF (rowF m y 10) O.1) (hM : MF (PM y) m0 m1) (h0 : qI m1 y 0 = 0) {r : Int32} (h4 : qI m1 y 4 = r) {V' : kV} (hl2 : V'.1.length ≤ 6) (hR : RepF (rowF m1 y 0) V') (hb : ∀ a j, PB y a j → (a ≠ y + 1 ∧ ¬ (a = y ∧ j = 2)) → qI m1 a j = qI m a j) (h9 : ∀ w, (w = 9 ∨ w = 10) → ∀ k, k < 49 → rowF m1 y w k = rowF m y w k) {n : Nat} (hn : qI m1 y 2 = nI n) (he : n + 1 = if (oHi O).length < 8 then (oHi O).length + 1 else 8) (ho : ∀ w, 1 ≤ w → w < n + 1 → ∀ k, k < 49 → rowF m1 y w k = rowF m y (if (oHi O).length < 8 then w else w + 1) k) (l1 l2 l3 l4 l5 : Int32) (l6 : Option Value) : WS E X 0 0 (RQ E X (pU y g m0 (0, r, V', O.2.1, (O.1 :: O.2.2.1).take 8, O.2.2.2)) 0 0) g m1 104 [some (.ref y), some (.int l1), some (.int l2), some (.int l3), some (.int l4), some (.int l5), l6] [] := by
  have hn8 : n + 1 ≤ 8 := by rw [he]; split <;> omega
  have hr0 : ∀ w k, rowF (wI m1 y 2 (nI (n + 1))) y w k = rowF m1 y w k := fun w k => by unfold rowF; rw [qI_wI, if_neg (by omega)]
  refine r_aload_n hX dX8_ends_104 rfl ?_
  refine r_dup hX dX8_ends_105 rfl ?_
  refine r_getI hX dX8_ends_106 hs.1.1 fl_X8_43 ?_
  rw [hn]
  refine r_iconst (v := 1) hX dX8_ends_109 (by decide) ?_
  refine r_iadd hX dX8_ends_110 ?_
  rw [nI_1]
  refine r_putI hX dX8_ends_111 hs.1.1 fl_X8_43 ?_
  refine r_aload_n hX dX8_ends_114 rfl ?_
  refine r_bipush (v := 10) hX dX8_ends_115 (by decide) ?_
  refine r_aload_n hX dX8_ends_117 rfl ?_
  refine r_getI hX dX8_ends_118 hs.1.1 fl_X8_43 ?_
  rw [show qI (wI m1 y 2 (nI (n + 1))) y 2 = nI (n + 1) by rw [qI_wI, if_pos ⟨rfl, rfl⟩]]
  refine r_callV hX dX8_ends_121 (s_X8_copies E g _ y (by exact hs.to rfl) 10 (n + 1) (by decide) (by omega) (by omega)) ml_X8_39 rfl rfl hs.1.1 rfl ⟨Nat.le_of_ble_eq_true rfl, Nat.le_of_ble_eq_true rfl⟩ ⟨Nat.le_of_ble_eq_true rfl, Nat.le_of_ble_eq_true rfl, rfl, Nat.le_of_ble_eq_true rfl⟩ (fun v121 g121 m121 hp => ?_)
  obtain ⟨hv, hg, hm⟩ := hp
  subst v121
  subst g121
  have hC : CPY y 10 (n + 1) (wI m1 y 2 (nI (n + 1))) m121 := hm
  have e4 : qI m121 y 4 = r := by rw [hC.off (by omega), qI_wI, if_neg (by omega)]; exact h4
  refine r_aload_n hX dX8_ends_124 rfl ?_
  refine r_getI hX dX8_ends_125 hs.1.1 fl_X8_46 ?_
  refine r_iret hX dX8_ends_128 ?_ ⟨Nat.le_of_ble_eq_true rfl, Nat.le_of_ble_eq_true rfl⟩
  obtain ⟨b1, b2, ⟨b5, b6⟩, ⟨b7, b8⟩, ⟨b9, b10⟩, b11, b12⟩ := hB
  have eb : ∀ a j, PB y a j → (a ≠ y + 1 ∧ ¬ (a = y ∧ j = 2)) → qI m121 a j = qI m a j := fun a j h1 h2 => by
    rw [hC.off h2.1, qI_wI, if_neg h2.2]; exact hb a j h1 h2
  have er : ∀ w k, w ≠ n + 1 → k < 49 → rowF m121 y w k = rowF m1 y w k := fun w k hw hk => by rw [hC.oth hw k hk]; exact hr0 w k
  refine ⟨⟨r, by rw [e4], fun _ => rfl⟩, rfl, ?_, ⟨⟨hs.to hC.2, b2.push hl hA ?_ (fun k hk => ?_) (fun w h1 h2 k hk => ?_), ⟨?_, fun V hV => ?_⟩, ⟨?_, ?_⟩, ⟨?_, fun j hj => ?_⟩, ?_, fun j hj => ?_⟩, hl2, hR.congr (fun k hk => er 0 k (by omega) hk) hl2⟩, ?_⟩
  · rw [hC.off (by omega), qI_wI, if_neg (by omega)]; exact h0
  · rw [hC.off (by omega), qI_wI, if_pos ⟨rfl, rfl⟩, he]
  · rw [← he, hC.row k hk, hr0]; exact h9 10 (Or.inr rfl) k hk
  · rw [← he] at h2
    rw [er w k (by omega) hk]; exact ho w h1 h2 k hk
  · rw [eb _ _ (Or.inr (Or.inl ⟨rfl, by omega⟩)) (by omega)]; exact b5
  · obtain ⟨d1, d2⟩ := b6 V hV
    exact ⟨d1, d2.congr (fun k hk => (er 9 k (by omega) hk).trans (h9 9 (Or.inl rfl) k hk)) d1⟩
  · rw [eb _ _ (Or.inr (Or.inl ⟨rfl, by omega⟩)) (by omega)]; exact b7
  · rw [eb _ _ (Or.inr (Or.inl ⟨rfl, by omega⟩)) (by omega)]; exact b8
  · rw [eb _ _ (Or.inr (Or.inl ⟨rfl, by omega⟩)) (by omega)]; exact b9
  · rw [eb _ _ (Or.inr (Or.inr (Or.inl rfl))) (by omega)]; exact b10 j hj
  · rw [eb _ _ (Or.inr (Or.inl ⟨rfl, by omega⟩)) (by omega)]; exact b11
  · rw [eb _ _ (Or.inr (Or.inr (Or.inr rfl))) (by omega)]; exact b12 j hj
  · exact (hM.wI ⟨by omega, by omega⟩).tr (hC.mf.mono (fun a j h => ⟨by omega, by omega⟩))
