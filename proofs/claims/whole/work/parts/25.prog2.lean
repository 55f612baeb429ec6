/-! ===== CometObservatory.Program: commands ===== -/
theorem dig_val {tx : Nat → Int32} {n p : Nat} (h : digA tx n p = true) : ∃ e : Nat, e ≤ 9 ∧ tx p - 48 = nI e := by
  unfold digA at h
  simp only [Bool.and_eq_true, decide_eq_true_eq] at h
  obtain ⟨-, h1, h2⟩ := h
  rw [Int32.le_iff_toInt_le] at h1 h2
  have e1 : (48 : Int32).toInt = 48 := by decide
  have e2 : (57 : Int32).toInt = 57 := by decide
  rw [e1] at h1
  rw [e2] at h2
  have e3 : tx p = nI (tx p).toInt.toNat := by
    apply Int32.toInt_inj.mp
    rw [nI_toInt (by omega)]
    omega
  refine ⟨(tx p).toInt.toNat - 48, by omega, ?_⟩
  rw [e3, nI_toInt (by omega)]
  exact pk_sub (b := 48) (by omega)
theorem rN_val {tx : Nat → Int32} {n : Nat} : ∀ (k p a : Nat), ∃ w : Nat, (rN tx n k p (nI a)).1 = nI w ∧ w < (a + 1) * 10 ^ k
  | 0, p, a => ⟨a, rfl, by omega⟩
  | k + 1, p, a => by
    unfold rN
    split
    · rename_i hD
      obtain ⟨e, he, h⟩ := dig_val hD
      obtain ⟨w, h1, h2⟩ := rN_val (tx := tx) (n := n) k (p + 1) (a * 10 + e)
      refine ⟨w, ?_, ?_⟩
      · rw [h, show nI a * 10 + nI e = nI (a * 10 + e) from (congrArg (· + nI e) (pk_mul a 10)).trans (nI_add _ _)]
        exact h1
      · have : (a * 10 + e + 1) * 10 ^ k ≤ (a + 1) * 10 ^ (k + 1) := by
          rw [Nat.pow_succ, ← Nat.mul_assoc, Nat.mul_right_comm]
          exact Nat.mul_le_mul_right _ (by omega)
        omega
    · refine ⟨a, rfl, ?_⟩
      have : 1 ≤ 10 ^ (k + 1) := Nat.one_le_pow _ _ (by decide)
      have := Nat.mul_le_mul_left (a + 1) this
      omega
/-- the numbers of a command, from the i-th on: whether all stand, the position behind or of the fault, the numbers -/
def rNs (tx : Nat → Int32) (n d : Nat) : Nat → Nat → Nat → (Nat → Int32) → Bool × Nat × (Nat → Int32)
  | 0, _, p, f => (true, p, f)
  | k + 1, i, p, f =>
    if 0 < i ∧ ¬ (p < n ∧ tx p = 32) then (false, p, f) else
    if digA tx n (if 0 < i then p + 1 else p) = true then rNs tx n d k (i + 1) (rN tx n d (if 0 < i then p + 1 else p) 0).2 (fun j => if j = i then (rN tx n d (if 0 < i then p + 1 else p) 0).1 else f j)
    else (false, if 0 < i then p + 1 else p, f)
/-- a command at p: whether it stands, the position, its kind, its numbers -/
def rCm (tx : Nat → Int32) (n p : Nat) : Bool × Nat × Nat × (Nat → Int32) :=
  match rW tx n p 7 0 0 with
  | (none, p') => (false, p', 0, fun _ => 0)
  | (some i, p') => ((rNs tx n (dOf i) (nOf i) 0 p' (fun _ => 0)).1, (rNs tx n (dOf i) (nOf i) 0 p' (fun _ => 0)).2.1, i, (rNs tx n (dOf i) (nOf i) 0 p' (fun _ => 0)).2.2)
def PF (q c : Nat) (m m' : qM) : Prop := (∀ a j, ¬ (a = q ∧ j = 4) → ¬ (a = q + 2 ∧ j = c) → a ≠ q + 4 + c → qI m' a j = qI m a j) ∧ m'.2 = m.2
theorem PF.tx {q c : Nat} {m m' : qM} (h : PF q c m m') : (fun j => qI m' (q + 1) j) = (fun j => qI m (q + 1) j) := funext fun j => h.1 _ _ (by omega) (by omega) (by omega)
theorem PF.wI {q c : Nat} {m m' : qM} (h : PF q c m m') {a j : Nat} {v : Int32} (ha : (a = q ∧ j = 4) ∨ (a = q + 2 ∧ j = c) ∨ a = q + 4 + c) : PF q c m (wI m' a j v) := ⟨fun b i h1 h2 h3 => by rw [qI_wI, if_neg (by omega)]; exact h.1 b i h1 h2 h3, h.2⟩
theorem PF.rf (q c : Nat) (m : qM) : PF q c m m := ⟨fun _ _ _ _ _ => rfl, rfl⟩
set_option maxRecDepth 20000 in
set_option maxHeartbeats 4000000 in
theorem s_X3_readCommand_l {E : qE} {X : qX} {Q : State → Prop} {g : qG} {m : qM} (hX : MC E yX3_readCommand cX3_readCommand 4 (some .boolean) 6 0 0 [] X) {q n c kd : Nat} (hs : ProS g m q) (hc0 : qI m q 5 = nI c) (hc : c < 12) (hk7 : kd < 7) : ∀ (k i p1 : Nat) (f : Nat → Int32) (z3 : Option Value) (m1 : qM), i + k = nOf kd → (PosIs m1 q n p1 ∧ (∀ j, j < i → qI m1 (q + 4 + c) j = f j) ∧ qI m1 (q + 2) c = nI kd ∧ PF q c m m1) → (∀ (z2 : Int32) (z3 : Option Value) (m2 : qM), (rNs (fun j => qI m (q + 1) j) n (dOf kd) k i p1 f).1 = true → (PosIs m2 q n (rNs (fun j => qI m (q + 1) j) n (dOf kd) k i p1 f).2.1 ∧ (∀ j, j < nOf kd → qI m2 (q + 4 + c) j = (rNs (fun j => qI m (q + 1) j) n (dOf kd) k i p1 f).2.2 j) ∧ qI m2 (q + 2) c = nI kd ∧ PF q c m m2) → WS E X 0 0 Q g m2 81 [some (.ref q), some (.int (nI kd)), some (.int z2), z3] []) → (∀ (z2 z3 : Option Value) (m2 : qM), (rNs (fun j => qI m (q + 1) j) n (dOf kd) k i p1 f).1 = false → (PosIs m2 q n (rNs (fun j => qI m (q + 1) j) n (dOf kd) k i p1 f).2.1 ∧ PF q c m m2) → WS E X 0 0 Q g m2 45 [some (.ref q), some (.int (nI kd)), z2, z3] []) → (∀ (z2 z3 : Option Value) (m2 : qM), (rNs (fun j => qI m (q + 1) j) n (dOf kd) k i p1 f).1 = false → (PosIs m2 q n (rNs (fun j => qI m (q + 1) j) n (dOf kd) k i p1 f).2.1 ∧ PF q c m m2) → WS E X 0 0 Q g m2 61 [some (.ref q), some (.int (nI kd)), z2, z3] []) → WS E X 0 0 Q g m1 24 [some (.ref q), some (.int (nI kd)), some (.int (nI i)), z3] [] := by
  have hno := nOf_le kd
  intro k
  induction k with
  | zero =>
    intro i p1 f z3 m1 hi hm1 K K45 K61
    have hib : i = nOf kd := by omega
    subst hib
    refine r_iload_n hX dX3_readCommand_24 rfl ?_
    refine r_iload_n hX dX3_readCommand_25 rfl ?_
    refine r_callS hX dX3_readCommand_26 (s_X3_numbersOf E g m1 kd hk7) ml_X3_49 rfl rfl ⟨Nat.le_of_ble_eq_true rfl, Nat.le_of_ble_eq_true rfl⟩ ⟨Nat.le_of_ble_eq_true rfl, Nat.le_of_ble_eq_true rfl, rfl, Nat.le_of_ble_eq_true rfl⟩ (fun v26 g26 m26 hp => ?_)
    obtain ⟨hv, hg, hm⟩ := hp
    subst v26
    subst g26
    subst m26
    refine r_icmp_ge (tgt := 81) hX dX3_readCommand_29 (by decide) (fun c29 => ?_) (fun c29 => ?_)
    · exact K _ _ _ rfl hm1
    · exact absurd (nI_le (Nat.le_refl _) (by omega)) c29
  | succ k ih =>
    intro i p1 f z3 m1 hi hm1 K K45 K61
    have hi3 : i < 3 := by omega
    obtain ⟨P1, P2, P3, P4⟩ := hm1
    have hm1 : PosIs m1 q n p1 ∧ (∀ j, j < i → qI m1 (q + 4 + c) j = f j) ∧ qI m1 (q + 2) c = nI kd ∧ PF q c m m1 := ⟨P1, P2, P3, P4⟩
    have hS1 : ProS g m1 q := hs.to P4.2
    have ht := P4.tx
    have htp : ∀ j, qI m1 (q + 1) j = qI m (q + 1) j := fun j => congrFun ht j
    have hC1 : qI m1 q 5 = nI c := (P4.1 _ _ (by omega) (by omega) (by omega)).trans hc0
    have H47 : ∀ (m2 : qM) (p2 : Nat), (PosIs m2 q n p2 ∧ (∀ j, j < i → qI m2 (q + 4 + c) j = f j) ∧ qI m2 (q + 2) c = nI kd ∧ PF q c m m2) → (rNs (fun j => qI m (q + 1) j) n (dOf kd) (k + 1) i p1 f) = (if digA (fun j => qI m (q + 1) j) n p2 = true then rNs (fun j => qI m (q + 1) j) n (dOf kd) k (i + 1) (rN (fun j => qI m (q + 1) j) n (dOf kd) p2 0).2 (fun j => if j = i then (rN (fun j => qI m (q + 1) j) n (dOf kd) p2 0).1 else f j) else (false, p2, f)) → WS E X 0 0 Q g m2 47 [some (.ref q), some (.int (nI kd)), some (.int (nI i)), z3] [] := by
      intro m2 p2 hm2 hr
      refine r_aload_n hX dX3_readCommand_47 rfl ?_
      refine r_iload_n hX dX3_readCommand_48 rfl ?_
      refine r_callS hX dX3_readCommand_49 (s_X3_digitsOf E g m2 kd hk7) ml_X3_53 rfl rfl ⟨Nat.le_of_ble_eq_true rfl, Nat.le_of_ble_eq_true rfl⟩ ⟨Nat.le_of_ble_eq_true rfl, Nat.le_of_ble_eq_true rfl, rfl, Nat.le_of_ble_eq_true rfl⟩ (fun v49 g49 m49 hp => ?_)
      obtain ⟨hv, hg, hm⟩ := hp
      subst v49
      subst g49
      subst m49
      refine r_callV hX dX3_readCommand_52 (s_X3_readNumber E g m2 q n p2 (dOf kd) (hs.to hm2.2.2.2.2) hm2.1 (by unfold dOf; split <;> decide)) ml_X3_56 rfl rfl hs.1.1 rfl ⟨Nat.le_of_ble_eq_true rfl, Nat.le_of_ble_eq_true rfl⟩ ⟨Nat.le_of_ble_eq_true rfl, Nat.le_of_ble_eq_true rfl, rfl, Nat.le_of_ble_eq_true rfl⟩ (fun v52 g52 m52 hp => ?_)
      obtain ⟨hv, hg, hm⟩ := hp
      subst v52
      subst g52
      subst m52
      rw [hm2.2.2.2.tx]
      refine r_istore_n hX dX3_readCommand_55 (Nat.le_of_ble_eq_true rfl) rfl ?_
      refine r_iload_n hX dX3_readCommand_56 rfl ?_
      refine r_iconst (v := (-1)) hX dX3_readCommand_57 (by decide) ?_
      rw [hr] at K K45 K61
      refine r_icmp_ne (tgt := 63) hX dX3_readCommand_58 (by decide) (fun c58 => ?_) (fun c58 => ?_)
      · have hD : digA (fun j => qI m (q + 1) j) n p2 = true := Classical.byContradiction (fun h => c58 (by rw [if_neg h]))
        rw [if_pos hD] at K K45 K61
        rw [if_pos hD, if_pos hD]
        have hle := rN_le (tx := fun j => qI m (q + 1) j) (n := n) (dOf kd) p2 0 hm2.1.2.2.2
        refine r_aload_n hX dX3_readCommand_63 rfl ?_
        refine r_getR hX dX3_readCommand_64 hs.1.1 fl_X3_21 (hs.to hm2.2.2.2.2).2.2.2.1 ?_
        refine r_aload_n hX dX3_readCommand_67 rfl ?_
        refine r_getI hX dX3_readCommand_68 hs.1.1 fl_X3_35 ?_
        rw [qI_wI_k _ _ _ _ (by decide), (hm2.2.2.2.1 _ _ (by omega) (by omega) (by omega)).trans hc0]
        refine r_aaload7N hX dX3_readCommand_71 hs.1.2.2.2.1 hc (by decide) ((hs.to hm2.2.2.2.2).2.2.2.2 c hc) ?_
        refine r_iload_n hX dX3_readCommand_72 rfl ?_
        refine r_iload_n hX dX3_readCommand_73 rfl ?_
        refine r_iastoreN hX dX3_readCommand_74 (hs.1.2.2.2.2 c hc) hi3 (by decide) ?_
        refine r_iinc (v := nI (i + 1)) hX dX3_readCommand_75 rfl (ii1 i) rfl ?_
        refine r_goto (tgt := 24) hX dX3_readCommand_78 (by decide) ?_
        refine ih (i + 1) _ _ _ _ (by omega) ⟨?_, fun j hj => ?_, ?_, (hm2.2.2.2.wI (Or.inl ⟨rfl, rfl⟩)).wI (Or.inr (Or.inr rfl))⟩ K K45 K61
        · obtain ⟨a1, a2, a3, a4⟩ := hm2.1.at hle.2
          exact ⟨(qI_wI_a _ _ _ _ (by omega)).trans a1, a2, (qI_wI_a _ _ _ _ (by omega)).trans a3, a4⟩
        · rw [qI_wI]
          by_cases e : j = i
          · subst e; rw [if_pos ⟨rfl, rfl⟩, if_pos rfl]
          · rw [if_neg (fun h => e h.2), if_neg e, qI_wI_a _ _ _ _ (by omega)]; exact hm2.2.1 j (by omega)
        · rw [qI_wI_a _ _ _ _ (by omega), qI_wI_a _ _ _ _ (by omega)]; exact hm2.2.2.1
      · have hD : ¬ digA (fun j => qI m (q + 1) j) n p2 = true := fun h => by
          rw [if_pos h] at c58
          obtain ⟨w, hw1, hw2⟩ := rN_val (tx := fun j => qI m (q + 1) j) (n := n) (dOf kd) p2 0
          have hd10 : (0 + 1) * 10 ^ dOf kd ≤ 100 := by unfold dOf; split <;> decide
          rw [show (0 : Int32) = nI 0 from rfl, hw1] at c58
          exact slotI_ne w (by omega) c58
        rw [if_neg hD] at K61
        rw [if_neg hD]
        exact K61 _ _ _ rfl ⟨hm2.1.at hm2.1.2.2.2, hm2.2.2.2.wI (Or.inl ⟨rfl, rfl⟩)⟩
    refine r_iload_n hX dX3_readCommand_24 rfl ?_
    refine r_iload_n hX dX3_readCommand_25 rfl ?_
    refine r_callS hX dX3_readCommand_26 (s_X3_numbersOf E g m1 kd hk7) ml_X3_49 rfl rfl ⟨Nat.le_of_ble_eq_true rfl, Nat.le_of_ble_eq_true rfl⟩ ⟨Nat.le_of_ble_eq_true rfl, Nat.le_of_ble_eq_true rfl, rfl, Nat.le_of_ble_eq_true rfl⟩ (fun v26 g26 m26 hp => ?_)
    obtain ⟨hv, hg, hm⟩ := hp
    subst v26
    subst g26
    subst m26
    refine r_icmp_ge (tgt := 81) hX dX3_readCommand_29 (by decide) (fun c29 => ?_) (fun c29 => ?_)
    · exact absurd c29 (nI_ge (by omega) (by omega))
    · rcases Nat.eq_zero_or_pos i with hi0 | hi0
      · subst hi0
        refine r_iload_n hX dX3_readCommand_32 rfl ?_
        refine r_if_le (tgt := 47) hX dX3_readCommand_33 (by decide) (fun c33 => ?_) (fun c33 => ?_)
        · exact H47 m1 p1 hm1 rfl
        · exact absurd (show nI 0 ≤ 0 from Int32.le_refl _) c33
      · skip
        refine r_iload_n hX dX3_readCommand_32 rfl ?_
        refine r_if_le (tgt := 47) hX dX3_readCommand_33 (by decide) (fun c33 => ?_) (fun c33 => ?_)
        · exact absurd c33 (show ¬ nI i ≤ nI 0 from nI_ge (by omega) (by omega))
        · refine r_aload_n hX dX3_readCommand_36 rfl ?_
          refine r_bipush (v := 32) hX dX3_readCommand_37 (by decide) ?_
          refine r_callV hX dX3_readCommand_39 (s_X3_readSign E g m1 q n p1 32 hS1 P1) ml_X3_41 rfl rfl hs.1.1 rfl ⟨Nat.le_of_ble_eq_true rfl, Nat.le_of_ble_eq_true rfl⟩ ⟨Nat.le_of_ble_eq_true rfl, Nat.le_of_ble_eq_true rfl, rfl, Nat.le_of_ble_eq_true rfl⟩ (fun v39 g39 m39 hp => ?_)
          obtain ⟨hv, hg, hm⟩ := hp
          subst v39
          subst g39
          subst m39
          rw [htp]
          refine r_if_ne (tgt := 47) hX dX3_readCommand_42 (by decide) (fun c42 => ?_) (fun c42 => ?_)
          · have hyes : p1 < n ∧ qI m (q + 1) p1 = 32 := Classical.byContradiction (fun h => c42 (if_neg h))
            rw [if_pos hyes]
            have hr : (rNs (fun j => qI m (q + 1) j) n (dOf kd) (k + 1) i p1 f) = (if digA (fun j => qI m (q + 1) j) n (p1 + 1) = true then rNs (fun j => qI m (q + 1) j) n (dOf kd) k (i + 1) (rN (fun j => qI m (q + 1) j) n (dOf kd) (p1 + 1) 0).2 (fun j => if j = i then (rN (fun j => qI m (q + 1) j) n (dOf kd) (p1 + 1) 0).1 else f j) else (false, p1 + 1, f)) := by
              show (if 0 < i ∧ ¬ (p1 < n ∧ qI m (q + 1) p1 = 32) then _ else _) = _
              rw [if_neg (fun h => h.2 hyes), if_pos (show 0 < i by omega)]
            exact H47 _ (p1 + 1) ⟨P1.at (by omega), fun j hj => by rw [qI_wI_a _ _ _ _ (by omega)]; exact P2 j hj, by rw [qI_wI_a _ _ _ _ (by omega)]; exact P3, P4.wI (Or.inl ⟨rfl, rfl⟩)⟩ hr
          · have hno2 : ¬ (p1 < n ∧ qI m (q + 1) p1 = 32) := fun h => by rw [if_pos h] at c42; exact absurd c42 (by decide)
            have hr : (rNs (fun j => qI m (q + 1) j) n (dOf kd) (k + 1) i p1 f) = (false, p1, f) := if_pos ⟨by omega, hno2⟩
            rw [hr] at K45
            rw [if_neg hno2, wI_id P1.2.2.1]
            exact K45 _ _ _ rfl ⟨P1, P4⟩
set_option maxRecDepth 20000 in
set_option maxHeartbeats 4000000 in
theorem s_X3_readCommand (E : qE) (g : qG) (m : qM) (q n p c : Nat) (hs : ProS g m q) (hp : PosIs m q n p) (hc0 : qI m q 5 = nI c) (hc : c < 12) : Sp E yX3_readCommand cX3_readCommand 4 (some .boolean) 6 0 0 [.ref q] g m (fun v g' m' => (∃ ok : Bool, v = some (.int (if ok = true then 1 else 0)) ∧ ok = (rCm (fun j => qI m (q + 1) j) n p).1 ∧ g' = g ∧ PosIs m' q n (rCm (fun j => qI m (q + 1) j) n p).2.1 ∧ PF q c m m' ∧ (ok = true → qI m' (q + 2) c = nI (rCm (fun j => qI m (q + 1) j) n p).2.2.1 ∧ (rCm (fun j => qI m (q + 1) j) n p).2.2.1 < 7 ∧ ∀ j, j < nOf (rCm (fun j => qI m (q + 1) j) n p).2.2.1 → qI m' (q + 4 + c) j = (rCm (fun j => qI m (q + 1) j) n p).2.2.2 j))) := by
  refine Sp.of (by decide) [some (.ref q), none, none, none] rfl rfl (Nat.le_of_ble_eq_true rfl) (fun X hX => ?_)
  refine r_aload_n hX dX3_readCommand_0 rfl ?_
  refine r_callV hX dX3_readCommand_1 (s_X3_readWord E g m q n p hs hp) ml_X3_45 rfl rfl hs.1.1 rfl ⟨Nat.le_of_ble_eq_true rfl, Nat.le_of_ble_eq_true rfl⟩ ⟨Nat.le_of_ble_eq_true rfl, Nat.le_of_ble_eq_true rfl, rfl, Nat.le_of_ble_eq_true rfl⟩ (fun v1 g1 m1 hp => ?_)
  obtain ⟨hv, hg, hm⟩ := hp
  subst v1
  subst g1
  subst m1
  refine r_istore_n hX dX3_readCommand_4 (Nat.le_of_ble_eq_true rfl) rfl ?_
  refine r_iload_n hX dX3_readCommand_5 rfl ?_
  refine r_iconst (v := (-1)) hX dX3_readCommand_6 (by decide) ?_
  refine r_icmp_ne (tgt := 12) hX dX3_readCommand_7 (by decide) (fun c7 => ?_) (fun c7 => ?_)
  · cases hw : (rW (fun j => qI m (q + 1) j) n p 7 0 0).1 with
    | none => rw [hw] at c7; exact absurd rfl c7
    | some kd =>
      have hk7 : kd < 7 := by have := rW_k _ _ _ _ hw; omega
      have hle := rW_le (tx := (fun j => qI m (q + 1) j)) hp.2.2.2 7 0 0 hp.2.2.2
      have hr : rCm (fun j => qI m (q + 1) j) n p = ((rNs (fun j => qI m (q + 1) j) n (dOf kd) (nOf kd) 0 (rW (fun j => qI m (q + 1) j) n p 7 0 0).2 (fun _ => 0)).1, (rNs (fun j => qI m (q + 1) j) n (dOf kd) (nOf kd) 0 (rW (fun j => qI m (q + 1) j) n p 7 0 0).2 (fun _ => 0)).2.1, kd, (rNs (fun j => qI m (q + 1) j) n (dOf kd) (nOf kd) 0 (rW (fun j => qI m (q + 1) j) n p 7 0 0).2 (fun _ => 0)).2.2) := by
        unfold rCm
        generalize rW (fun j => qI m (q + 1) j) n p 7 0 0 = r at hw
        obtain ⟨r1, r2⟩ := r
        cases hw
        rfl
      show WS E X _ _ _ g (wI m q 4 (nI (rW (fun j => qI m (q + 1) j) n p 7 0 0).2)) 12 [some (.ref q), some (.int (nI kd)), none, none] []
      generalize (rW (fun j => qI m (q + 1) j) n p 7 0 0).2 = p1 at hle hr ⊢
      refine r_aload_n hX dX3_readCommand_12 rfl ?_
      refine r_getR hX dX3_readCommand_13 hs.1.1 fl_X3_15 (hs.to rfl).2.2.1 ?_
      refine r_aload_n hX dX3_readCommand_16 rfl ?_
      refine r_getI hX dX3_readCommand_17 hs.1.1 fl_X3_35 ?_
      rw [qI_wI_k _ _ _ _ (by decide), hc0]
      refine r_iload_n hX dX3_readCommand_20 rfl ?_
      refine r_iastoreN hX dX3_readCommand_21 hs.1.2.2.1 hc (by decide) ?_
      refine r_iconst (v := 0) hX dX3_readCommand_22 (by decide) ?_
      refine r_istore_n hX dX3_readCommand_23 (Nat.le_of_ble_eq_true rfl) rfl ?_
      refine s_X3_readCommand_l (n := n) hX hs hc0 hc hk7 (nOf kd) 0 p1 (fun _ => 0) none _ (Nat.zero_add _) ⟨?_, fun j hj => absurd hj (Nat.not_lt_zero j), qI_wI_s _ _ _ _, ((PF.rf q c m).wI (Or.inl ⟨rfl, rfl⟩)).wI (Or.inr (Or.inl ⟨rfl, rfl⟩))⟩ (fun z2 z3 m2 ho hm2 => ?_) (fun z2 z3 m2 ho hm2 => ?_) (fun z2 z3 m2 ho hm2 => ?_)
      · obtain ⟨a1, a2, a3, a4⟩ := hp.at hle.2
        exact ⟨(qI_wI_a _ _ _ _ (by omega)).trans a1, a2, (qI_wI_a _ _ _ _ (by omega)).trans a3, a4⟩
      · refine r_iconst (v := 1) hX dX3_readCommand_81 (by decide) ?_
        refine r_zret hX dX3_readCommand_82 rfl ⟨true, rfl, ?_, rfl, ?_, hm2.2.2.2, fun _ => ?_⟩ ⟨Nat.le_of_ble_eq_true rfl, Nat.le_of_ble_eq_true rfl⟩
        · rw [hr]; exact ho.symm
        · rw [hr]; exact hm2.1
        · rw [hr]; exact ⟨hm2.2.2.1, hk7, hm2.2.1⟩
      · refine r_iconst (v := 0) hX dX3_readCommand_45 (by decide) ?_
        refine r_zret hX dX3_readCommand_46 rfl ⟨false, rfl, ?_, rfl, ?_, hm2.2, fun h => nomatch h⟩ ⟨Nat.le_of_ble_eq_true rfl, Nat.le_of_ble_eq_true rfl⟩
        · rw [hr]; exact ho.symm
        · rw [hr]; exact hm2.1
      · refine r_iconst (v := 0) hX dX3_readCommand_61 (by decide) ?_
        refine r_zret hX dX3_readCommand_62 rfl ⟨false, rfl, ?_, rfl, ?_, hm2.2, fun h => nomatch h⟩ ⟨Nat.le_of_ble_eq_true rfl, Nat.le_of_ble_eq_true rfl⟩
        · rw [hr]; exact ho.symm
        · rw [hr]; exact hm2.1
  · refine r_iconst (v := 0) hX dX3_readCommand_10 (by decide) ?_
    have hw : (rW (fun j => qI m (q + 1) j) n p 7 0 0).1 = none := by
      cases h : (rW (fun j => qI m (q + 1) j) n p 7 0 0).1 with
      | none => rfl
      | some i =>
        have := rW_k _ _ _ _ h
        rw [h] at c7
        exact absurd c7 (slotI_ne i (by omega))
    have hr : rCm (fun j => qI m (q + 1) j) n p = (false, (rW (fun j => qI m (q + 1) j) n p 7 0 0).2, 0, fun _ => 0) := by
      unfold rCm
      generalize rW (fun j => qI m (q + 1) j) n p 7 0 0 = r at hw
      obtain ⟨r1, r2⟩ := r
      cases hw
      rfl
    have hle := rW_le (tx := (fun j => qI m (q + 1) j)) hp.2.2.2 7 0 0 hp.2.2.2
    exact r_zret hX dX3_readCommand_11 rfl ⟨false, rfl, by rw [hr], rfl, by rw [hr]; exact hp.at hle.2, (PF.rf q c m).wI (Or.inl ⟨rfl, rfl⟩), fun h => nomatch h⟩ ⟨Nat.le_of_ble_eq_true rfl, Nat.le_of_ble_eq_true rfl⟩
abbrev kC : Type := Nat × (Nat → Int32)
/-- the commands from the c-th on: whether the text is a program, the position, how many, the commands -/
def pRs (tx : Nat → Int32) (n : Nat) : Nat → Nat → Nat → (Nat → kC) → Bool × Nat × Nat × (Nat → kC)
  | 0, c, p, cs => (false, p, c, cs)
  | k + 1, c, p, cs =>
    if (rCm tx n p).1 = true then
      (if (rCm tx n p).2.1 = n then (true, (rCm tx n p).2.1, c + 1, fun j => if j = c then (rCm tx n p).2.2 else cs j)
       else if (rCm tx n p).2.1 < n ∧ tx (rCm tx n p).2.1 = 59 then pRs tx n k (c + 1) ((rCm tx n p).2.1 + 1) (fun j => if j = c then (rCm tx n p).2.2 else cs j)
       else (false, (rCm tx n p).2.1, c + 1, fun j => if j = c then (rCm tx n p).2.2 else cs j))
    else (false, (rCm tx n p).2.1, c, cs)
def CmIs (m : qM) (q c : Nat) (cs : Nat → kC) : Prop := ∀ i, i < c → qI m (q + 2) i = nI (cs i).1 ∧ (cs i).1 < 7 ∧ ∀ j, j < nOf (cs i).1 → qI m (q + 4 + i) j = (cs i).2 j
def PG (q : Nat) (m m' : qM) : Prop := (∀ a j, ¬ (a = q ∧ (j = 4 ∨ j = 5)) → a ≠ q + 2 → ¬ (q + 4 ≤ a ∧ a < q + 16) → qI m' a j = qI m a j) ∧ m'.2 = m.2
theorem PG.rf (q : Nat) (m : qM) : PG q m m := ⟨fun _ _ _ _ _ => rfl, rfl⟩
theorem PG.tr {q : Nat} {m m1 m2 : qM} (h : PG q m m1) (h2 : PG q m1 m2) : PG q m m2 := ⟨fun a j a1 a2 a3 => (h2.1 a j a1 a2 a3).trans (h.1 a j a1 a2 a3), h2.2.trans h.2⟩
theorem PG.of {q c : Nat} {m m' : qM} (h : PF q c m m') (hc : c < 12) : PG q m m' := ⟨fun a j a1 a2 a3 => h.1 a j (by omega) (by omega) (by omega), h.2⟩
theorem PG.wI {q : Nat} {m m' : qM} (h : PG q m m') {j : Nat} {v : Int32} (ha : j = 4 ∨ j = 5) : PG q m (wI m' q j v) := ⟨fun b i h1 h2 h3 => by rw [qI_wI, if_neg (by omega)]; exact h.1 b i h1 h2 h3, h.2⟩
theorem PG.tx {q : Nat} {m m' : qM} (h : PG q m m') : (fun j => qI m' (q + 1) j) = (fun j => qI m (q + 1) j) := funext fun j => h.1 _ _ (by omega) (by omega) (by omega)
theorem CmIs.up {m m' : qM} {q c : Nat} {cs : Nat → kC} {r : kC} (h : CmIs m q c cs) (hc : c < 12) (hF : PF q c m m') (h1 : qI m' (q + 2) c = nI r.1) (h2 : r.1 < 7) (h3 : ∀ j, j < nOf r.1 → qI m' (q + 4 + c) j = r.2 j) : CmIs m' q (c + 1) (fun j => if j = c then r else cs j) := by
  intro i hi
  by_cases e : i = c
  · subst e
    simp only [if_pos]
    exact ⟨h1, h2, h3⟩
  · simp only [if_neg e]
    obtain ⟨a1, a2, a3⟩ := h i (by omega)
    exact ⟨(hF.1 _ _ (by omega) (by omega) (by omega)).trans a1, a2, fun j hj => (hF.1 _ _ (by omega) (by omega) (by omega)).trans (a3 j hj)⟩
theorem CmIs.wI {m : qM} {q c j : Nat} {cs : Nat → kC} {v : Int32} (h : CmIs m q c cs) : CmIs (wI m q j v) q c cs := fun i hi => by
  obtain ⟨a1, a2, a3⟩ := h i hi
  exact ⟨(qI_wI_a _ _ _ _ (by omega)).trans a1, a2, fun j hj => (qI_wI_a _ _ _ _ (by omega)).trans (a3 j hj)⟩
set_option maxRecDepth 20000 in
set_option maxHeartbeats 4000000 in
theorem s_X3_parse_l {E : qE} {X : qX} {Q : State → Prop} {g : qG} {m : qM} (hX : MC E yX3_parse cX3_parse 1 (some .boolean) 7 0 0 [] X) {q n : Nat} (hs : ProS g m q) : ∀ (k c p : Nat) (cs : Nat → kC) (m1 : qM), c + k = 12 → (PosIs m1 q n p ∧ qI m1 q 5 = nI c ∧ CmIs m1 q c cs ∧ PG q m m1) → (∀ m2 : qM, (pRs (fun j => qI m (q + 1) j) n k c p cs).1 = true → (PosIs m2 q n (pRs (fun j => qI m (q + 1) j) n k c p cs).2.1 ∧ PG q m m2 ∧ ((pRs (fun j => qI m (q + 1) j) n k c p cs).1 = true → qI m2 q 5 = nI (pRs (fun j => qI m (q + 1) j) n k c p cs).2.2.1 ∧ (pRs (fun j => qI m (q + 1) j) n k c p cs).2.2.1 ≤ 12 ∧ CmIs m2 q (pRs (fun j => qI m (q + 1) j) n k c p cs).2.2.1 (pRs (fun j => qI m (q + 1) j) n k c p cs).2.2.2)) → WS E X 0 0 Q g m2 49 [some (.ref q)] []) → (∀ m2 : qM, (pRs (fun j => qI m (q + 1) j) n k c p cs).1 = false → (PosIs m2 q n (pRs (fun j => qI m (q + 1) j) n k c p cs).2.1 ∧ PG q m m2 ∧ ((pRs (fun j => qI m (q + 1) j) n k c p cs).1 = true → qI m2 q 5 = nI (pRs (fun j => qI m (q + 1) j) n k c p cs).2.2.1 ∧ (pRs (fun j => qI m (q + 1) j) n k c p cs).2.2.1 ≤ 12 ∧ CmIs m2 q (pRs (fun j => qI m (q + 1) j) n k c p cs).2.2.1 (pRs (fun j => qI m (q + 1) j) n k c p cs).2.2.2)) → WS E X 0 0 Q g m2 26 [some (.ref q)] [] ∧ WS E X 0 0 Q g m2 60 [some (.ref q)] [] ∧ WS E X 0 0 Q g m2 62 [some (.ref q)] []) → WS E X 0 0 Q g m1 10 [some (.ref q)] [] := by
  intro k
  induction k with
  | zero =>
    intro c p cs m1 hi hm1 K1 K0
    have hib : c = 12 := by omega
    subst hib
    refine r_aload_n hX dX3_parse_10 rfl ?_
    refine r_getI hX dX3_parse_11 hs.1.1 fl_X3_35 ?_
    rw [hm1.2.1]
    refine r_bipush (v := 12) hX dX3_parse_14 (by decide) ?_
    refine r_icmp_ge (tgt := 62) hX dX3_parse_16 (by decide) (fun c16 => ?_) (fun c16 => ?_)
    · exact (K0 _ rfl ⟨hm1.1, hm1.2.2.2, fun h => nomatch h⟩).2.2
    · exact absurd (by decide) c16
  | succ k ih =>
    intro c p cs m1 hi hm1 K1 K0
    have hc12 : c < 12 := by omega
    have ht := hm1.2.2.2.tx
    have hr : (pRs (fun j => qI m (q + 1) j) n (k + 1) c p cs) = if (rCm (fun j => qI m (q + 1) j) n p).1 = true then (if (rCm (fun j => qI m (q + 1) j) n p).2.1 = n then (true, (rCm (fun j => qI m (q + 1) j) n p).2.1, c + 1, fun j => if j = c then (rCm (fun j => qI m (q + 1) j) n p).2.2 else cs j) else if (rCm (fun j => qI m (q + 1) j) n p).2.1 < n ∧ qI m (q + 1) (rCm (fun j => qI m (q + 1) j) n p).2.1 = 59 then (pRs (fun j => qI m (q + 1) j) n k (c + 1) ((rCm (fun j => qI m (q + 1) j) n p).2.1 + 1) (fun j => if j = c then (rCm (fun j => qI m (q + 1) j) n p).2.2 else cs j)) else (false, (rCm (fun j => qI m (q + 1) j) n p).2.1, c + 1, fun j => if j = c then (rCm (fun j => qI m (q + 1) j) n p).2.2 else cs j)) else (false, (rCm (fun j => qI m (q + 1) j) n p).2.1, c, cs) := rfl
    refine r_aload_n hX dX3_parse_10 rfl ?_
    refine r_getI hX dX3_parse_11 hs.1.1 fl_X3_35 ?_
    rw [hm1.2.1]
    refine r_bipush (v := 12) hX dX3_parse_14 (by decide) ?_
    refine r_icmp_ge (tgt := 62) hX dX3_parse_16 (by decide) (fun c16 => ?_) (fun c16 => ?_)
    · exact absurd c16 (nI_ge (b := 12) (by omega) (by decide))
    · refine r_aload_n hX dX3_parse_19 rfl ?_
      refine r_callV hX dX3_parse_20 (s_X3_readCommand E g m1 q n p c (hs.to hm1.2.2.2.2) hm1.1 hm1.2.1 hc12) ml_X3_38 rfl rfl hs.1.1 rfl ⟨Nat.le_of_ble_eq_true rfl, Nat.le_of_ble_eq_true rfl⟩ ⟨Nat.le_of_ble_eq_true rfl, Nat.le_of_ble_eq_true rfl, rfl, Nat.le_of_ble_eq_true rfl⟩ (fun v20 g20 m20 hp => ?_)
      obtain ⟨ok, hv, hok, hg, hP, hPF, hcmd⟩ := hp
      subst v20
      subst g20
      rw [ht] at hok hP hcmd
      generalize rCm (fun j => qI m (q + 1) j) n p = R at hok hP hcmd hr
      refine r_if_ne (tgt := 28) hX dX3_parse_23 (by decide) (fun c23 => ?_) (fun c23 => ?_)
      · have hok1 : ok = true := Classical.byContradiction (fun h => c23 (if_neg h))
        obtain ⟨h1, h2, h3⟩ := hcmd hok1
        rw [if_pos (hok.symm.trans hok1)] at hr
        have hU := hm1.2.2.1.up hc12 hPF h1 h2 h3
        have hC1 : qI m20 q 5 = nI c := (hPF.1 _ _ (by omega) (by omega) (by omega)).trans hm1.2.1
        refine r_aload_n hX dX3_parse_28 rfl ?_
        refine r_dup hX dX3_parse_29 rfl ?_
        refine r_getI hX dX3_parse_30 hs.1.1 fl_X3_35 ?_
        rw [hC1]
        refine r_iconst (v := 1) hX dX3_parse_33 (by decide) ?_
        refine r_iadd hX dX3_parse_34 ?_
        rw [show nI c + 1 = nI (c + 1) from nI_1 c]
        refine r_putI hX dX3_parse_35 hs.1.1 fl_X3_35 ?_
        refine r_aload_n hX dX3_parse_38 rfl ?_
        refine r_getI hX dX3_parse_39 hs.1.1 fl_X3_32 ?_
        rw [qI_wI_k _ _ _ _ (by decide), hP.2.2.1]
        refine r_aload_n hX dX3_parse_42 rfl ?_
        refine r_getI hX dX3_parse_43 hs.1.1 fl_X3_24 ?_
        rw [qI_wI_k _ _ _ _ (by decide), hP.1]
        refine r_icmp_ne (tgt := 51) hX dX3_parse_46 (by decide) (fun c46 => ?_) (fun c46 => ?_)
        · have hn2 : ¬ R.2.1 = n := fun h => c46 (by rw [h])
          have hP2 : PosIs (wI m20 q 5 (nI (c + 1))) q n R.2.1 := ⟨(qI_wI_k _ _ _ _ (by decide)).trans hP.1, hP.2.1, (qI_wI_k _ _ _ _ (by decide)).trans hP.2.2.1, hP.2.2.2⟩
          refine r_aload_n hX dX3_parse_51 rfl ?_
          refine r_bipush (v := 59) hX dX3_parse_52 (by decide) ?_
          refine r_callV hX dX3_parse_54 (s_X3_readSign E g (wI m20 q 5 (nI (c + 1))) q n R.2.1 59 (hs.to (hPF.2.trans hm1.2.2.2.2)) hP2) ml_X3_41 rfl rfl hs.1.1 rfl ⟨Nat.le_of_ble_eq_true rfl, Nat.le_of_ble_eq_true rfl⟩ ⟨Nat.le_of_ble_eq_true rfl, Nat.le_of_ble_eq_true rfl, rfl, Nat.le_of_ble_eq_true rfl⟩ (fun v54 g54 m54 hp => ?_)
          obtain ⟨hv, hg, hm⟩ := hp
          subst v54
          subst g54
          subst m54
          rw [qI_wI_a _ _ _ _ (by omega), show qI m20 (q + 1) R.2.1 = qI m (q + 1) R.2.1 from congrFun (hPF.tx.trans ht) _]
          refine r_if_ne (tgt := 10) hX dX3_parse_57 (by decide) (fun c57 => ?_) (fun c57 => ?_)
          · have hy : R.2.1 < n ∧ qI m (q + 1) R.2.1 = 59 := Classical.byContradiction (fun h => c57 (if_neg h))
            rw [if_neg hn2, if_pos hy] at hr
            rw [hr] at K1 K0
            rw [if_pos hy]
            refine ih (c + 1) (R.2.1 + 1) _ _ (by omega) ⟨?_, ?_, (hU.wI).wI, ((hm1.2.2.2.tr (PG.of hPF hc12)).wI (Or.inr rfl)).wI (Or.inl rfl)⟩ K1 K0
            · exact hP2.at (by omega)
            · rw [qI_wI_k _ _ _ _ (by decide), qI_wI_s]
          · have hy : ¬ (R.2.1 < n ∧ qI m (q + 1) R.2.1 = 59) := fun h => by rw [if_pos h] at c57; exact absurd c57 (by decide)
            rw [if_neg hn2, if_neg hy] at hr
            rw [hr] at K0
            rw [if_neg hy]
            exact (K0 _ rfl ⟨hP2.at hP2.2.2.2, ((hm1.2.2.2.tr (PG.of hPF hc12)).wI (Or.inr rfl)).wI (Or.inl rfl), fun h => nomatch h⟩).2.1
        · rw [nI_eq (by have := hP.2.1; have := hP.2.2.2; omega) (by have := hP.2.1; omega)] at c46
          rw [if_pos c46] at hr
          rw [hr] at K1
          refine K1 _ rfl ⟨⟨(qI_wI_k _ _ _ _ (by decide)).trans hP.1, hP.2.1, (qI_wI_k _ _ _ _ (by decide)).trans hP.2.2.1, hP.2.2.2⟩, (hm1.2.2.2.tr (PG.of hPF hc12)).wI (Or.inr rfl), fun _ => ⟨qI_wI_s _ _ _ _, by show c + 1 ≤ 12; omega, hU.wI⟩⟩
      · have hok0 : ok = false := Bool.eq_false_iff.mpr (fun h => by rw [if_pos h] at c23; exact absurd c23 (by decide))
        rw [if_neg (by rw [← hok, hok0]; decide)] at hr
        rw [hr] at K0
        exact (K0 _ rfl ⟨hP, hm1.2.2.2.tr (PG.of hPF hc12), fun h => nomatch h⟩).1
set_option maxRecDepth 20000 in
set_option maxHeartbeats 4000000 in
theorem s_X3_parse (E : qE) (g : qG) (m : qM) (q n : Nat) (hs : ProS g m q) (hn : qI m q 3 = nI n ∧ n ≤ 60) : Sp E yX3_parse cX3_parse 1 (some .boolean) 7 0 0 [.ref q] g m (fun v g' m' => v = some (.int (if (pRs (fun j => qI m (q + 1) j) n 12 0 0 (fun _ => (0, fun _ => 0))).1 = true then 1 else 0)) ∧ g' = g ∧ PosIs m' q n (pRs (fun j => qI m (q + 1) j) n 12 0 0 (fun _ => (0, fun _ => 0))).2.1 ∧ PG q m m' ∧ ((pRs (fun j => qI m (q + 1) j) n 12 0 0 (fun _ => (0, fun _ => 0))).1 = true → qI m' q 5 = nI (pRs (fun j => qI m (q + 1) j) n 12 0 0 (fun _ => (0, fun _ => 0))).2.2.1 ∧ (pRs (fun j => qI m (q + 1) j) n 12 0 0 (fun _ => (0, fun _ => 0))).2.2.1 ≤ 12 ∧ CmIs m' q (pRs (fun j => qI m (q + 1) j) n 12 0 0 (fun _ => (0, fun _ => 0))).2.2.1 (pRs (fun j => qI m (q + 1) j) n 12 0 0 (fun _ => (0, fun _ => 0))).2.2.2)) := by
  refine Sp.of (by decide) [some (.ref q)] rfl rfl (Nat.le_of_ble_eq_true rfl) (fun X hX => ?_)
  refine r_aload_n hX dX3_parse_0 rfl ?_
  refine r_iconst (v := 0) hX dX3_parse_1 (by decide) ?_
  refine r_putI hX dX3_parse_2 hs.1.1 fl_X3_32 ?_
  refine r_aload_n hX dX3_parse_5 rfl ?_
  refine r_iconst (v := 0) hX dX3_parse_6 (by decide) ?_
  refine r_putI hX dX3_parse_7 hs.1.1 fl_X3_35 ?_
  refine s_X3_parse_l hX hs 12 0 0 (fun _ => (0, fun _ => 0)) _ rfl ⟨⟨?_, hn.2, ?_, Nat.zero_le n⟩, qI_wI_s _ _ _ _, fun i hi => absurd hi (Nat.not_lt_zero i), ((PG.rf q m).wI (Or.inl rfl)).wI (Or.inr rfl)⟩ (fun m2 ho h2 => ?_) (fun m2 ho h2 => ⟨?_, ?_, ?_⟩)
  · rw [qI_wI_k _ _ _ _ (by decide), qI_wI_k _ _ _ _ (by decide)]; exact hn.1
  · rw [qI_wI_k _ _ _ _ (by decide), qI_wI_s]; rfl
  · refine r_iconst (v := 1) hX dX3_parse_49 (by decide) ?_
    exact r_zret hX dX3_parse_50 rfl ⟨by rw [ho]; rfl, rfl, h2⟩ ⟨Nat.le_of_ble_eq_true rfl, Nat.le_of_ble_eq_true rfl⟩
  · refine r_iconst (v := 0) hX dX3_parse_26 (by decide) ?_
    exact r_zret hX dX3_parse_27 rfl ⟨by rw [ho]; rfl, rfl, h2⟩ ⟨Nat.le_of_ble_eq_true rfl, Nat.le_of_ble_eq_true rfl⟩
  · refine r_iconst (v := 0) hX dX3_parse_60 (by decide) ?_
    exact r_zret hX dX3_parse_61 rfl ⟨by rw [ho]; rfl, rfl, h2⟩ ⟨Nat.le_of_ble_eq_true rfl, Nat.le_of_ble_eq_true rfl⟩
  · refine r_iconst (v := 0) hX dX3_parse_62 (by decide) ?_
    exact r_zret hX dX3_parse_63 rfl ⟨by rw [ho]; rfl, rfl, h2⟩ ⟨Nat.le_of_ble_eq_true rfl, Nat.le_of_ble_eq_true rfl⟩
theorem OutN.mna {q n : Nat} {m m' : qM} (h : OutN q n m m') {a : Nat} (ha : q ≤ a ∧ a + 13 ≤ q + n) : OutN q n m (mNm m' a) := fun b hb => ⟨(funext fun j => if_neg (by omega)).trans (h b hb).1, (funext fun j => (if_neg (by omega)).trans (if_neg (by omega))).trans (h b hb).2.1, (funext fun j => if_neg (by omega)).trans (h b hb).2.2.1, (funext fun j => if_neg (by omega)).trans (h b hb).2.2.2⟩
def gPro (g : qG) : qG := gNm (gNew (gNew g (.inr (1, 60))) (.inr (0, 12)))
theorem gPro_sz (g : qG) : (gPro g).2 = g.2 + 15 := rfl
theorem gPro_old {g : qG} {a : Nat} (h : a < g.2) : (gPro g).1 a = g.1 a := by
  unfold gPro gNm gNew
  simp only
  rw [if_neg (by omega), if_neg (by omega), if_neg (by omega), if_neg (by omega)]
theorem gPro_sh {g : qG} {q : Nat} (hg : g.2 = q + 1) (hq : gAt g q (.inl 6)) : ProSh (gPro g) q := by
  refine ⟨(gPro_old (by omega)).trans hq, ?_, ?_, ?_, fun i hi => ?_⟩
  · unfold gPro gNm gNew gAt
    simp only
    rw [if_neg (by omega), if_neg (by omega), if_neg (by omega), if_pos (by omega)]
  · unfold gPro gNm gNew gAt
    simp only
    rw [if_neg (by omega), if_neg (by omega), if_pos (by omega)]
  · unfold gPro gNm gNew gAt
    simp only
    rw [if_pos (by omega)]
  · unfold gPro gNm gNew gAt
    simp only
    rw [if_neg (by omega), if_pos (by omega)]
set_option maxRecDepth 20000 in
set_option maxHeartbeats 4000000 in
theorem s_X3_init (E : qE) (g : qG) (m : qM) (q : Nat) (hq : gAt g q (.inl 6)) (hg : g.2 = q + 1) : Sp E yX3_init cX3_init 1 none 1 15 120 [.ref q] g m (fun v g' m' => v = none ∧ g' = gPro g ∧ ProS g' m' q ∧ OutN q 16 m m' ∧ (∀ k, qI m' q k = qI m q k) ∧ (∀ k, qI m' (q + 1) k = 0)) := by
  refine Sp.of (by decide) [some (.ref q)] rfl rfl (Nat.le_of_ble_eq_true rfl) (fun X hX => ?_)
  refine r_aload_n hX dX3_init_0 rfl ?_
  refine r_objInit hX dX3_init_1 mo_X3_3 ⟨Nat.le_of_ble_eq_true rfl, rfl, Nat.le_of_ble_eq_true rfl⟩ ?_
  refine r_aload_n hX dX3_init_4 rfl ?_
  refine r_bipush (v := 60) hX dX3_init_5 (by decide) ?_
  refine r_newa (t := 1) (n := 60) hX dX3_init_7 ⟨List.mem_of_getElem? (i := 296) (by decide +kernel), by decide +kernel⟩ ⟨by decide, rfl⟩ ⟨by decide, by decide, by decide⟩ (Nat.le_of_ble_eq_true rfl) (Nat.le_of_ble_eq_true rfl) ?_
  rw [hg]
  refine r_putFR hX dX3_init_9 (gNew_old hq (by omega)) ff_X3_9 rfl rfl rfl ?_
  refine r_aload_n hX dX3_init_12 rfl ?_
  refine r_bipush (v := 12) hX dX3_init_13 (by decide) ?_
  refine r_newa (t := 0) (n := 12) hX dX3_init_15 ⟨List.mem_of_getElem? (i := 174) (by decide +kernel), by decide +kernel⟩ ⟨by decide, rfl⟩ ⟨by decide, by decide, by decide⟩ (Nat.le_of_ble_eq_true rfl) (Nat.le_of_ble_eq_true rfl) ?_
  rw [show (gNew g (.inr (1, 60))).2 = q + 2 by show g.2 + 1 = _; omega]
  refine r_putFR hX dX3_init_17 (gNew_old (gNew_old hq (by omega)) (by show q < g.2 + 1; omega)) ff_X3_15 rfl rfl rfl ?_
  refine r_aload_n hX dX3_init_20 rfl ?_
  refine r_bipush (v := 12) hX dX3_init_21 (by decide) ?_
  refine r_iconst (v := 3) hX dX3_init_23 (by decide) ?_
  refine r_mna hX dX3_init_24 ⟨⟨List.mem_of_getElem? (i := 270) (by decide +kernel), by decide +kernel⟩, ⟨List.mem_of_getElem? (i := 271) (by decide +kernel), by decide +kernel⟩, ⟨List.mem_of_getElem? (i := 174) (by decide +kernel), by decide +kernel⟩⟩ (Nat.le_of_ble_eq_true rfl) (Nat.le_of_ble_eq_true rfl) ?_
  rw [show (gNew (gNew g (.inr (1, 60))) (.inr (0, 12))).2 = q + 3 by show g.2 + 1 + 1 = _; omega]
  show WS E X _ _ _ (gPro g) _ _ _ _
  refine r_putFR hX dX3_init_28 ((gPro_old (by omega)).trans hq) ff_X3_21 rfl rfl rfl ?_
  refine r_vret hX dX3_init_31 ⟨rfl, rfl, ⟨gPro_sh hg hq, ?_, ?_, ?_, fun i hi => ?_⟩, ?_, fun k => ?_, fun k => ?_⟩ ⟨Nat.le_of_ble_eq_true rfl, Nat.le_of_ble_eq_true rfl⟩
  · rw [qR_wR_k _ _ _ _ (by decide)]
    show (if q = q + 3 ∧ 0 < 12 then _ else if q + 3 ≤ q ∧ q < q + 3 + 13 then _ else qR _ q 0) = _
    rw [if_neg (by omega), if_neg (by omega), qR_wR_k _ _ _ _ (by decide), qR_wZ_a _ _ (by omega)]
    exact qR_wR_s _ _ _ _
  · rw [qR_wR_k _ _ _ _ (by decide)]
    show (if q = q + 3 ∧ 1 < 12 then _ else if q + 3 ≤ q ∧ q < q + 3 + 13 then _ else qR _ q 1) = _
    rw [if_neg (by omega), if_neg (by omega)]
    exact qR_wR_s _ _ _ _
  · exact qR_wR_s _ _ _ _
  · rw [qR_wR_a _ _ _ _ (by omega)]
    exact (if_pos ⟨rfl, hi⟩).trans (congrArg some (by omega))
  · exact (((((OutN.rf q 16 m).wZ (by omega)).wR (by omega)).wZ (by omega)).wR (by omega)).mna (by omega) |>.wR (by omega)
  · rw [qI_wR]
    show (if q + 3 ≤ q ∧ q < q + 3 + 13 then _ else qI _ q k) = _
    rw [if_neg (by omega), qI_wR, qI_wZ_a _ _ (by omega), qI_wR, qI_wZ_a _ _ (by omega)]
  · rw [qI_wR]
    show (if q + 3 ≤ q + 1 ∧ q + 1 < q + 3 + 13 then _ else qI _ (q + 1) k) = _
    rw [if_neg (by omega), qI_wR, qI_wZ_a _ _ (by omega), qI_wR]
    exact qI_wZ_s _ _ _
