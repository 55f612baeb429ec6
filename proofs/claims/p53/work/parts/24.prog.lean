/-! ===== CometObservatory.Program: made ===== -/
theorem wI_wI (m : qM) (a k : Nat) (v w : Int32) : wI (wI m a k v) a k w = wI m a k w := by
  unfold wI
  congr 1
  funext b j
  by_cases h : b = a ∧ j = k <;> simp [h]
theorem wI_id {m : qM} {a k : Nat} {v : Int32} (h : qI m a k = v) : wI m a k v = m := by
  unfold wI
  have e : (fun b j => if b = a ∧ j = k then v else m.1 b j) = m.1 := by
    funext b j
    by_cases h2 : b = a ∧ j = k
    · obtain ⟨rfl, rfl⟩ := h2
      rw [if_pos ⟨rfl, rfl⟩]; exact h.symm
    · rw [if_neg h2]
  rw [e]
def ProSh (g : qG) (q : Nat) : Prop := gAt g q (.inl 6) ∧ gAt g (q + 1) (.inr (1, 60)) ∧ gAt g (q + 2) (.inr (0, 12)) ∧ gAt g (q + 3) (.inr (7, 12)) ∧ ∀ i, i < 12 → gAt g (q + 4 + i) (.inr (0, 3))
def ProR (m : qM) (q : Nat) : Prop := qR m q 0 = some (q + 1) ∧ qR m q 1 = some (q + 2) ∧ qR m q 2 = some (q + 3) ∧ ∀ i, i < 12 → qR m (q + 3) i = some (q + 4 + i)
def ProS (g : qG) (m : qM) (q : Nat) : Prop := ProSh g q ∧ ProR m q
theorem ProS.to {g : qG} {m m' : qM} {q : Nat} (h : ProS g m q) (hm : m'.2 = m.2) : ProS g m' q := by
  unfold ProS ProR qR at h ⊢
  rw [hm]
  exact h
/-- the length is n, the position p -/
def oI (o : Option Nat) : Int32 := match o with
  | some i => nI i
  | none => -1
set_option maxRecDepth 20000 in
theorem OutN.mna {q n : Nat} {m m' : qM} (h : OutN q n m m') {a : Nat} (ha : q ≤ a ∧ a + 13 ≤ q + n) : OutN q n m (mNm m' a) := fun b hb => ⟨(funext fun j => if_neg (by omega)).trans (h b hb).1, (funext fun j => (if_neg (by omega)).trans (if_neg (by omega))).trans (h b hb).2.1, (funext fun j => if_neg (by omega)).trans (h b hb).2.2.1, (funext fun j => if_neg (by omega)).trans (h b hb).2.2.2⟩
def gPro (g : qG) : qG := gNm (gNew (gNew g (.inr (1, 60))) (.inr (0, 12)))
theorem gPro_sz (g : qG) : (gPro g).2 = g.2 + 15 := rfl
theorem gPro_old {g : qG} {a : Nat} (h : a < g.2) : (gPro g).1 a = g.1 a := by
  unfold gPro gNm gNew
  simp only
  rw [if_neg (by omega), if_neg (by omega), if_neg (by omega), if_neg (by omega)]
theorem gPro_sh {g : qG} {q : Nat} (hg : g.2 = q + 1) (hq : gAt g q (.inl 6)) : ProSh (gPro g) q := by
  refine ⟨(gPro_old (by omega)).trans hq, ?_, ?_, ?_, fun i hi => ?_⟩
  · unfold gPro gNm gNew gAt
    simp only
    rw [if_neg (by omega), if_neg (by omega), if_neg (by omega), if_pos (by omega)]
  · unfold gPro gNm gNew gAt
    simp only
    rw [if_neg (by omega), if_neg (by omega), if_pos (by omega)]
  · unfold gPro gNm gNew gAt
    simp only
    rw [if_pos (by omega)]
  · unfold gPro gNm gNew gAt
    simp only
    rw [if_neg (by omega), if_pos (by omega)]
set_option maxRecDepth 20000 in
set_option maxHeartbeats 4000000 in
theorem s_X3_init (E : qE) (g : qG) (m : qM) (q : Nat) (hq : gAt g q (.inl 6)) (hg : g.2 = q + 1) : Sp E yX3_init cX3_init 1 none 1 15 120 [.ref q] g m (fun v g' m' => v = none ∧ g' = gPro g ∧ ProS g' m' q ∧ OutN q 16 m m' ∧ (∀ k, qI m' q k = qI m q k) ∧ (∀ k, qI m' (q + 1) k = 0)) := by
  refine Sp.of (by decide) [some (.ref q)] rfl rfl (Nat.le_of_ble_eq_true rfl) (fun X hX => ?_)
  refine r_aload_n hX dX3_init_0 rfl ?_
  refine r_objInit hX dX3_init_1 mo_X3_3 ⟨Nat.le_of_ble_eq_true rfl, rfl, Nat.le_of_ble_eq_true rfl⟩ ?_
  refine r_aload_n hX dX3_init_4 rfl ?_
  refine r_bipush (v := 60) hX dX3_init_5 (by decide) ?_
  refine r_newa (t := 1) (n := 60) hX dX3_init_7 ⟨List.mem_of_getElem? (i := 235) (by decide +kernel), by decide +kernel⟩ ⟨by decide, rfl⟩ ⟨by decide, by decide, by decide⟩ (Nat.le_of_ble_eq_true rfl) (Nat.le_of_ble_eq_true rfl) ?_
  rw [hg]
  refine r_putFR hX dX3_init_9 (gNew_old hq (by omega)) ff_X3_9 rfl rfl rfl ?_
  refine r_aload_n hX dX3_init_12 rfl ?_
  refine r_bipush (v := 12) hX dX3_init_13 (by decide) ?_
  refine r_newa (t := 0) (n := 12) hX dX3_init_15 ⟨List.mem_of_getElem? (i := 124) (by decide +kernel), by decide +kernel⟩ ⟨by decide, rfl⟩ ⟨by decide, by decide, by decide⟩ (Nat.le_of_ble_eq_true rfl) (Nat.le_of_ble_eq_true rfl) ?_
  rw [show (gNew g (.inr (1, 60))).2 = q + 2 by show g.2 + 1 = _; omega]
  refine r_putFR hX dX3_init_17 (gNew_old (gNew_old hq (by omega)) (by show q < g.2 + 1; omega)) ff_X3_15 rfl rfl rfl ?_
  refine r_aload_n hX dX3_init_20 rfl ?_
  refine r_bipush (v := 12) hX dX3_init_21 (by decide) ?_
  refine r_iconst (v := 3) hX dX3_init_23 (by decide) ?_
  refine r_mna hX dX3_init_24 ⟨⟨List.mem_of_getElem? (i := 217) (by decide +kernel), by decide +kernel⟩, ⟨List.mem_of_getElem? (i := 218) (by decide +kernel), by decide +kernel⟩, ⟨List.mem_of_getElem? (i := 124) (by decide +kernel), by decide +kernel⟩⟩ (Nat.le_of_ble_eq_true rfl) (Nat.le_of_ble_eq_true rfl) ?_
  rw [show (gNew (gNew g (.inr (1, 60))) (.inr (0, 12))).2 = q + 3 by show g.2 + 1 + 1 = _; omega]
  show WS E X _ _ _ (gPro g) _ _ _ _
  refine r_putFR hX dX3_init_28 ((gPro_old (by omega)).trans hq) ff_X3_21 rfl rfl rfl ?_
  refine r_vret hX dX3_init_31 ⟨rfl, rfl, ⟨gPro_sh hg hq, ?_, ?_, ?_, fun i hi => ?_⟩, ?_, fun k => ?_, fun k => ?_⟩ ⟨Nat.le_of_ble_eq_true rfl, Nat.le_of_ble_eq_true rfl⟩
  · rw [qR_wR_k _ _ _ _ (by decide)]
    show (if q = q + 3 ∧ 0 < 12 then _ else if q + 3 ≤ q ∧ q < q + 3 + 13 then _ else qR _ q 0) = _
    rw [if_neg (by omega), if_neg (by omega), qR_wR_k _ _ _ _ (by decide), qR_wZ_a _ _ (by omega)]
    exact qR_wR_s _ _ _ _
  · rw [qR_wR_k _ _ _ _ (by decide)]
    show (if q = q + 3 ∧ 1 < 12 then _ else if q + 3 ≤ q ∧ q < q + 3 + 13 then _ else qR _ q 1) = _
    rw [if_neg (by omega), if_neg (by omega)]
    exact qR_wR_s _ _ _ _
  · exact qR_wR_s _ _ _ _
  · rw [qR_wR_a _ _ _ _ (by omega)]
    exact (if_pos ⟨rfl, hi⟩).trans (congrArg some (by omega))
  · exact (((((OutN.rf q 16 m).wZ (by omega)).wR (by omega)).wZ (by omega)).wR (by omega)).mna (by omega) |>.wR (by omega)
  · rw [qI_wR]
    show (if q + 3 ≤ q ∧ q < q + 3 + 13 then _ else qI _ q k) = _
    rw [if_neg (by omega), qI_wR, qI_wZ_a _ _ (by omega), qI_wR, qI_wZ_a _ _ (by omega)]
  · rw [qI_wR]
    show (if q + 3 ≤ q + 1 ∧ q + 1 < q + 3 + 13 then _ else qI _ (q + 1) k) = _
    rw [if_neg (by omega), qI_wR, qI_wZ_a _ _ (by omega), qI_wR]
    exact qI_wZ_s _ _ _
