/-! ===== CometObservatoryModel: the parser: numbers ===== -/
theorem digA_sg {tx : Nat → Int32} {n h : Nat} : digA tx n h = true ↔ 48 ≤ sgM tx n h ∧ sgM tx n h ≤ 57 := by
  unfold digA sgM
  rw [Bool.and_eq_true, Bool.and_eq_true, decide_eq_true_eq, decide_eq_true_eq, decide_eq_true_eq]
  by_cases e : h < n
  · rw [if_pos e]; exact ⟨fun q => q.2, fun q => ⟨e, q⟩⟩
  · rw [if_neg e]; exact ⟨fun q => absurd q.1 e, fun q => absurd q.1 (by decide)⟩
theorem digA_n {tx : Nat → Int32} {n h : Nat} (hd : digA tx n h = true) : h < n ∧ sgM tx n h = tx h := by
  unfold digA at hd
  rw [Bool.and_eq_true, decide_eq_true_eq] at hd
  exact ⟨hd.1, if_pos hd.1⟩
theorem rN_y {tx : Nat → Int32} {n k h : Nat} {v : Int32} (hd : digA tx n h = true) : rN tx n (k + 1) h v = rN tx n k (h + 1) (v * 10 + (tx h - 48)) := if_pos hd
theorem rN_n {tx : Nat → Int32} {n k h : Nat} {v : Int32} (hd : ¬ digA tx n h = true) : rN tx n (k + 1) h v = (v, h) := if_neg hd
theorem rN_0 {tx : Nat → Int32} {n h : Nat} {v : Int32} : rN tx n 0 h v = (v, h) := rfl
theorem PaM.dg {tx : Nat → Int32} {n h : Nat} : (if 48 ≤ sgM tx n h ∧ sgM tx n h ≤ 57 then (1 : Int32) else 0) = if digA tx n h = true then 1 else 0 := by
  by_cases e : digA tx n h = true
  · rw [if_pos e, if_pos (digA_sg.mp e)]
  · rw [if_neg e, if_neg (fun q => e (digA_sg.mpr q))]
theorem numM_e {tx : Nat → Int32} {n d e : Nat} {s : kP2} (h : (needM tx n 32 s).2 = some e) : numM tx n d s = (0, (needM tx n 32 s).1, some e) := by unfold numM; rw [h]
theorem numM_s {tx : Nat → Int32} {n d : Nat} {s : kP2} (h : (needM tx n 32 s).2 = none) : numM tx n d s = if digA tx n (needM tx n 32 s).1 = true then ((rN tx n d (needM tx n 32 s).1 0).1, (rN tx n d (needM tx n 32 s).1 0).2, none) else (0, (needM tx n 32 s).1, some (needM tx n 32 s).1) := by unfold numM; rw [h]
set_option maxRecDepth 20000 in
set_option maxHeartbeats 4000000 in
theorem s_X8_number_l {E : qE} {X : qX} {Q : State → Prop} {g : qG} {m : qM} (hX : MC E yX8_number cX8_number 4 (some .int) 2 0 0 [] X) {y : Nat} (hs : ModS g m y) {n d : Nat} {tx : Nat → Int32} (hd : d < 2 ^ 31) : ∀ (r k h : Nat) (v : Int32) (m1 : qM), k + r = d → PaM m1 y n tx (h, none) → MF (PZ y) m m1 → (∀ (j : Int32) (m2 : qM), PaM m2 y n tx ((rN tx n r h v).2, none) → MF (PZ y) m m2 → WS E X 0 0 Q g m2 91 [some (.ref y), some (.int (nI d)), some (.int (rN tx n r h v).1), some (.int j)] []) → WS E X 0 0 Q g m1 43 [some (.ref y), some (.int (nI d)), some (.int v), some (.int (nI k))] [] := by
  intro r
  induction r with
  | zero =>
    intro k h v m1 hk hp hM K
    have hib : k = d := by omega
    subst hib
    refine r_iload_n hX dX8_number_43 rfl ?_
    refine r_iload_n hX dX8_number_44 rfl ?_
    refine r_icmp_ge (tgt := 91) hX dX8_number_45 (by decide) (fun c45 => ?_) (fun c45 => ?_)
    · exact K _ m1 hp hM
    · exact absurd (Int32.le_refl _) c45
  | succ r ih =>
    intro k h v m1 hk hp hM K
    obtain ⟨p1, p2, p3, p4, p5, p6, p7⟩ := id hp
    refine r_iload_n hX dX8_number_43 rfl ?_
    refine r_iload_n hX dX8_number_44 rfl ?_
    refine r_icmp_ge (tgt := 91) hX dX8_number_45 (by decide) (fun c45 => ?_) (fun c45 => ?_)
    · exact absurd c45 (nI_ge (by omega) hd)
    · refine r_aload_n hX dX8_number_48 rfl ?_
      refine r_callV hX dX8_number_49 (s_X8_sign E g m1 y (hs.to hM.2) n tx (h, none) hp) ml_X8_172 rfl rfl hs.1.1 rfl ⟨Nat.le_of_ble_eq_true rfl, Nat.le_of_ble_eq_true rfl⟩ ⟨Nat.le_of_ble_eq_true rfl, Nat.le_of_ble_eq_true rfl, rfl, Nat.le_of_ble_eq_true rfl⟩ (fun v49 g49 m49 hp => ?_)
      obtain ⟨hv, hg, hm⟩ := hp
      subst v49
      subst g49
      subst m49
      refine r_bipush (v := 48) hX dX8_number_52 (by decide) ?_
      refine r_bipush (v := 57) hX dX8_number_54 (by decide) ?_
      refine r_callS hX dX8_number_56 (s_X8_inI E g m1 (sgM tx n h) 48 57) ml_X8_69 rfl rfl ⟨Nat.le_of_ble_eq_true rfl, Nat.le_of_ble_eq_true rfl⟩ ⟨Nat.le_of_ble_eq_true rfl, Nat.le_of_ble_eq_true rfl, rfl, Nat.le_of_ble_eq_true rfl⟩ (fun v56 g56 m56 hp => ?_)
      obtain ⟨hv, hg, hm⟩ := hp
      subst v56
      subst g56
      subst m56
      rw [PaM.dg]
      refine r_if_eq (tgt := 91) hX dX8_number_59 (by decide) (fun c59 => ?_) (fun c59 => ?_)
      · have hdg : ¬ digA tx n h = true := fun q => absurd c59 (by rw [if_pos q]; decide)
        have h9 := K (nI k) m1 (by rw [rN_n hdg]; exact hp) hM
        rw [rN_n hdg] at h9
        exact h9
      · have hdg : digA tx n h = true := Classical.byContradiction (fun q => c59 (by rw [if_neg q]))
        obtain ⟨hdn, hsg⟩ := digA_n hdg
        refine r_bipush (v := 10) hX dX8_number_62 (by decide) ?_
        refine r_iload_n hX dX8_number_64 rfl ?_
        refine r_imul hX dX8_number_65 ?_
        refine r_aload_n hX dX8_number_66 rfl ?_
        refine r_callV hX dX8_number_67 (s_X8_sign E g m1 y (hs.to hM.2) n tx (h, none) hp) ml_X8_172 rfl rfl hs.1.1 rfl ⟨Nat.le_of_ble_eq_true rfl, Nat.le_of_ble_eq_true rfl⟩ ⟨Nat.le_of_ble_eq_true rfl, Nat.le_of_ble_eq_true rfl, rfl, Nat.le_of_ble_eq_true rfl⟩ (fun v67 g67 m67 hp => ?_)
        obtain ⟨hv, hg, hm⟩ := hp
        subst v67
        subst g67
        subst m67
        refine r_iadd hX dX8_number_70 ?_
        refine r_bipush (v := 48) hX dX8_number_71 (by decide) ?_
        refine r_isub hX dX8_number_73 ?_
        rw [show (10 : Int32) * v + sgM tx n h - 48 = v * 10 + (tx h - 48) by rw [hsg, Int32.mul_comm, i32_as]]
        refine r_istore_n hX dX8_number_74 (Nat.le_of_ble_eq_true rfl) rfl ?_
        refine r_aload_n hX dX8_number_75 rfl ?_
        refine r_dup hX dX8_number_76 rfl ?_
        refine r_getI hX dX8_number_77 hs.1.1 fl_X8_166 ?_
        rw [p4]
        refine r_iconst (v := 1) hX dX8_number_80 (by decide) ?_
        refine r_iadd hX dX8_number_81 ?_
        rw [nI_1]
        refine r_putI hX dX8_number_82 hs.1.1 fl_X8_166 ?_
        refine r_iinc (v := nI (k + 1)) hX dX8_number_85 rfl (ii1 k) rfl ?_
        refine r_goto (tgt := 43) hX dX8_number_88 (by decide) ?_
        refine ih (k + 1) (h + 1) _ _ (by omega) (hp.h (fun j hj => qI_wI_k _ _ _ _ (by omega)) (fun j => qI_wI_a _ _ _ _ (by omega)) (qI_wI_s _ _ _ _) hdn) (hM.wI ⟨rfl, Or.inl rfl⟩) (fun j m2 hp2 hM2 => ?_)
        have h9 := K j m2 (by rw [rN_y hdg]; exact hp2) hM2
        rw [rN_y hdg] at h9
        exact h9
set_option maxRecDepth 20000 in
set_option maxHeartbeats 4000000 in
theorem s_X8_number (E : qE) (g : qG) (m : qM) (y : Nat) (hs : ModS g m y) (n : Nat) (tx : Nat → Int32) (s : kP2) (h0 : PaM m y n tx s) (d : Nat) (hd : d < 2 ^ 31) : Sp E yX8_number cX8_number 4 (some .int) 2 0 0 [.ref y, .int (nI d)] g m (fun v g' m' => v = some (.int (numM tx n d s).1) ∧ g' = g ∧ PaM m' y n tx (numM tx n d s).2 ∧ MF (PZ y) m m') := by
  refine Sp.of (by decide) [some (.ref y), some (.int (nI d)), none, none] rfl rfl (Nat.le_of_ble_eq_true rfl) (fun X hX => ?_)
  refine r_aload_n hX dX8_number_0 rfl ?_
  refine r_bipush (v := 32) hX dX8_number_1 (by decide) ?_
  refine r_callV hX dX8_number_3 (s_X8_needs E g m y hs n tx s h0 32 (by decide)) ml_X8_175 rfl rfl hs.1.1 rfl ⟨Nat.le_of_ble_eq_true rfl, Nat.le_of_ble_eq_true rfl⟩ ⟨Nat.le_of_ble_eq_true rfl, Nat.le_of_ble_eq_true rfl, rfl, Nat.le_of_ble_eq_true rfl⟩ (fun v3 g3 m3 hp => ?_)
  obtain ⟨hv, hg, hp3, hM3⟩ := hp
  subst v3
  subst g3
  rcases hq : needM tx n 32 s with ⟨h, e⟩
  rw [hq] at hp3
  obtain ⟨p1, p2, p3, p4, p5, p6, p7⟩ := id hp3
  refine r_aload_n hX dX8_number_6 rfl ?_
  refine r_getI hX dX8_number_7 hs.1.1 fl_X8_169 ?_
  rw [p6]
  refine r_if_lt (tgt := 15) hX dX8_number_10 (by decide) (fun c10 => ?_) (fun c10 => ?_)
  · rcases e with _ | e
    · have eR := numM_s (d := d) (show (needM tx n 32 s).2 = none by rw [hq])
      rw [hq] at eR
      refine r_aload_n hX dX8_number_15 rfl ?_
      refine r_callV hX dX8_number_16 (s_X8_sign E g m3 y (hs.to hM3.2) n tx (h, none) hp3) ml_X8_172 rfl rfl hs.1.1 rfl ⟨Nat.le_of_ble_eq_true rfl, Nat.le_of_ble_eq_true rfl⟩ ⟨Nat.le_of_ble_eq_true rfl, Nat.le_of_ble_eq_true rfl, rfl, Nat.le_of_ble_eq_true rfl⟩ (fun v16 g16 m16 hp => ?_)
      obtain ⟨hv, hg, hm⟩ := hp
      subst v16
      subst g16
      subst m16
      refine r_bipush (v := 48) hX dX8_number_19 (by decide) ?_
      refine r_bipush (v := 57) hX dX8_number_21 (by decide) ?_
      refine r_callS hX dX8_number_23 (s_X8_inI E g m3 (sgM tx n h) 48 57) ml_X8_69 rfl rfl ⟨Nat.le_of_ble_eq_true rfl, Nat.le_of_ble_eq_true rfl⟩ ⟨Nat.le_of_ble_eq_true rfl, Nat.le_of_ble_eq_true rfl, rfl, Nat.le_of_ble_eq_true rfl⟩ (fun v23 g23 m23 hp => ?_)
      obtain ⟨hv, hg, hm⟩ := hp
      subst v23
      subst g23
      subst m23
      rw [PaM.dg]
      refine r_if_ne (tgt := 39) hX dX8_number_26 (by decide) (fun c26 => ?_) (fun c26 => ?_)
      · have hdg : digA tx n h = true := Classical.byContradiction (fun q => c26 (by rw [if_neg q]))
        rw [if_pos hdg] at eR
        refine r_iconst (v := 0) hX dX8_number_39 (by decide) ?_
        refine r_istore_n hX dX8_number_40 (Nat.le_of_ble_eq_true rfl) rfl ?_
        refine r_iconst (v := 0) hX dX8_number_41 (by decide) ?_
        refine r_istore_n hX dX8_number_42 (Nat.le_of_ble_eq_true rfl) rfl ?_
        refine s_X8_number_l (g := g) (m := m) hX hs hd d 0 h 0 m3 (by omega) hp3 hM3 (fun j m2 hp2 hM2 => ?_)
        refine r_iload_n hX dX8_number_91 rfl ?_
        exact r_iret hX dX8_number_92 ⟨by rw [eR], rfl, by rw [eR]; exact hp2, hM2⟩ ⟨Nat.le_of_ble_eq_true rfl, Nat.le_of_ble_eq_true rfl⟩
      · have hdg : ¬ digA tx n h = true := fun q => absurd c26 (by rw [if_pos q]; decide)
        rw [if_neg hdg] at eR
        refine r_aload_n hX dX8_number_29 rfl ?_
        refine r_aload_n hX dX8_number_30 rfl ?_
        refine r_getI hX dX8_number_31 hs.1.1 fl_X8_166 ?_
        rw [p4]
        refine r_putI hX dX8_number_34 hs.1.1 fl_X8_169 ?_
        refine r_iconst (v := 0) hX dX8_number_37 (by decide) ?_
        exact r_iret hX dX8_number_38 ⟨by rw [eR], rfl, by rw [eR]; exact hp3.e (fun j hj => qI_wI_k _ _ _ _ (by omega)) (fun j => qI_wI_a _ _ _ _ (by omega)) (qI_wI_s _ _ _ _) p5, hM3.wI ⟨rfl, Or.inr rfl⟩⟩ ⟨Nat.le_of_ble_eq_true rfl, Nat.le_of_ble_eq_true rfl⟩
    · exact absurd c10 (oI_pos (Nat.le_trans (p7 e rfl) p2))
  · rcases e with _ | e
    · exact absurd oI_neg c10
    · have eR := numM_e (d := d) (show (needM tx n 32 s).2 = some e by rw [hq])
      rw [hq] at eR
      refine r_iconst (v := 0) hX dX8_number_13 (by decide) ?_
      exact r_iret hX dX8_number_14 ⟨by rw [eR], rfl, by rw [eR]; exact hp3, hM3⟩ ⟨Nat.le_of_ble_eq_true rfl, Nat.le_of_ble_eq_true rfl⟩
def PKm (y to : Nat) : Nat → Nat → Prop := (fun a j => (a = y ∧ (j = 9 ∨ j = 10)) ∨ (a = y + 5 ∧ to ≤ j ∧ j < to + 4))
theorem PZ_K {y to : Nat} {m m' : qM} (h : MF (PZ y) m m') : MF (PKm y to) m m' := h.mono (fun a j hp => Or.inl hp)
theorem PaM.k {m : qM} {y n k : Nat} {tx : Nat → Int32} {s : kP2} {v : Int32} (hp : PaM m y n tx s) : PaM (wI m (y + 5) k v) y n tx s := hp.mv (fun j _ => qI_wI_a _ _ _ _ (by omega)) (fun j => qI_wI_a _ _ _ _ (by omega))
set_option maxRecDepth 20000 in
set_option maxHeartbeats 4000000 in
theorem s_X8_numbers_l {E : qE} {X : qX} {Q : State → Prop} {g : qG} {m : qM} (hX : MC E yX8_numbers cX8_numbers 4 none 3 0 0 [] X) {y : Nat} (hs : ModS g m y) {n to many : Nat} {tx : Nat → Int32} (ht : to + 4 ≤ 244) (hm : many ≤ 3) : ∀ (r k : Nat) (s : kP2) (m1 : qM), k + r = many + 1 → 1 ≤ k → PaM m1 y n tx s → MF (PKm y to) m m1 → (∀ (w : Int32) (m2 : qM), PaM m2 y n tx (numsM tx n r s).2 ∧ MF (PKm y to) m m2 ∧ (∀ j, qI m2 (y + 5) j = if to + k ≤ j ∧ j < to + k + r then (numsM tx n r s).1.getD (j - (to + k)) 0 else qI m1 (y + 5) j) → WS E X 0 0 Q g m2 26 [some (.ref y), some (.int (nI to)), some (.int (nI many)), some (.int w)] []) → WS E X 0 0 Q g m1 2 [some (.ref y), some (.int (nI to)), some (.int (nI many)), some (.int (nI k))] [] := by
  intro r
  induction r with
  | zero =>
    intro k s m1 hk h1 hp hM K
    refine r_iload_n hX dX8_numbers_2 rfl ?_
    refine r_iload_n hX dX8_numbers_3 rfl ?_
    refine r_icmp_gt (tgt := 26) hX dX8_numbers_4 (by decide) (fun c4 => ?_) (fun c4 => ?_)
    · exact K _ m1 ⟨hp, hM, fun j => by rw [if_neg (by omega)]⟩
    · exact absurd (nI_lt (by omega) (by omega)) c4
  | succ r ih =>
    intro k s m1 hk h1 hp hM K
    refine r_iload_n hX dX8_numbers_2 rfl ?_
    refine r_iload_n hX dX8_numbers_3 rfl ?_
    refine r_icmp_gt (tgt := 26) hX dX8_numbers_4 (by decide) (fun c4 => ?_) (fun c4 => ?_)
    · exact absurd c4 (nI_nlt (by omega) (by omega))
    · refine r_aload_n hX dX8_numbers_7 rfl ?_
      refine r_getR hX dX8_numbers_8 hs.1.1 fl_X8_30 (hs.to hM.2).2.2.2.2.2.1 ?_
      refine r_iload_n hX dX8_numbers_11 rfl ?_
      refine r_iload_n hX dX8_numbers_12 rfl ?_
      refine r_iadd hX dX8_numbers_13 ?_
      rw [nI_add]
      refine r_aload_n hX dX8_numbers_14 rfl ?_
      refine r_iconst (v := 2) hX dX8_numbers_15 (by decide) ?_
      refine r_callV hX dX8_numbers_16 (s_X8_number E g m1 y (hs.to hM.2) n tx s hp 2 (by decide)) ml_X8_178 rfl rfl hs.1.1 rfl ⟨Nat.le_of_ble_eq_true rfl, Nat.le_of_ble_eq_true rfl⟩ ⟨Nat.le_of_ble_eq_true rfl, Nat.le_of_ble_eq_true rfl, rfl, Nat.le_of_ble_eq_true rfl⟩ (fun v16 g16 m16 hp => ?_)
      obtain ⟨hv, hg, hp16, hM16⟩ := hp
      subst v16
      subst g16
      refine r_iastoreN hX dX8_numbers_19 hs.1.2.2.2.2.2.1 (show to + k < 244 by omega) (by decide) ?_
      refine r_iinc (v := nI (k + 1)) hX dX8_numbers_20 rfl (ii1 k) rfl ?_
      refine r_goto (tgt := 2) hX dX8_numbers_23 (by decide) ?_
      refine ih (k + 1) _ _ (by omega) (by omega) (PaM.k hp16) ((hM.tr (PZ_K hM16)).wI (Or.inr ⟨rfl, by omega, by omega⟩)) (fun w m2 hm2 => K w m2 ⟨hm2.1, hm2.2.1, fun j => ?_⟩)
      rw [hm2.2.2]
      by_cases e1 : to + (k + 1) ≤ j ∧ j < to + (k + 1) + r
      · rw [if_pos e1, if_pos (by omega), show j - (to + k) = j - (to + (k + 1)) + 1 by omega]
        rfl
      · rw [if_neg e1, qI_wI]
        by_cases e2 : j = to + k
        · rw [if_pos ⟨rfl, e2⟩, if_pos (by omega), e2, Nat.sub_self]
          rfl
        · rw [if_neg (fun h => e2 h.2), if_neg (by omega)]
          exact hM16.1 _ _ (fun h => by unfold PZ at h; omega)
