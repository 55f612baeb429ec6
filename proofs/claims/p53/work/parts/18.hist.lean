/-! ===== CometObservatory.History: the history at h, its row at h + 1, its skies at h + 2 + 10 i ===== -/
/-- nothing is changed but in the cells of P -/
def OutP (P : Nat → Prop) (m m' : qM) : Prop := (∀ a j, ¬ P a → qI m' a j = qI m a j ∧ qR m' a j = qR m a j) ∧ m'.2.2 = m.2.2
theorem OutP.rf (P : Nat → Prop) (m : qM) : OutP P m m := ⟨fun _ _ _ => ⟨rfl, rfl⟩, rfl⟩
theorem OutP.tr {P : Nat → Prop} {m m1 m2 : qM} (h : OutP P m m1) (h2 : OutP P m1 m2) : OutP P m m2 := ⟨fun a j ha => ⟨(h2.1 a j ha).1.trans (h.1 a j ha).1, (h2.1 a j ha).2.trans (h.1 a j ha).2⟩, h2.2.trans h.2⟩
theorem OutP.mono {P P2 : Nat → Prop} {m m' : qM} (h : OutP P m m') (h1 : ∀ a, P a → P2 a) : OutP P2 m m' := ⟨fun a j ha => h.1 a j (fun q => ha (h1 a q)), h.2⟩
theorem OutP.of {q n : Nat} {m m' : qM} (h : Outs q n m m') : OutP (fun a => q ≤ a ∧ a < q + n) m m' := ⟨fun a j ha => h.1 a j (by omega), h.2⟩
theorem OutP.wI {P : Nat → Prop} {m m' : qM} (h : OutP P m m') {a k : Nat} {v : Int32} (ha : P a) : OutP P m (wI m' a k v) := ⟨fun b j hb => ⟨(qI_wI_a _ _ _ _ (fun e => hb (by rw [e]; exact ha))).trans (h.1 b j hb).1, (h.1 b j hb).2⟩, h.2⟩
theorem OutP.wR {P : Nat → Prop} {m m' : qM} (h : OutP P m m') {a k : Nat} {v : Option Nat} (ha : P a) : OutP P m (wR m' a k v) := ⟨fun b j hb => ⟨(h.1 b j hb).1, (qR_wR_a _ _ _ _ (fun e => hb (by rw [e]; exact ha))).trans (h.1 b j hb).2⟩, h.2⟩
theorem OutP.out {P : Nat → Prop} {q n : Nat} {m m' : qM} (h : OutP P m m') (h1 : ∀ a, P a → q ≤ a ∧ a < q + n) : Outs q n m m' := ⟨fun a j ha => h.1 a j (fun hp => by have := h1 a hp; omega), h.2⟩
theorem SkyIs.outP {g : qG} {m m' : qM} {q : Nat} {P : Nat → Prop} {S : kS} (h : SkyIs g m q S) (ho : OutP P m m') (hd : ∀ a, q ≤ a → a < q + 10 → ¬ P a) : SkyIs g m' q S := by
  obtain ⟨hs, ad, hr, h1, h2, h3, h4, h5⟩ := h
  obtain ⟨r1, r2, r3, r4, r5, r6⟩ := hr
  have e : ∀ a j, q ≤ a → a < q + 10 → qI m' a j = qI m a j ∧ qR m' a j = qR m a j := fun a j a1 a2 => ho.1 a j (hd a a1 a2)
  refine ⟨hs, ad, ⟨?_, ?_, ?_, fun i hi => ?_, r5, r6⟩, fun k hk => ?_, fun i k hi hk => ?_, fun j hj => ?_, ?_, ?_⟩
  · rw [(e q 0 (by omega) (by omega)).2]; exact r1
  · rw [(e q 1 (by omega) (by omega)).2]; exact r2
  · rw [(e (q + 8) 0 (by omega) (by omega)).2]; exact r3
  · rw [(e (q + 1) i (by omega) (by omega)).2]; exact r4 i hi
  · rw [(e q (k + 2) (by omega) (by omega)).1]; exact h1 k hk
  · have := r5 i hi
    rw [(e (ad i) k (by omega) (by omega)).1]; exact h2 i k hi hk
  · rw [(e (q + 9) j (by omega) (by omega)).1]; exact h3 j hj
  · rw [(e (q + 8) 1 (by omega) (by omega)).1]; exact h4
  · rw [(e (q + 8) 2 (by omega) (by omega)).1]; exact h5
/-- the states of the history by place, the oldest one's place, how many -/
abbrev kH : Type := (Nat → kS) × Nat × Nat
def HisIs (g : qG) (m : qM) (h : Nat) (T : kH) : Prop := gAt g h (.inl 5) ∧ qR m h 0 = some (h + 1) ∧ gAt g (h + 1) (.inr (6, 8)) ∧ (∀ i, i < 8 → qR m (h + 1) i = some (h + 2 + 10 * i) ∧ SkyIs g m (h + 2 + 10 * i) (T.1 i)) ∧ qI m h 1 = nI T.2.1 ∧ qI m h 2 = nI T.2.2 ∧ T.2.1 < 8 ∧ T.2.2 ≤ 8
theorem HisIs.outP {g : qG} {m m' : qM} {h : Nat} {P : Nat → Prop} {T : kH} (hh : HisIs g m h T) (ho : OutP P m m') (hd : ∀ a, h ≤ a → a < h + 82 → ¬ P a) : HisIs g m' h T := by
  obtain ⟨h1, h2, h3, h4, h5, h6, h7, h8⟩ := hh
  have e : ∀ a j, h ≤ a → a < h + 82 → qI m' a j = qI m a j ∧ qR m' a j = qR m a j := fun a j a1 a2 => ho.1 a j (hd a a1 a2)
  refine ⟨h1, (e _ _ (by omega) (by omega)).2.trans h2, h3, fun i hi => ⟨(e _ _ (by omega) (by omega)).2.trans (h4 i hi).1, (h4 i hi).2.outP ho (fun a a1 a2 => hd a (by omega) (by omega))⟩, (e _ _ (by omega) (by omega)).1.trans h5, (e _ _ (by omega) (by omega)).1.trans h6, h7, h8⟩
def pushH (T : kH) (S : kS) : kH := (fun i => if i = (T.2.1 + T.2.2) % 8 then S else T.1 i, if T.2.2 < 8 then T.2.1 else (T.2.1 + 1) % 8, if T.2.2 < 8 then T.2.2 + 1 else T.2.2)
theorem HisIs.lt8 {g : qG} {m : qM} {h : Nat} {T : kH} (hh : HisIs g m h T) : (T.2.1 + T.2.2) % 8 < 8 := Nat.mod_lt _ (by decide)
theorem push_fin {g : qG} {m m20 : qM} {h : Nat} {T : kH} {S : kS} (hh : HisIs g m h T) (hO : Outs (h + 2 + 10 * ((T.2.1 + T.2.2) % 8)) 10 m m20) (hS : SkyIs g m20 (h + 2 + 10 * ((T.2.1 + T.2.2) % 8)) S) :
    (T.2.2 < 8 → HisIs g (wI m20 h 2 (nI (T.2.2 + 1))) h (pushH T S)) ∧ (¬ T.2.2 < 8 → HisIs g (wI m20 h 1 (nI ((T.2.1 + 1) % 8))) h (pushH T S)) := by
  obtain ⟨h1, h2, h3, h4, h5, h6, h7, h8⟩ := hh
  have hm8 : (T.2.1 + T.2.2) % 8 < 8 := Nat.mod_lt _ (by decide)
  generalize hk : (T.2.1 + T.2.2) % 8 = k at *
  have e : ∀ (m' : qM) (j : Nat) (v : Int32), m' = wI m20 h j v → ∀ i, i < 8 → qR m' (h + 1) i = some (h + 2 + 10 * i) ∧ SkyIs g m' (h + 2 + 10 * i) ((pushH T S).1 i) := fun m' j v em i hi => by
    subst em
    refine ⟨by rw [qR_wI, (hO.1 _ _ (by omega)).2]; exact (h4 i hi).1, ?_⟩
    have o2 : Outs h 1 m20 (wI m20 h j v) := (Outs.rf h 1 m20).wI (by omega)
    unfold pushH
    simp only [hk]
    by_cases e : i = k
    · subst e
      rw [if_pos rfl]
      exact hS.out o2 (by omega)
    · rw [if_neg e]
      exact ((h4 i hi).2.out hO (by omega)).out o2 (by omega)
  refine ⟨fun hlt => ⟨h1, ?_, h3, e _ _ _ rfl, ?_, ?_, ?_, ?_⟩, fun hlt => ⟨h1, ?_, h3, e _ _ _ rfl, ?_, ?_, ?_, ?_⟩⟩
  · rw [qR_wI, (hO.1 _ _ (by omega)).2]; exact h2
  · rw [qI_wI_k _ _ _ _ (by decide), (hO.1 _ _ (by omega)).1, h5]; simp only [pushH]; rw [if_pos hlt]
  · rw [qI_wI_s]; simp only [pushH]; rw [if_pos hlt]
  · simp only [pushH]; rw [if_pos hlt]; exact h7
  · simp only [pushH]; rw [if_pos hlt]; omega
  · rw [qR_wI, (hO.1 _ _ (by omega)).2]; exact h2
  · rw [qI_wI_s]; simp only [pushH]; rw [if_neg hlt]
  · rw [qI_wI_k _ _ _ _ (by decide), (hO.1 _ _ (by omega)).1, h6]; simp only [pushH]; rw [if_neg hlt]
  · simp only [pushH]; rw [if_neg hlt]; exact Nat.mod_lt _ (by decide)
  · simp only [pushH]; rw [if_neg hlt]; exact h8
set_option maxRecDepth 20000 in
set_option maxHeartbeats 4000000 in
theorem s_X1_push (E : qE) (g : qG) (m : qM) (h q : Nat) (T : kH) (S : kS) (hh : HisIs g m h T) (hS : SkyIs g m q S) (hne : q + 10 ≤ h ∨ h + 82 ≤ q) : Sp E yX1_push cX1_push 2 none 2 0 0 [.ref h, .ref q] g m (fun v g' m' => v = none ∧ g' = g ∧ HisIs g m' h (pushH T S) ∧ Outs h 82 m m') := by
  have h5 := hh.2.2.2.2.1
  have h6 := hh.2.2.2.2.2.1
  have h7 := hh.2.2.2.2.2.2
  have hm8 : (T.2.1 + T.2.2) % 8 < 8 := Nat.mod_lt _ (by decide)
  refine Sp.of (by decide) [some (.ref h), some (.ref q)] rfl rfl (Nat.le_of_ble_eq_true rfl) (fun X hX => ?_)
  refine r_aload_n hX dX1_push_0 rfl ?_
  refine r_getR hX dX1_push_1 hh.1 fl_X1_11 hh.2.1 ?_
  refine r_aload_n hX dX1_push_4 rfl ?_
  refine r_getI hX dX1_push_5 hh.1 fl_X1_18 ?_
  rw [h5]
  refine r_aload_n hX dX1_push_8 rfl ?_
  refine r_getI hX dX1_push_9 hh.1 fl_X1_22 ?_
  rw [h6]
  refine r_iadd hX dX1_push_12 ?_
  refine r_bipush (v := 8) hX dX1_push_13 (by decide) ?_
  refine r_callS hX dX1_push_15 (s_floorMod E g m (nI T.2.1 + nI T.2.2) 8 (by decide)) ml_X1_25 rfl rfl ⟨Nat.le_of_ble_eq_true rfl, Nat.le_of_ble_eq_true rfl⟩ ⟨Nat.le_of_ble_eq_true rfl, Nat.le_of_ble_eq_true rfl, rfl, Nat.le_of_ble_eq_true rfl⟩ (fun v15 g15 m15 hp => ?_)
  obtain ⟨hv, hg, hm⟩ := hp
  subst v15
  subst g15
  subst m15
  rw [fmd8 (by omega)]
  refine r_aaload6N hX dX1_push_18 hh.2.2.1 hm8 (by decide) ((hh.2.2.2.1 _ hm8).1) ?_
  refine r_aload_n hX dX1_push_19 rfl ?_
  refine r_callV hX dX1_push_20 (s_X5_copyFrom E g m (h + 2 + 10 * ((T.2.1 + T.2.2) % 8)) q _ S (hh.2.2.2.1 _ hm8).2 hS (by omega)) ml_X1_31 rfl rfl (hh.2.2.2.1 _ hm8).2.1.1 rfl ⟨Nat.le_of_ble_eq_true rfl, Nat.le_of_ble_eq_true rfl⟩ ⟨Nat.le_of_ble_eq_true rfl, Nat.le_of_ble_eq_true rfl, rfl, Nat.le_of_ble_eq_true rfl⟩ (fun v20 g20 m20 hp => ?_)
  obtain ⟨hv, hg, hS2, hO2⟩ := hp
  subst v20
  subst g20
  have h5' : qI m20 h 1 = nI T.2.1 := (hO2.1 h 1 (by omega)).1.trans h5
  have h6' : qI m20 h 2 = nI T.2.2 := (hO2.1 h 2 (by omega)).1.trans h6
  have hO3 : Outs h 82 m m20 := hO2.mono (by omega)
  refine r_aload_n hX dX1_push_23 rfl ?_
  refine r_getI hX dX1_push_24 hh.1 fl_X1_22 ?_
  rw [h6']
  refine r_bipush (v := 8) hX dX1_push_27 (by decide) ?_
  refine r_icmp_ge (tgt := 45) hX dX1_push_29 (by decide) (fun c29 => ?_) (fun c29 => ?_)
  · refine r_aload_n hX dX1_push_45 rfl ?_
    refine r_aload_n hX dX1_push_46 rfl ?_
    refine r_getI hX dX1_push_47 hh.1 fl_X1_18 ?_
    rw [h5']
    refine r_iconst (v := 1) hX dX1_push_50 (by decide) ?_
    refine r_iadd hX dX1_push_51 ?_
    rw [show nI T.2.1 + 1 = nI (T.2.1 + 1) from nI_1 _]
    refine r_bipush (v := 8) hX dX1_push_52 (by decide) ?_
    refine r_callS hX dX1_push_54 (s_floorMod E g m20 (nI (T.2.1 + 1)) 8 (by decide)) ml_X1_25 rfl rfl ⟨Nat.le_of_ble_eq_true rfl, Nat.le_of_ble_eq_true rfl⟩ ⟨Nat.le_of_ble_eq_true rfl, Nat.le_of_ble_eq_true rfl, rfl, Nat.le_of_ble_eq_true rfl⟩ (fun v54 g54 m54 hp => ?_)
    obtain ⟨hv, hg, hm⟩ := hp
    subst v54
    subst g54
    subst m54
    rw [show fMod (nI (T.2.1 + 1)) 8 = nI ((T.2.1 + 1) % 8) from fMod_nI (b := 8) (by omega) (by decide) (by decide)]
    refine r_putI hX dX1_push_57 hh.1 fl_X1_18 ?_
    first
    | exact r_vret hX dX1_push_60 ⟨rfl, rfl, (push_fin hh hO2 hS2).1 (Nat.lt_of_not_le (fun hle => absurd (nI_le (a := 8) hle (by omega)) c29)), hO3.wI (by omega)⟩ ⟨Nat.le_of_ble_eq_true rfl, Nat.le_of_ble_eq_true rfl⟩
    | exact r_vret hX dX1_push_60 ⟨rfl, rfl, (push_fin hh hO2 hS2).2 (fun hlt => absurd c29 (nI_ge (b := 8) hlt (by decide))), hO3.wI (by omega)⟩ ⟨Nat.le_of_ble_eq_true rfl, Nat.le_of_ble_eq_true rfl⟩
  · refine r_aload_n hX dX1_push_32 rfl ?_
    refine r_dup hX dX1_push_33 rfl ?_
    refine r_getI hX dX1_push_34 hh.1 fl_X1_22 ?_
    rw [h6']
    refine r_iconst (v := 1) hX dX1_push_37 (by decide) ?_
    refine r_iadd hX dX1_push_38 ?_
    rw [show nI T.2.2 + 1 = nI (T.2.2 + 1) from nI_1 _]
    refine r_putI hX dX1_push_39 hh.1 fl_X1_22 ?_
    refine r_goto (tgt := 60) hX dX1_push_42 (by decide) ?_
    first
    | exact r_vret hX dX1_push_60 ⟨rfl, rfl, (push_fin hh hO2 hS2).1 (Nat.lt_of_not_le (fun hle => absurd (nI_le (a := 8) hle (by omega)) c29)), hO3.wI (by omega)⟩ ⟨Nat.le_of_ble_eq_true rfl, Nat.le_of_ble_eq_true rfl⟩
    | exact r_vret hX dX1_push_60 ⟨rfl, rfl, (push_fin hh hO2 hS2).2 (fun hlt => absurd c29 (nI_ge (b := 8) hlt (by decide))), hO3.wI (by omega)⟩ ⟨Nat.le_of_ble_eq_true rfl, Nat.le_of_ble_eq_true rfl⟩
def popH (T : kH) : kH := (T.1, T.2.1, T.2.2 - 1)
def topH (T : kH) : kS := T.1 ((T.2.1 + (T.2.2 - 1)) % 8)
set_option maxRecDepth 20000 in
set_option maxHeartbeats 4000000 in
theorem s_X1_init_l {E : qE} {X : qX} {Q : State → Prop} {g : qG} {m : qM} (hX : MC E yX1_init cX1_init 2 none 3 81 512 [] X) {h : Nat} (hq : gAt g h (.inl 5)) : ∀ (k i : Nat) (g1 : qG) (m1 : qM), i + k = 8 → (g1.2 = h + 2 + 10 * i ∧ (∀ a, a < h + 1 → g1.1 a = g.1 a) ∧ gAt g1 (h + 1) (.inr (6, 8)) ∧ (∀ j, j < i → qR m1 (h + 1) j = some (h + 2 + 10 * j) ∧ SkyIs g1 m1 (h + 2 + 10 * j) sky0) ∧ (∀ k, qI m1 h k = 0) ∧ qR m1 h 0 = some (h + 1) ∧ OutN h 82 m m1) → (∀ (j : Int32) (g2 : qG) (m2 : qM), (g2.2 = h + 2 + 10 * 8 ∧ (∀ a, a < h + 1 → g2.1 a = g.1 a) ∧ gAt g2 (h + 1) (.inr (6, 8)) ∧ (∀ j, j < 8 → qR m2 (h + 1) j = some (h + 2 + 10 * j) ∧ SkyIs g2 m2 (h + 2 + 10 * j) sky0) ∧ (∀ k, qI m2 h k = 0) ∧ qR m2 h 0 = some (h + 1) ∧ OutN h 82 m m2) → WS E X (1 + 80) (8 + 504) Q g2 m2 40 [some (.ref h), some (.int j)] []) → WS E X (1 + 10 * i) (8 + 63 * i) Q g1 m1 15 [some (.ref h), some (.int (nI i))] [] := by
  intro k
  induction k with
  | zero =>
    intro i g1 m1 hi hm1 K
    have hib : i = 8 := by omega
    subst hib
    obtain ⟨h1, h2, h3, h4, h5, h6, h7⟩ := hm1
    refine r_iload_n hX dX1_init_15 rfl ?_
    refine r_bipush (v := 8) hX dX1_init_16 (by decide) ?_
    refine r_icmp_ge (tgt := 40) hX dX1_init_18 (by decide) (fun c18 => ?_) (fun c18 => ?_)
    · exact K _ _ _ ⟨h1, h2, h3, h4, h5, h6, h7⟩
    · exact absurd (by decide) c18
  | succ k ih =>
    intro i g1 m1 hi hm1 K
    have hi6 : i < 8 := by omega
    obtain ⟨h1, h2, h3, h4, h5, h6, h7⟩ := hm1
    refine r_iload_n hX dX1_init_15 rfl ?_
    refine r_bipush (v := 8) hX dX1_init_16 (by decide) ?_
    refine r_icmp_ge (tgt := 40) hX dX1_init_18 (by decide) (fun c18 => ?_) (fun c18 => ?_)
    · exact absurd c18 (nI_ge (b := 8) (by omega) (by omega))
    · refine r_aload_n hX dX1_init_21 rfl ?_
      refine r_getR hX dX1_init_22 ((h2 h (by omega)).trans hq) fl_X1_11 h6 ?_
      refine r_iload_n hX dX1_init_25 rfl ?_
      refine r_new hX dX1_init_26 nl_X1_9 (by omega) (by omega) ?_
      rw [h1]
      refine r_dup hX dX1_init_29 rfl ?_
      refine r_callI hX dX1_init_30 (s_X5_init E (gNew g1 (.inl 8)) (wZ m1 (h + 2 + 10 * i)) (h + 2 + 10 * i) (by have := gNew_at g1 (.inl 8); rwa [h1] at this) (by show g1.2 + 1 = _; rw [h1]) (fun k => qI_wZ_s _ _ _)) ml_X1_17 rfl rfl ⟨Nat.le_of_ble_eq_true rfl, Nat.le_of_ble_eq_true rfl⟩ ⟨by omega, by omega, rfl, by exact Nat.le_of_ble_eq_true rfl⟩ (fun v30 g30 m30 hp => ?_)
      obtain ⟨hv, hg, hS2, hO2⟩ := hp
      subst v30
      subst g30
      have go : ∀ a, a < h + 2 + 10 * i → (gSky (gNew g1 (.inl 8))).1 a = g1.1 a := fun a ha => (gSky_old (by show a < g1.2 + 1; omega)).trans (if_neg (by omega))
      refine r_aastore6N hX dX1_init_33 ((go _ (by omega)).trans h3) hi6 (by decide) hS2.1.1 ?_
      refine r_iinc (v := nI (i + 1)) hX dX1_init_34 rfl (ii1 i) rfl ?_
      refine r_goto (tgt := 15) hX dX1_init_37 (by decide) ?_
      have o9 : OutN (h + 2 + 10 * i) 10 m1 m30 := ((OutN.rf _ 10 m1).wZ (by omega)).tr hO2
      have o8 : OutN h 82 m m30 := h7.tr (o9.mono (by omega))
      have K9 := ih (i + 1) (gSky (gNew g1 (.inl 8))) (wR m30 (h + 1) i (some (h + 2 + 10 * i))) (by omega) ⟨?_, fun a ha => (go a (by omega)).trans (h2 a ha), (go _ (by omega)).trans h3, fun j hj => ?_, fun k => ?_, ?_, o8.wR (by omega)⟩ K
      · exact K9
      · rw [gSky_sz (q := h + 2 + 10 * i) (by show g1.2 + 1 = _; rw [h1])]
        omega
      · by_cases e : j = i
        · subst e
          exact ⟨qR_wR_s _ _ _ _, hS2.outN (((OutN.rf (h + 1) 1 _).wR (by omega))) (by omega) (fun _ _ _ => rfl)⟩
        · have := h4 j (by omega)
          exact ⟨by rw [qR_wR_k _ _ _ _ e, o9.R (by omega)]; exact this.1, (this.2.outN o9 (by omega) (fun a a1 a2 => go a (by omega))).outN (((OutN.rf (h + 1) 1 _).wR (by omega))) (by omega) (fun _ _ _ => rfl)⟩
      · rw [qI_wR, o9.I (by omega)]; exact h5 k
      · rw [qR_wR_a _ _ _ _ (by omega), o9.R (by omega)]; exact h6
set_option maxRecDepth 20000 in
set_option maxHeartbeats 4000000 in
theorem s_X1_init (E : qE) (g : qG) (m : qM) (h : Nat) (hq : gAt g h (.inl 5)) (hg : g.2 = h + 1) (hz : ∀ k, qI m h k = 0) : Sp E yX1_init cX1_init 2 none 3 81 512 [.ref h] g m (fun v g' m' => v = none ∧ g'.2 = h + 82 ∧ (∀ a, a < h + 1 → g'.1 a = g.1 a) ∧ HisIs g' m' h (fun _ => sky0, 0, 0) ∧ OutN h 82 m m') := by
  refine Sp.of (by decide) [some (.ref h), none] rfl rfl (Nat.le_of_ble_eq_true rfl) (fun X hX => ?_)
  refine r_aload_n hX dX1_init_0 rfl ?_
  refine r_objInit hX dX1_init_1 mo_X1_3 ⟨Nat.le_of_ble_eq_true rfl, rfl, Nat.le_of_ble_eq_true rfl⟩ ?_
  refine r_aload_n hX dX1_init_4 rfl ?_
  refine r_bipush (v := 8) hX dX1_init_5 (by decide) ?_
  refine r_anewa (t := 6) (n := 8) hX dX1_init_7 ⟨⟨List.mem_of_getElem? (i := 168) (by decide +kernel), by decide +kernel⟩, ⟨List.mem_of_getElem? (i := 169) (by decide +kernel), by decide +kernel⟩⟩ ⟨by decide, by decide, rfl⟩ ⟨by decide, by decide, by decide⟩ (Nat.le_of_ble_eq_true rfl) (Nat.le_of_ble_eq_true rfl) ?_
  rw [hg]
  refine r_putFR hX dX1_init_10 (gNew_old hq (by omega)) ff_X1_11 rfl rfl rfl ?_
  refine r_iconst (v := 0) hX dX1_init_13 (by decide) ?_
  refine r_istore_n hX dX1_init_14 (Nat.le_of_ble_eq_true rfl) rfl ?_
  refine s_X1_init_l hX hq 8 0 _ _ rfl ⟨by show g.2 + 1 = _; rw [hg], fun a ha => if_neg (by omega), by have := gNew_at g (.inr (6, 8)); rwa [hg] at this, fun j hj => absurd hj (by omega), fun k => ?_, qR_wR_s _ _ _ _, ((OutN.rf h 82 m).wZ (by omega)).wR (by omega)⟩ (fun j g2 m2 hm2 => ?_)
  · rw [qI_wR, qI_wZ_a _ _ (by omega)]; exact hz k
  obtain ⟨h1, h2, h3, h4, h5, h6, h7⟩ := hm2
  exact r_vret hX dX1_init_40 ⟨rfl, h1, h2, ⟨(h2 h (by omega)).trans hq, h6, h3, h4, h5 1, h5 2, (by decide : 0 < 8), (by decide : 0 ≤ 8)⟩, h7⟩ ⟨Nat.le_of_ble_eq_true rfl, Nat.le_of_ble_eq_true rfl⟩
