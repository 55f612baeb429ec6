/-! ===== CometObservatory.Telescope: aim ===== -/
abbrev kU : Type := (Nat → kP) × Nat
def insU (s : kU) (p : kP) : kU := (insT s.1 s.2 p, s.2 + 1)
/-- the passes of a comet with the period p, from the one on day f with brightness w on, that end by day D -/
def aimC (D p : Nat) : Nat → Nat → kU → kU
  | 0, _, s => s
  | w + 1, f, s => if f ≤ D then aimC D p w (f + p) (if f + (w + 1) / 5 ≤ D then insU s (f, f + (w + 1) / 5, w + 1) else s) else s
/-- the passes of the first comets, each by period, brightness and first day -/
def aimA (D : Nat) (C : Nat → Nat × Nat × Nat) : Nat → kU
  | 0 => (fun _ => (0, 0, 0), 0)
  | i + 1 => aimC D (C i).1 (C i).2.1 (C i).2.2 (aimA D C i)
def okU (D : Nat) (s : kU) : Prop := ∀ i, i < s.2 → 1 ≤ (s.1 i).1 ∧ (s.1 i).1 ≤ (s.1 i).2.1 ∧ (s.1 i).2.1 ≤ D ∧ (s.1 i).2.2 ≤ 20
theorem okU_ins {D : Nat} {s : kU} {p : kP} (h : okU D s) (hp : 1 ≤ p.1 ∧ p.1 ≤ p.2.1 ∧ p.2.1 ≤ D ∧ p.2.2 ≤ 20) : okU D (insU s p) := by
  intro i hi
  have hi : i < s.2 + 1 := hi
  have hsl := slotT_le s.1 p.2.1 s.2
  unfold insU insT
  by_cases h1 : i < slotT s.1 p.2.1 s.2
  · simp only [if_pos h1]
    exact h i (by omega)
  · by_cases h2 : i = slotT s.1 p.2.1 s.2
    · simp only [if_neg h1, if_pos h2]
      exact hp
    · simp only [if_neg h1, if_neg h2]
      exact h (i - 1) (by omega)
theorem aimC_n (D p : Nat) : ∀ (w f : Nat) (s : kU), (aimC D p w f s).2 ≤ s.2 + w
  | 0, _, s => Nat.le_refl _
  | w + 1, f, s => by
    have h1 := aimC_n D p w (f + p) (insU s (f, f + (w + 1) / 5, w + 1))
    have h2 := aimC_n D p w (f + p) s
    have h3 : (insU s (f, f + (w + 1) / 5, w + 1)).2 = s.2 + 1 := rfl
    unfold aimC
    split
    · split <;> omega
    · omega
theorem aimC_ok {D p : Nat} : ∀ (w f : Nat) (s : kU), okU D s → w ≤ 20 → 1 ≤ f → okU D (aimC D p w f s)
  | 0, _, s, h, _, _ => h
  | w + 1, f, s, h, hw, hf => by
    unfold aimC
    split
    · split
      · exact aimC_ok w (f + p) _ (okU_ins h ⟨hf, by show f ≤ f + (w + 1) / 5; omega, by assumption, hw⟩) (by omega) (by omega)
      · exact aimC_ok w (f + p) _ h (by omega) (by omega)
    · exact h
theorem aimA_n {D : Nat} {C : Nat → Nat × Nat × Nat} {n : Nat} (h : ∀ i, i < n → (C i).2.1 ≤ 20) : ∀ i, i ≤ n → (aimA D C i).2 ≤ 20 * i
  | 0, _ => Nat.le_refl 0
  | i + 1, hi => by
    have h1 := aimA_n (D := D) h i (by omega)
    have h2 := aimC_n D (C i).1 (C i).2.1 (C i).2.2 (aimA D C i)
    have h3 := h i (by omega)
    show (aimC D (C i).1 (C i).2.1 (C i).2.2 (aimA D C i)).2 ≤ _
    omega
theorem aimA_ok {D : Nat} {C : Nat → Nat × Nat × Nat} {n : Nat} (h : ∀ i, i < n → (C i).2.1 ≤ 20 ∧ 1 ≤ (C i).2.2) : ∀ i, i ≤ n → okU D (aimA D C i)
  | 0, _ => fun _ h => absurd h (Nat.not_lt_zero _)
  | i + 1, hi => aimC_ok _ _ _ (aimA_ok h i (by omega)) (h i (by omega)).1 (h i (by omega)).2
set_option maxRecDepth 20000 in
set_option maxHeartbeats 4000000 in
theorem s_X6_aim_i {E : qE} {X : qX} {Q : State → Prop} {g : qG} {m : qM} (hX : MC E yX6_aim cX6_aim 8 none 2 0 0 [] X) {t q D i c p : Nat} (hs : TelS g m t) (hc : gAt g c (.inl 4)) (hcp : qI m c 1 = nI p) (hct : c < t ∨ t + 4 ≤ c) (hp : p ≤ 60) (hD : D ≤ 60) : ∀ (w f : Nat) (s : kU) (m1 : qM) (z : Option Value), w ≤ 20 → s.2 + w ≤ 120 → 1 ≤ f → f + 60 * w < 2 ^ 30 → okU D s → (TelT m1 t (s).1 (s).2 ∧ m1.2 = m.2 ∧ Outs t 4 m m1) → (∀ (a b : Int32) (z : Option Value) (m2 : qM), (TelT m2 t (aimC D p w f s).1 (aimC D p w f s).2 ∧ m2.2 = m.2 ∧ Outs t 4 m m2) → WS E X 0 0 Q g m2 97 [some (.ref t), some (.ref q), some (.int (nI D)), some (.int (nI i)), some (.ref c), some (.int a), some (.int b), z] []) → WS E X 0 0 Q g m1 42 [some (.ref t), some (.ref q), some (.int (nI D)), some (.int (nI i)), some (.ref c), some (.int (nI f)), some (.int (nI w)), z] [] := by
  intro w
  induction w with
  | zero =>
    intro f s m1 z hw hs1 hf hf2 hok hm1 K
    refine r_iload hX dX6_aim_42 rfl ?_
    refine r_if_le (tgt := 97) hX dX6_aim_44 (by decide) (fun c44 => ?_) (fun c44 => ?_)
    · exact K _ _ _ _ hm1
    · exact absurd (show nI 0 ≤ 0 from Int32.le_refl _) c44
  | succ w ih =>
    intro f s m1 z hw hs1 hf hf2 hok hm1 K
    have hA : aimC D p (w + 1) f s = if f ≤ D then aimC D p w (f + p) (if f + (w + 1) / 5 ≤ D then insU s (f, f + (w + 1) / 5, w + 1) else s) else s := rfl
    refine r_iload hX dX6_aim_42 rfl ?_
    refine r_if_le (tgt := 97) hX dX6_aim_44 (by decide) (fun c44 => ?_) (fun c44 => ?_)
    · exact absurd c44 (show ¬ nI (w + 1) ≤ nI 0 from nI_ge (by omega) (by omega))
    · refine r_iload hX dX6_aim_47 rfl ?_
      refine r_iload_n hX dX6_aim_49 rfl ?_
      refine r_icmp_gt (tgt := 97) hX dX6_aim_50 (by decide) (fun c50 => ?_) (fun c50 => ?_)
      · exact K _ _ _ _ (by rw [hA, if_neg (fun h => absurd c50 (Int32.not_lt.mpr (nI_le h (by omega))))]; exact hm1)
      · refine r_iload hX dX6_aim_53 rfl ?_
        refine r_iload hX dX6_aim_55 rfl ?_
        refine r_callS hX dX6_aim_57 (s_X7_tailAt E g m1 (nI (w + 1))) ml_X6_52 rfl rfl ⟨Nat.le_of_ble_eq_true rfl, Nat.le_of_ble_eq_true rfl⟩ ⟨Nat.le_of_ble_eq_true rfl, Nat.le_of_ble_eq_true rfl, rfl, Nat.le_of_ble_eq_true rfl⟩ (fun v57 g57 m57 hp => ?_)
        obtain ⟨hv, hg, hm⟩ := hp
        subst v57
        subst g57
        subst m57
        rw [show nI (w + 1) / 5 = nI ((w + 1) / 5) from pk_div (d := 5) (by omega) (by decide) (by decide), show 1 + nI ((w + 1) / 5) = nI (1 + (w + 1) / 5) from nI_add 1 _]
        refine r_iadd hX dX6_aim_60 ?_
        rw [nI_add]
        refine r_iconst (v := 1) hX dX6_aim_61 (by decide) ?_
        refine r_isub hX dX6_aim_62 ?_
        rw [show nI (f + (1 + (w + 1) / 5)) - 1 = nI (f + (w + 1) / 5) from (pk_sub (b := 1) (by omega)).trans (congrArg nI (by omega))]
        refine r_istore hX dX6_aim_63 (Nat.le_of_ble_eq_true rfl) rfl ?_
        refine r_iload hX dX6_aim_65 rfl ?_
        refine r_iload_n hX dX6_aim_67 rfl ?_
        refine r_icmp_gt (tgt := 81) hX dX6_aim_68 (by decide) (fun c68 => ?_) (fun c68 => ?_)
        · refine r_iload hX dX6_aim_81 rfl ?_
          refine r_aload hX dX6_aim_83 rfl ?_
          refine r_getI hX dX6_aim_85 hc fl_X6_60 ?_
          first
          | rw [hcp2, (hm1.2.2.1 c 1 (by omega)).1, hcp]
          | rw [(hm1.2.2.1 c 1 (by omega)).1, hcp]
          refine r_iadd hX dX6_aim_88 ?_
          rw [nI_add]
          refine r_istore hX dX6_aim_89 (Nat.le_of_ble_eq_true rfl) rfl ?_
          refine r_iinc (v := nI w) hX dX6_aim_91 rfl (iim1 w) rfl ?_
          refine r_goto (tgt := 42) hX dX6_aim_94 (by decide) ?_
          have hfD : f ≤ D := Nat.le_of_not_lt (fun h => c50 (nI_lt h (by omega)))
          rw [hA, if_pos hfD] at K
          first
          | rw [if_neg (fun h => absurd c68 (Int32.not_lt.mpr (nI_le h (by omega))))] at K
            exact ih (f + p) s _ _ (by omega) (by omega) (by omega) (by omega) hok hm1 K
          | rw [if_pos hl] at K
            exact ih (f + p) _ _ _ (by omega) (by show s.2 + 1 + w ≤ 120; omega) (by omega) (by omega) (okU_ins hok ⟨hf, by show f ≤ f + (w + 1) / 5; omega, hl, hw⟩) ⟨hT2, hM2.trans hm1.2.1, hm1.2.2.tr hO2⟩ K
        · have hl : f + (w + 1) / 5 ≤ D := Nat.le_of_not_lt (fun h => c68 (nI_lt h (by omega)))
          have hfD2 : f ≤ D := by omega
          refine r_aload_n hX dX6_aim_71 rfl ?_
          refine r_iload hX dX6_aim_72 rfl ?_
          refine r_iload hX dX6_aim_74 rfl ?_
          refine r_iload hX dX6_aim_76 rfl ?_
          refine r_callV hX dX6_aim_78 (s_X6_insert E g m1 t s.2 s.1 (f, f + (w + 1) / 5, w + 1) hm1.1 (hs.to hm1.2.1) (by omega) (fun i hi => by have := hok i hi; omega) (by show f + (w + 1) / 5 < 2 ^ 31; omega)) ml_X6_56 rfl rfl hs.1.1 rfl ⟨Nat.le_of_ble_eq_true rfl, Nat.le_of_ble_eq_true rfl⟩ ⟨Nat.le_of_ble_eq_true rfl, Nat.le_of_ble_eq_true rfl, rfl, Nat.le_of_ble_eq_true rfl⟩ (fun v78 g78 m78 hp => ?_)
          obtain ⟨hv, hg, hT2, hM2, hO2⟩ := hp
          subst v78
          subst g78
          have hcp2 := (hO2.1 c 1 (by omega)).1
          refine r_iload hX dX6_aim_81 rfl ?_
          refine r_aload hX dX6_aim_83 rfl ?_
          refine r_getI hX dX6_aim_85 hc fl_X6_60 ?_
          first
          | rw [hcp2, (hm1.2.2.1 c 1 (by omega)).1, hcp]
          | rw [(hm1.2.2.1 c 1 (by omega)).1, hcp]
          refine r_iadd hX dX6_aim_88 ?_
          rw [nI_add]
          refine r_istore hX dX6_aim_89 (Nat.le_of_ble_eq_true rfl) rfl ?_
          refine r_iinc (v := nI w) hX dX6_aim_91 rfl (iim1 w) rfl ?_
          refine r_goto (tgt := 42) hX dX6_aim_94 (by decide) ?_
          have hfD : f ≤ D := Nat.le_of_not_lt (fun h => c50 (nI_lt h (by omega)))
          rw [hA, if_pos hfD] at K
          first
          | rw [if_neg (fun h => absurd c68 (Int32.not_lt.mpr (nI_le h (by omega))))] at K
            exact ih (f + p) s _ _ (by omega) (by omega) (by omega) (by omega) hok hm1 K
          | rw [if_pos hl] at K
            exact ih (f + p) _ _ _ (by omega) (by show s.2 + 1 + w ≤ 120; omega) (by omega) (by omega) (okU_ins hok ⟨hf, by show f ≤ f + (w + 1) / 5; omega, hl, hw⟩) ⟨hT2, hM2.trans hm1.2.1, hm1.2.2.tr hO2⟩ K
set_option maxRecDepth 20000 in
set_option maxHeartbeats 4000000 in
theorem s_X6_aim_o {E : qE} {X : qX} {Q : State → Prop} {g : qG} {m : qM} (hX : MC E yX6_aim cX6_aim 8 none 2 0 0 [] X) {t q D n : Nat} {S : kS} {C : Nat → Nat × Nat × Nat} {ad : Nat → Nat} (hs : TelS g m t) (hk : SkySh g q) (hr : SkyR m q ad) (hV : SkyV m q ad S) (hc : S.1 0 = nI n ∧ n ≤ 6) (hD : D ≤ 60) (hqt : q + 10 ≤ t ∨ t + 4 ≤ q) (hC : ∀ i, i < n → S.2.1 i 1 = nI (C i).1 ∧ S.2.1 i 2 = nI (C i).2.1 ∧ S.2.1 i 3 - S.1 2 = nI (C i).2.2) (hCb : ∀ i, i < n → (C i).1 ≤ 60 ∧ (C i).2.1 ≤ 20 ∧ 1 ≤ (C i).2.2 ∧ (C i).2.2 < 2 ^ 29) : ∀ (k i : Nat) (m1 : qM) (z4 z5 z6 z7 : Option Value), i + k = n → (TelT m1 t (aimA D C i).1 (aimA D C i).2 ∧ m1.2 = m.2 ∧ Outs t 4 m m1) → (∀ (a : Int32) (z4 z5 z6 z7 : Option Value) (m2 : qM), (TelT m2 t (aimA D C n).1 (aimA D C n).2 ∧ m2.2 = m.2 ∧ Outs t 4 m m2) → WS E X 0 0 Q g m2 103 [some (.ref t), some (.ref q), some (.int (nI D)), some (.int a), z4, z5, z6, z7] []) → WS E X 0 0 Q g m1 7 [some (.ref t), some (.ref q), some (.int (nI D)), some (.int (nI i)), z4, z5, z6, z7] [] := by
  intro k
  induction k with
  | zero =>
    intro i m1 z4 z5 z6 z7 hi hm1 K
    have hib : i = n := by omega
    subst hib
    have hcn : qI m1 q 2 = nI i := ((hm1.2.2.1 q 2 (by omega)).1.trans (hV.h 0 (by decide))).trans hc.1
    refine r_iload_n hX dX6_aim_7 rfl ?_
    refine r_aload_n hX dX6_aim_8 rfl ?_
    refine r_getI hX dX6_aim_9 hk.1 fl_X6_34 ?_
    rw [hcn]
    refine r_icmp_ge (tgt := 103) hX dX6_aim_12 (by decide) (fun c12 => ?_) (fun c12 => ?_)
    · exact K _ _ _ _ _ _ hm1
    · exact absurd (nI_le (Nat.le_refl _) (by omega)) c12
  | succ k ih =>
    intro i m1 z4 z5 z6 z7 hi hm1 K
    have hi1 : i < n := by omega
    have hi6 : i < 6 := by omega
    obtain ⟨C1, C2, C3⟩ := hC i hi1
    obtain ⟨B1, B2, B3, B4⟩ := hCb i hi1
    have h5 := hr.2.2.2.2.1 i hi6
    have hcn : qI m1 q 2 = nI n := ((hm1.2.2.1 q 2 (by omega)).1.trans (hV.h 0 (by decide))).trans hc.1
    have hq0 : qR m1 q 0 = some (q + 1) := ((hm1.2.2.1 q 0 (by omega)).2).trans hr.1
    have hn0 := aimA_n (D := D) (fun i hi => (hCb i hi).2.1) i (by omega)
    have hok0 := aimA_ok (D := D) (fun i hi => ⟨(hCb i hi).2.1, (hCb i hi).2.2.1⟩) i (by omega)
    refine r_iload_n hX dX6_aim_7 rfl ?_
    refine r_aload_n hX dX6_aim_8 rfl ?_
    refine r_getI hX dX6_aim_9 hk.1 fl_X6_34 ?_
    rw [hcn]
    refine r_icmp_ge (tgt := 103) hX dX6_aim_12 (by decide) (fun c12 => ?_) (fun c12 => ?_)
    · exact absurd c12 (nI_ge (by omega) (by omega))
    · refine r_aload_n hX dX6_aim_15 rfl ?_
      refine r_getR hX dX6_aim_16 hk.1 fl_X6_37 hq0 ?_
      refine r_iload_n hX dX6_aim_19 rfl ?_
      refine r_aaload5N hX dX6_aim_20 hk.2.1 hi6 (by decide) (((hm1.2.2.1 (q + 1) i (by omega)).2).trans (hr.2.2.2.1 i hi6)) ?_
      refine r_astore hX dX6_aim_21 (Nat.le_of_ble_eq_true rfl) rfl ?_
      refine r_aload hX dX6_aim_23 rfl ?_
      refine r_getI hX dX6_aim_25 (adAt hk hr hi6) fl_X6_41 ?_
      rw [((hm1.2.2.1 (ad i) 3 (by omega)).1.trans (hV.c i 3 hi6 (by decide)))]
      refine r_aload_n hX dX6_aim_28 rfl ?_
      refine r_getI hX dX6_aim_29 hk.1 fl_X6_46 ?_
      rw [((hm1.2.2.1 q 4 (by omega)).1.trans (hV.h 2 (by decide)))]
      refine r_isub hX dX6_aim_32 ?_
      rw [C3]
      refine r_istore hX dX6_aim_33 (Nat.le_of_ble_eq_true rfl) rfl ?_
      refine r_aload hX dX6_aim_35 rfl ?_
      refine r_getI hX dX6_aim_37 (adAt hk hr hi6) fl_X6_49 ?_
      rw [((hm1.2.2.1 (ad i) 2 (by omega)).1.trans (hV.c i 2 hi6 (by decide))), C2]
      refine r_istore hX dX6_aim_40 (Nat.le_of_ble_eq_true rfl) rfl ?_
      refine s_X6_aim_i (i := i) (D := D) (p := (C i).1) hX hs (adAt hk hr hi6) ((hV.c i 1 hi6 (by decide)).trans C1) (by omega) (by omega) hD (C i).2.1 (C i).2.2 (aimA D C i) m1 _ (by omega) (by omega) (by omega) (by omega) hok0 hm1 (fun a b z m2 hm2 => ?_)
      refine r_iinc (v := nI (i + 1)) hX dX6_aim_97 rfl (ii1 i) rfl ?_
      refine r_goto (tgt := 7) hX dX6_aim_100 (by decide) ?_
      exact ih (i + 1) m2 _ _ _ _ (by omega) hm2 K
set_option maxRecDepth 20000 in
set_option maxHeartbeats 4000000 in
theorem s_X6_aim (E : qE) (g : qG) (m : qM) (t q D n : Nat) (S : kS) (C : Nat → Nat × Nat × Nat) (hs : TelS g m t) (hS : SkyIs g m q S) (hc : S.1 0 = nI n ∧ n ≤ 6) (hD : D ≤ 60) (hqt : q + 10 ≤ t ∨ t + 4 ≤ q) (hC : ∀ i, i < n → S.2.1 i 1 = nI (C i).1 ∧ S.2.1 i 2 = nI (C i).2.1 ∧ S.2.1 i 3 - S.1 2 = nI (C i).2.2) (hCb : ∀ i, i < n → (C i).1 ≤ 60 ∧ (C i).2.1 ≤ 20 ∧ 1 ≤ (C i).2.2 ∧ (C i).2.2 < 2 ^ 29) : Sp E yX6_aim cX6_aim 8 none 2 0 0 [.ref t, .ref q, .int (nI D)] g m (fun v g' m' => v = none ∧ g' = g ∧ TelT m' t (aimA D C n).1 (aimA D C n).2 ∧ m'.2 = m.2 ∧ Outs t 4 m m') := by
  obtain ⟨hk, ad, hr, hV⟩ := hS
  refine Sp.of (by decide) [some (.ref t), some (.ref q), some (.int (nI D)), none, none, none, none, none] rfl rfl (Nat.le_of_ble_eq_true rfl) (fun X hX => ?_)
  refine r_aload_n hX dX6_aim_0 rfl ?_
  refine r_iconst (v := 0) hX dX6_aim_1 (by decide) ?_
  refine r_putI hX dX6_aim_2 hs.1.1 fl_X6_30 ?_
  refine r_iconst (v := 0) hX dX6_aim_5 (by decide) ?_
  refine r_istore_n hX dX6_aim_6 (Nat.le_of_ble_eq_true rfl) rfl ?_
  have hV1 : SkyV (wI m t 6 0) q ad S := by
    obtain ⟨v1, v2, v3, v4, v5⟩ := hV
    have h5 := hr.2.2.2.2.1
    refine ⟨fun k hk => ?_, fun j k hj hk => ?_, fun j hj => ?_, ?_, ?_⟩
    · rw [qI_wI_a _ _ _ _ (by omega)]; exact v1 k hk
    · have := h5 j hj
      rw [qI_wI_a _ _ _ _ (by omega)]; exact v2 j k hj hk
    · rw [qI_wI_a _ _ _ _ (by omega)]; exact v3 j hj
    · rw [qI_wI_a _ _ _ _ (by omega)]; exact v4
    · rw [qI_wI_a _ _ _ _ (by omega)]; exact v5
  refine s_X6_aim_o (m := wI m t 6 0) hX (hs.to rfl) hk (hr.to rfl) hV1 hc hD hqt hC hCb n 0 _ _ _ _ _ (Nat.zero_add n) ⟨⟨qI_wI_s _ _ _ _, Nat.zero_le 120, fun i hi => absurd hi (Nat.not_lt_zero i)⟩, rfl, Outs.rf _ _ _⟩ (fun a z4 z5 z6 z7 m1 hm1 => ?_)
  exact r_vret hX dX6_aim_103 ⟨rfl, rfl, hm1.1, hm1.2.1, ((Outs.rf t 4 m).wI (by omega)).tr hm1.2.2⟩ ⟨Nat.le_of_ble_eq_true rfl, Nat.le_of_ble_eq_true rfl⟩
def gTel (g : qG) : qG := gNew (gNew (gNew (gNew (gNew (gNew g (.inr (0, 120))) (.inr (0, 120))) (.inr (0, 120))) (.inr (0, 121))) (.inr (0, 62))) (.inr (0, 62))
def telSh6 : Nat → qSh
  | 3 => .inr (0, 121)
  | 4 => .inr (0, 62)
  | 5 => .inr (0, 62)
  | _ => .inr (0, 120)
theorem gT_at (g : qG) {t j : Nat} (hg : g.2 = t + 1) (hj : j < 6) : gAt (gTel g) (t + 1 + j) (telSh6 j) := by
  unfold gTel gAt gNew
  simp only
  rcases j with _ | _ | _ | _ | _ | _ | j
  all_goals first | omega | skip
  all_goals
    repeat (first | rw [if_pos (by omega)] | rw [if_neg (by omega)])
    try rfl
theorem gTel_sz (g : qG) : (gTel g).2 = g.2 + 6 := rfl
theorem gTel_old {g : qG} {a : Nat} (h : a < g.2) : (gTel g).1 a = g.1 a := by
  unfold gTel gNew
  simp only
  rw [if_neg (by omega), if_neg (by omega), if_neg (by omega), if_neg (by omega), if_neg (by omega), if_neg (by omega)]
set_option maxRecDepth 20000 in
set_option maxHeartbeats 4000000 in
theorem s_X6_init (E : qE) (g : qG) (m : qM) (t : Nat) (ht : gAt g t (.inl 9)) (hg : g.2 = t + 1) : Sp E yX6_init cX6_init 1 none 1 6 605 [.ref t] g m (fun v g' m' => v = none ∧ g' = gTel g ∧ TelS g' m' t ∧ OutN t 7 m m' ∧ (∀ k, qI m' t k = qI m t k)) := by
  refine Sp.of (by decide) [some (.ref t)] rfl rfl (Nat.le_of_ble_eq_true rfl) (fun X hX => ?_)
  refine r_aload_n hX dX6_init_0 rfl ?_
  refine r_objInit hX dX6_init_1 mo_X6_3 ⟨Nat.le_of_ble_eq_true rfl, rfl, Nat.le_of_ble_eq_true rfl⟩ ?_
  refine r_aload_n hX dX6_init_4 rfl ?_
  refine r_bipush (v := 120) hX dX6_init_5 (by decide) ?_
  refine r_newa (t := 0) (n := 120) hX dX6_init_7 ⟨List.mem_of_getElem? (i := 124) (by decide +kernel), by decide +kernel⟩ ⟨by decide, rfl⟩ ⟨by decide, by decide, by decide⟩ (Nat.le_of_ble_eq_true rfl) (Nat.le_of_ble_eq_true rfl) ?_
  rw [show g.2 = t + 1 by show g.2 = _; omega]
  refine r_putFR hX dX6_init_9 (gNew_old ht (by show t < g.2 ; omega)) ff_X6_11 rfl rfl rfl ?_
  refine r_aload_n hX dX6_init_12 rfl ?_
  refine r_bipush (v := 120) hX dX6_init_13 (by decide) ?_
  refine r_newa (t := 0) (n := 120) hX dX6_init_15 ⟨List.mem_of_getElem? (i := 124) (by decide +kernel), by decide +kernel⟩ ⟨by decide, rfl⟩ ⟨by decide, by decide, by decide⟩ (Nat.le_of_ble_eq_true rfl) (Nat.le_of_ble_eq_true rfl) ?_
  rw [show (gNew g _).2 = t + 2 by show g.2 + 1 = _; omega]
  refine r_putFR hX dX6_init_17 (gNew_old (gNew_old ht (by show t < g.2 ; omega)) (by show t < g.2 + 1 ; omega)) ff_X6_15 rfl rfl rfl ?_
  refine r_aload_n hX dX6_init_20 rfl ?_
  refine r_bipush (v := 120) hX dX6_init_21 (by decide) ?_
  refine r_newa (t := 0) (n := 120) hX dX6_init_23 ⟨List.mem_of_getElem? (i := 124) (by decide +kernel), by decide +kernel⟩ ⟨by decide, rfl⟩ ⟨by decide, by decide, by decide⟩ (Nat.le_of_ble_eq_true rfl) (Nat.le_of_ble_eq_true rfl) ?_
  rw [show (gNew (gNew g _) _).2 = t + 3 by show g.2 + 1 + 1 = _; omega]
  refine r_putFR hX dX6_init_25 (gNew_old (gNew_old (gNew_old ht (by show t < g.2 ; omega)) (by show t < g.2 + 1 ; omega)) (by show t < g.2 + 1 + 1 ; omega)) ff_X6_18 rfl rfl rfl ?_
  refine r_aload_n hX dX6_init_28 rfl ?_
  refine r_bipush (v := 121) hX dX6_init_29 (by decide) ?_
  refine r_newa (t := 0) (n := 121) hX dX6_init_31 ⟨List.mem_of_getElem? (i := 124) (by decide +kernel), by decide +kernel⟩ ⟨by decide, rfl⟩ ⟨by decide, by decide, by decide⟩ (Nat.le_of_ble_eq_true rfl) (Nat.le_of_ble_eq_true rfl) ?_
  rw [show (gNew (gNew (gNew g _) _) _).2 = t + 4 by show g.2 + 1 + 1 + 1 = _; omega]
  refine r_putFR hX dX6_init_33 (gNew_old (gNew_old (gNew_old (gNew_old ht (by show t < g.2 ; omega)) (by show t < g.2 + 1 ; omega)) (by show t < g.2 + 1 + 1 ; omega)) (by show t < g.2 + 1 + 1 + 1 ; omega)) ff_X6_21 rfl rfl rfl ?_
  refine r_aload_n hX dX6_init_36 rfl ?_
  refine r_bipush (v := 62) hX dX6_init_37 (by decide) ?_
  refine r_newa (t := 0) (n := 62) hX dX6_init_39 ⟨List.mem_of_getElem? (i := 124) (by decide +kernel), by decide +kernel⟩ ⟨by decide, rfl⟩ ⟨by decide, by decide, by decide⟩ (Nat.le_of_ble_eq_true rfl) (Nat.le_of_ble_eq_true rfl) ?_
  rw [show (gNew (gNew (gNew (gNew g _) _) _) _).2 = t + 5 by show g.2 + 1 + 1 + 1 + 1 = _; omega]
  refine r_putFR hX dX6_init_41 (gNew_old (gNew_old (gNew_old (gNew_old (gNew_old ht (by show t < g.2 ; omega)) (by show t < g.2 + 1 ; omega)) (by show t < g.2 + 1 + 1 ; omega)) (by show t < g.2 + 1 + 1 + 1 ; omega)) (by show t < g.2 + 1 + 1 + 1 + 1 ; omega)) ff_X6_24 rfl rfl rfl ?_
  refine r_aload_n hX dX6_init_44 rfl ?_
  refine r_bipush (v := 62) hX dX6_init_45 (by decide) ?_
  refine r_newa (t := 0) (n := 62) hX dX6_init_47 ⟨List.mem_of_getElem? (i := 124) (by decide +kernel), by decide +kernel⟩ ⟨by decide, rfl⟩ ⟨by decide, by decide, by decide⟩ (Nat.le_of_ble_eq_true rfl) (Nat.le_of_ble_eq_true rfl) ?_
  rw [show (gNew (gNew (gNew (gNew (gNew g _) _) _) _) _).2 = t + 6 by show g.2 + 1 + 1 + 1 + 1 + 1 = _; omega]
  refine r_putFR hX dX6_init_49 (gNew_old (gNew_old (gNew_old (gNew_old (gNew_old (gNew_old ht (by show t < g.2 ; omega)) (by show t < g.2 + 1 ; omega)) (by show t < g.2 + 1 + 1 ; omega)) (by show t < g.2 + 1 + 1 + 1 ; omega)) (by show t < g.2 + 1 + 1 + 1 + 1 ; omega)) (by show t < g.2 + 1 + 1 + 1 + 1 + 1 ; omega)) ff_X6_27 rfl rfl rfl ?_
  refine r_vret hX dX6_init_52 ⟨rfl, rfl, ⟨⟨?_, ?_, ?_, ?_, ?_, ?_, ?_⟩, ?_⟩, ?_, ?_⟩ ⟨Nat.le_of_ble_eq_true rfl, Nat.le_of_ble_eq_true rfl⟩
  · exact (gNew_old (gNew_old (gNew_old (gNew_old (gNew_old (gNew_old ht (by show t < g.2 ; omega)) (by show t < g.2 + 1 ; omega)) (by show t < g.2 + 1 + 1 ; omega)) (by show t < g.2 + 1 + 1 + 1 ; omega)) (by show t < g.2 + 1 + 1 + 1 + 1 ; omega)) (by show t < g.2 + 1 + 1 + 1 + 1 + 1 ; omega))
  · exact gT_at g (j := 0) hg (by decide)
  · exact gT_at g (j := 1) hg (by decide)
  · exact gT_at g (j := 2) hg (by decide)
  · exact gT_at g (j := 3) hg (by decide)
  · exact gT_at g (j := 4) hg (by decide)
  · exact gT_at g (j := 5) hg (by decide)
  · unfold TelR
    simp only [qR_wR]
    refine ⟨?_, ?_, ?_, ?_, ?_, ?_⟩
    all_goals
      repeat rw [qR_wZ_a _ _ (by omega)]
      simp [qR_wR]
      try (repeat (first | rw [qR_wZ_a _ _ (by omega)] | simp [qR_wR]))
  · exact (((((((((((((OutN.rf t 7 m).wZ (by omega)).wR (by omega)).wZ (by omega)).wR (by omega)).wZ (by omega)).wR (by omega)).wZ (by omega)).wR (by omega)).wZ (by omega)).wR (by omega)).wZ (by omega)).wR (by omega))
  · intro k
    simp only [qI_wR]
    repeat (first | rw [qI_wZ_a _ _ (by omega)] | simp only [qI_wR])
