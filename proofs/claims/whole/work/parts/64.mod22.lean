/-! ===== CometObservatoryModel: a program run ===== -/
def dCm (V : kV) (c : Int32 × List Int32) : kA := dC V c.1 (c.2.getD 0 0) (c.2.getD 1 0) (c.2.getD 2 0)
def goM (cs : Nat → Int32 × List Int32) : Nat → Nat → kV → Option Nat × kV
  | 0, _, V => (none, V)
  | n + 1, i, V => if (dCm V (cs i)).1 = 0 then goM cs n (i + 1) (dCm V (cs i)).2.2 else (some i, V)
def pmO (O : kO) : kPm := parM (fun j => nI (oTx O j)) (oTn O) (oTn O + 1) 0 0 (fun _ => (0, []))
def runM (O : kO) : kR := match (pmO O).1 with
  | some e => (1, 0, setEr (noTx O) e)
  | none => match goM (pmO O).2.2 (pmO O).2.1 0 O.1 with
    | (none, V') => (0, nI (pmO O).2.1, V', O.2.1, (O.1 :: O.2.2.1).take 8, (noTx O).2.2.2)
    | (some i, _) => (2, 0, setFa (noTx O) i)
theorem runM_e {O : kO} {e : Nat} (h : (pmO O).1 = some e) : runM O = (1, 0, setEr (noTx O) e) := by unfold runM; rw [h]
theorem runM_y {O : kO} {V' : kV} (h : (pmO O).1 = none) (h2 : goM (pmO O).2.2 (pmO O).2.1 0 O.1 = (none, V')) : runM O = (0, nI (pmO O).2.1, V', O.2.1, (O.1 :: O.2.2.1).take 8, (noTx O).2.2.2) := by unfold runM; rw [h]; show (match goM (pmO O).2.2 (pmO O).2.1 0 O.1 with | (none, V') => _ | (some i, _) => _) = _; rw [h2]
theorem runM_n {O : kO} {i : Nat} {V' : kV} (h : (pmO O).1 = none) (h2 : goM (pmO O).2.2 (pmO O).2.1 0 O.1 = (some i, V')) : runM O = (2, 0, setFa (noTx O) i) := by unfold runM; rw [h]; show (match goM (pmO O).2.2 (pmO O).2.1 0 O.1 with | (none, V') => _ | (some i, _) => _) = _; rw [h2]
theorem comM_ok {tx : Nat → Int32} {n h : Nat} (hq : (comM tx n h).2.2.2 = none) : isL (comM tx n h).1 := by
  unfold comM at hq ⊢
  by_cases h1 : sgM tx n h = 99
  · rw [if_pos h1]; exact Or.inl rfl
  · rw [if_neg h1] at hq ⊢
    by_cases h2 : sgM tx n h = 100
    · rw [if_pos h2]
      by_cases h3 : sgM tx n (h + 1) = 97
      · rw [if_pos h3]; exact Or.inr (Or.inr (Or.inr (Or.inr (Or.inl rfl))))
      · rw [if_neg h3]; exact Or.inr (Or.inl rfl)
    · rw [if_neg h2] at hq ⊢
      by_cases h3 : sgM tx n h = 116
      · rw [if_pos h3]; exact Or.inr (Or.inr (Or.inl rfl))
      · rw [if_neg h3] at hq ⊢
        by_cases h4 : sgM tx n h = 115
        · rw [if_pos h4]; exact Or.inr (Or.inr (Or.inr (Or.inl rfl)))
        · rw [if_neg h4] at hq ⊢
          by_cases h5 : sgM tx n h = 118
          · rw [if_pos h5]; exact Or.inr (Or.inr (Or.inr (Or.inr (Or.inr (Or.inl rfl)))))
          · rw [if_neg h5] at hq ⊢
            by_cases h6 : sgM tx n h = 114
            · rw [if_pos h6]; exact Or.inr (Or.inr (Or.inr (Or.inr (Or.inr (Or.inr rfl)))))
            · rw [if_neg h6] at hq
              cases hq
theorem parM_ok {tx : Nat → Int32} {n : Nat} : ∀ (k c h : Nat) (cs : Nat → Int32 × List Int32), (∀ i, i < c → isL (cs i).1) → (parM tx n k c h cs).1 = none → ∀ i, i < (parM tx n k c h cs).2.1 → isL ((parM tx n k c h cs).2.2 i).1
  | 0, c, h, cs, hc, _ => hc
  | k + 1, c, h, cs, hc, hq => by
    rcases hr : (comM tx n h).2.2.2 with _ | e
    · have hu : ∀ i, i < c + 1 → isL (updC cs c ((comM tx n h).1, (comM tx n h).2.1) i).1 := fun i hi => by
        unfold updC
        by_cases e : i = c
        · rw [if_pos e]; exact comM_ok hr
        · rw [if_neg e]; exact hc i (by omega)
      rw [parM_s hr] at hq ⊢
      by_cases h1 : sgM tx n (comM tx n h).2.2.1 = 59
      · rw [if_pos h1] at hq ⊢
        exact parM_ok k _ _ _ hu hq
      · rw [if_neg h1]
        exact hu
    · rw [parM_e hr] at hq
      cases hq
theorem ModV.par {g : qG} {m m1 : qM} {y : Nat} {O : kO} (h : ModV g m y O) (hM : MF (PP y) m m1) : ModV g (wI m1 y 8 0) y (noTx O) := by
  obtain ⟨⟨b1, ⟨b2, b3, b4⟩, ⟨b5, b6⟩, ⟨b7, b8⟩, ⟨b9, b10⟩, b11, b12⟩, hl, hR⟩ := h
  have eo : ∀ a j, ¬ PP y a j → ¬ (a = y ∧ j = 8) → qI (wI m1 y 8 0) a j = qI m a j := fun a j h1 h2 => by rw [qI_wI, if_neg h2]; exact hM.1 a j h1
  have er : ∀ w, rowF (wI m1 y 8 0) y w = rowF m y w := fun w => by funext k; exact eo _ _ (by unfold PP; omega) (by omega)
  refine ⟨⟨b1.to hM.2, ⟨?_, b3, fun i W hi => ?_⟩, ⟨?_, fun W hW => ?_⟩, ⟨?_, ?_⟩, ⟨qI_wI_s _ _ _ _, fun j hj => absurd hj (Nat.not_lt_zero _)⟩, ?_, fun j hj => ?_⟩, hl, ?_⟩
  · rw [eo _ _ (by unfold PP; omega) (by omega)]; exact b2
  · rw [er]; exact b4 i W hi
  · rw [eo _ _ (by unfold PP; omega) (by omega)]; exact b5
  · rw [er]; exact b6 W hW
  · rw [eo _ _ (by unfold PP; omega) (by omega)]; exact b7
  · rw [eo _ _ (by unfold PP; omega) (by omega)]; exact b8
  · rw [eo _ _ (by unfold PP; omega) (by omega)]; exact b11
  · rw [eo _ _ (by unfold PP; omega) (by omega)]; exact b12 j hj
  · rw [er]; exact hR
theorem ModB.er {g : qG} {m : qM} {y e : Nat} {O : kO} (h : ModB g m y O) : ModB g (wI m y 11 (nI e)) y (setEr O e) := by
  obtain ⟨b1, ⟨b2, b3, b4⟩, ⟨b5, b6⟩, ⟨b7, b8⟩, ⟨b9, b10⟩, b11, b12⟩ := h
  have er : ∀ w, rowF (wI m y 11 (nI e)) y w = rowF m y w := fun w => by funext k; exact qI_wI_a _ _ _ _ (by omega)
  refine ⟨b1.to rfl, ⟨(qI_wI_k _ _ _ _ (by decide)).trans b2, b3, fun i W hi => ?_⟩, ⟨(qI_wI_k _ _ _ _ (by decide)).trans b5, fun W hW => ?_⟩, ⟨qI_wI_s _ _ _ _, (qI_wI_k _ _ _ _ (by decide)).trans b8⟩, ⟨(qI_wI_k _ _ _ _ (by decide)).trans b9, fun j hj => (qI_wI_a _ _ _ _ (by omega)).trans (b10 j hj)⟩, (qI_wI_k _ _ _ _ (by decide)).trans b11, fun j hj => (qI_wI_a _ _ _ _ (by omega)).trans (b12 j hj)⟩
  · rw [er]; exact b4 i W hi
  · rw [er]; exact b6 W hW
theorem ModB.fa {g : qG} {m : qM} {y e : Nat} {O : kO} (h : ModB g m y O) : ModB g (wI m y 12 (nI e)) y (setFa O e) := by
  obtain ⟨b1, ⟨b2, b3, b4⟩, ⟨b5, b6⟩, ⟨b7, b8⟩, ⟨b9, b10⟩, b11, b12⟩ := h
  have er : ∀ w, rowF (wI m y 12 (nI e)) y w = rowF m y w := fun w => by funext k; exact qI_wI_a _ _ _ _ (by omega)
  refine ⟨b1.to rfl, ⟨(qI_wI_k _ _ _ _ (by decide)).trans b2, b3, fun i W hi => ?_⟩, ⟨(qI_wI_k _ _ _ _ (by decide)).trans b5, fun W hW => ?_⟩, ⟨(qI_wI_k _ _ _ _ (by decide)).trans b7, qI_wI_s _ _ _ _⟩, ⟨(qI_wI_k _ _ _ _ (by decide)).trans b9, fun j hj => (qI_wI_a _ _ _ _ (by omega)).trans (b10 j hj)⟩, (qI_wI_k _ _ _ _ (by decide)).trans b11, fun j hj => (qI_wI_a _ _ _ _ (by omega)).trans (b12 j hj)⟩
  · rw [er]; exact b4 i W hi
  · rw [er]; exact b6 W hW
theorem ModV.er {g : qG} {m : qM} {y e : Nat} {O : kO} (h : ModV g m y O) : ModV g (wI m y 11 (nI e)) y (setEr O e) := ⟨h.1.er, h.2.1, by rw [rowF_n _ _ (by omega)]; exact h.2.2⟩
set_option maxRecDepth 20000 in
set_option maxHeartbeats 4000000 in
theorem s_X8_run_l {E : qE} {X : qX} {Q : State → Prop} {g : qG} {m : qM} (hX : MC E yX8_run cX8_run 3 (some .int) 6 0 0 [] X) {y : Nat} (hs : ModS g m y) {cnt : Nat} {cs : Nat → Int32 × List Int32} (hcn : cnt ≤ 61) (h14 : qI m y 14 = nI cnt) (hC : CoM m y cnt cs) (hL : ∀ i, i < cnt → isL (cs i).1) : ∀ (k i u : Nat) (V : kV) (m1 : qM), i + k = cnt → RepF (rowF m1 y 0) V → WfV u V → u + k ≤ 10000 → MF (P0 y) m m1 → (∀ (V2 : kV) (m2 : qM), goM cs k i V = (none, V2) → RepF (rowF m2 y 0) V2 → V2.1.length ≤ 6 → MF (P0 y) m m2 → WS E X 0 0 Q g m2 61 [some (.ref y), some (.int (nI cnt)), none] []) → (∀ (j : Nat) (V2 : kV) (m2 : qM), goM cs k i V = (some j, V2) → j < cnt → MF (P0 y) m m2 → WS E X 0 0 Q g m2 61 [some (.ref y), some (.int (nI j)), none] []) → WS E X 0 0 Q g m1 37 [some (.ref y), some (.int (nI i)), none] [] := by
  intro k
  induction k with
  | zero =>
    intro i u V m1 hi hR hw hu hM K1 K2
    have e14 : qI m1 y 14 = nI cnt := (hM.1 _ _ (by unfold P0; omega)).trans h14
    have hib : i = cnt := by omega
    subst hib
    refine r_iload_n hX dX8_run_37 rfl ?_
    refine r_aload_n hX dX8_run_38 rfl ?_
    refine r_getI hX dX8_run_39 hs.1.1 fl_X8_181 ?_
    rw [e14]
    refine r_icmp_ge (tgt := 61) hX dX8_run_42 (by decide) (fun c42 => ?_) (fun c42 => ?_)
    · exact K1 V m1 rfl hR hw.1 hM
    · exact absurd (Int32.le_refl _) c42
  | succ k ih =>
    intro i u V m1 hi hR hw hu hM K1 K2
    have e14 : qI m1 y 14 = nI cnt := (hM.1 _ _ (by unfold P0; omega)).trans h14
    have hic : i < cnt := by omega
    obtain ⟨c1, c2⟩ := hC i hic
    have e5 : ∀ j, qI m1 (y + 5) j = qI m (y + 5) j := fun j => hM.1 _ _ (by unfold P0; omega)
    refine r_iload_n hX dX8_run_37 rfl ?_
    refine r_aload_n hX dX8_run_38 rfl ?_
    refine r_getI hX dX8_run_39 hs.1.1 fl_X8_181 ?_
    rw [e14]
    refine r_icmp_ge (tgt := 61) hX dX8_run_42 (by decide) (fun c42 => ?_) (fun c42 => ?_)
    · exact absurd c42 (nI_ge hic (by omega))
    · refine r_aload_n hX dX8_run_45 rfl ?_
      refine r_iconst (v := 4) hX dX8_run_46 (by decide) ?_
      refine r_iload_n hX dX8_run_47 rfl ?_
      refine r_imul hX dX8_run_48 ?_
      rw [show (4 : Int32) * nI i = nI (4 * i) from pk_mul 4 i]
      refine r_callV hX dX8_run_49 (s_X8_does E g m1 y (hs.to hM.2) V hR u hw (by omega) (4 * i) (by omega) (cs i).1 ((cs i).2.getD 0 0) ((cs i).2.getD 1 0) ((cs i).2.getD 2 0) ((e5 _).trans c1) ((e5 _).trans (c2 0 (by decide))) ((e5 _).trans (c2 1 (by decide))) ((e5 _).trans (c2 2 (by decide))) (hL i hic)) ml_X8_196 rfl rfl hs.1.1 rfl ⟨Nat.le_of_ble_eq_true rfl, Nat.le_of_ble_eq_true rfl⟩ ⟨Nat.le_of_ble_eq_true rfl, Nat.le_of_ble_eq_true rfl, rfl, Nat.le_of_ble_eq_true rfl⟩ (fun v49 g49 m49 hp => ?_)
      obtain ⟨hv, hg, hR2, h42, hM2⟩ := hp
      subst v49
      subst g49
      refine r_if_ne (tgt := 61) hX dX8_run_52 (by decide) (fun c52 => ?_) (fun c52 => ?_)
      · have hz : ¬ (dCm V (cs i)).1 = 0 := fun h => c52 (by rw [show (dC V (cs i).1 ((cs i).2.getD 0 0) ((cs i).2.getD 1 0) ((cs i).2.getD 2 0)).1 = 0 from h]; rfl)
        exact K2 i V m49 (if_neg hz) hic (hM.tr hM2)
      · refine r_iinc (v := nI (i + 1)) hX dX8_run_55 rfl (ii1 i) rfl ?_
        refine r_goto (tgt := 37) hX dX8_run_58 (by decide) ?_
        have hz : (dCm V (cs i)).1 = 0 := (nI_eq (b := 0) (by have := dC_c V (cs i).1 ((cs i).2.getD 0 0) ((cs i).2.getD 1 0) ((cs i).2.getD 2 0); show (dC V _ _ _ _).1 < _; omega) (by decide)).mp c52
        have hgo : goM cs (k + 1) i V = goM cs k (i + 1) (dCm V (cs i)).2.2 := if_pos hz
        exact ih (i + 1) (u + 1) (dCm V (cs i)).2.2 m49 (by omega) hR2 (dC_wf hw _ _ _ _) (by omega) (hM.tr hM2) (fun V2 m2 hg2 => K1 V2 m2 (hgo.trans hg2)) (fun j V2 m2 hg2 => K2 j V2 m2 (hgo.trans hg2))
set_option maxRecDepth 20000 in
set_option maxHeartbeats 4000000 in
theorem s_X8_run (E : qE) (g : qG) (m : qM) (y : Nat) (O : kO) (hO : ModV g m y O) (u : Nat) (hw : WfO u O) (hu : u ≤ 6144) : Sp E yX8_run cX8_run 3 (some .int) 6 0 0 [.ref y] g m (pU y g m (runM O)) := by
  refine Sp.of (by decide) [some (.ref y), none, none] rfl rfl (Nat.le_of_ble_eq_true rfl) (fun X hX => ?_)
  refine r_aload_n hX dX8_run_0 rfl ?_
  refine r_callV hX dX8_run_1 (s_X8_parse E g m y hO.1.1 (oTn O) (fun j => nI (oTx O j)) hO.1.2.2.2.2.1.1 hw.2.2.2.2.1 hO.1.2.2.2.2.1.2) ml_X8_193 rfl rfl hO.1.1.1.1 rfl ⟨Nat.le_of_ble_eq_true rfl, Nat.le_of_ble_eq_true rfl⟩ ⟨Nat.le_of_ble_eq_true rfl, Nat.le_of_ble_eq_true rfl, rfl, Nat.le_of_ble_eq_true rfl⟩ (fun v1 g1 m1 hp => ?_)
  obtain ⟨hv, hg, hr, hM4⟩ := hp
  subst v1
  subst g1
  replace hr : RdM m1 y (oTn O) (fun j => nI (oTx O j)) (pmO O) := hr
  refine r_aload_n hX dX8_run_4 rfl ?_
  refine r_iconst (v := 0) hX dX8_run_5 (by decide) ?_
  refine r_putI hX dX8_run_6 hO.1.1.1.1 fl_X8_163 ?_
  have hV1 := hO.par hM4
  have hMa : MF (PM y) m (wI m1 y 8 0) := (hM4.mono (fun a j h => by unfold PP at h; unfold PM; omega)).wI ⟨by omega, by omega⟩
  have h10 : qI (wI m1 y 8 0) y 10 = oI (pmO O).1 := (qI_wI_k _ _ _ _ (by decide)).trans hr.1
  refine r_aload_n hX dX8_run_9 rfl ?_
  refine r_getI hX dX8_run_10 hO.1.1.1.1 fl_X8_169 ?_
  rw [h10]
  refine r_if_lt (tgt := 31) hX dX8_run_13 (by decide) (fun c13 => ?_) (fun c13 => ?_)
  · rcases hq0 : (pmO O).1 with _ | e
    · refine r_aload_n hX dX8_run_31 rfl ?_
      refine r_callV hX dX8_run_32 (s_X8_begins E g (wI m1 y 8 0) y hV1.1.1) ml_X8_73 rfl rfl hO.1.1.1.1 rfl ⟨Nat.le_of_ble_eq_true rfl, Nat.le_of_ble_eq_true rfl⟩ ⟨Nat.le_of_ble_eq_true rfl, Nat.le_of_ble_eq_true rfl, rfl, Nat.le_of_ble_eq_true rfl⟩ (fun v32 g32 m32 hp => ?_)
      obtain ⟨hv, hg, hC0⟩ := hp
      subst v32
      subst g32
      obtain ⟨hVb, hAb, hMb⟩ := cpy_in hV1 hC0
      refine r_iconst (v := 0) hX dX8_run_35 (by decide) ?_
      refine r_istore_n hX dX8_run_36 (Nat.le_of_ble_eq_true rfl) rfl ?_
      obtain ⟨hr1, hr2, hr3, hr4, hr5⟩ := hr
      have hLs := parM_ok (tx := fun j => nI (oTx O j)) (n := oTn O) (oTn O + 1) 0 0 (fun _ => (0, [])) (fun i hi => absurd hi (Nat.not_lt_zero _)) hq0
      have hb5 : ∀ j, qI m32 (y + 5) j = qI m1 (y + 5) j := fun j => (hC0.off (by omega) j).trans (qI_wI_a _ _ _ _ (by omega))
      have hb14 : qI m32 y 14 = nI (pmO O).2.1 := (hC0.off (by omega) 14).trans ((qI_wI_k _ _ _ _ (by decide)).trans hr3)
      have hCb : CoM m32 y (pmO O).2.1 (pmO O).2.2 := hr5.mv hb5
      obtain ⟨cnt, hcnt⟩ : ∃ cnt, cnt = (pmO O).2.1 := ⟨_, rfl⟩
      rw [← hcnt] at hb14 hCb hr4
      have hs1 := hVb.s
      refine s_X8_run_l (g := g) (m := m32) hX hs1 (cnt := cnt) (cs := (pmO O).2.2) hr4 hb14 hCb (fun i hi => hLs i (by rw [hcnt] at hi; exact hi)) cnt 0 u O.1 m32 (by omega) hVb.2.2 hw.1 (by omega) (MF.rf _ _) (fun V2 m2 hgo hR2 hl2 hM2 => ?_) (fun j V2 m2 hgo hjc hM2 => ?_)
      · have e14 : qI m2 y 14 = nI cnt := (hM2.1 _ _ (by unfold P0; omega)).trans hb14
        have hB3 : ModB g (wI m2 y 4 (nI cnt)) y (noTx O) := hVb.1.mf (hM2.wI (Or.inr ⟨rfl, rfl⟩)) (fun a j hb hq => by unfold PB at hb; unfold P0 at hq; omega)
        have hA3 : RepF (rowF (wI m2 y 4 (nI cnt)) y 10) O.1 := hAb.congr (fun k hk => (qI_wI_a _ _ _ _ (by omega)).trans (hM2.1 _ _ (by unfold P0; omega))) hO.2.1
        have hM3 : MF (PM y) m (wI m2 y 4 (nI cnt)) := ((hMa.tr hMb).tr (hM2.mono (fun a j h => by unfold P0 at h; unfold PM; omega))).wI ⟨by omega, by omega⟩
        rw [hcnt] at hgo
        refine r_iload_n hX dX8_run_61 rfl ?_
        refine r_aload_n hX dX8_run_62 rfl ?_
        refine r_getI hX dX8_run_63 hO.1.1.1.1 fl_X8_181 ?_
        rw [e14]
        refine r_icmp_ne (tgt := 73) hX dX8_run_66 (by decide) (fun c66 => ?_) (fun c66 => ?_)
        · exact absurd rfl c66
        · refine r_iconst (v := 1) hX dX8_run_69 (by decide) ?_
          refine r_goto (tgt := 74) hX dX8_run_70 (by decide) ?_
          refine r_istore_n hX dX8_run_74 (Nat.le_of_ble_eq_true rfl) rfl ?_
          refine r_aload_n hX dX8_run_75 rfl ?_
          refine r_iload_n hX dX8_run_76 rfl ?_
          refine r_if_eq (tgt := 87) hX dX8_run_77 (by decide) (fun c77 => ?_) (fun c77 => ?_)
          · exact absurd c77 (by decide)
          · refine r_aload_n hX dX8_run_80 rfl ?_
            refine r_getI hX dX8_run_81 hO.1.1.1.1 fl_X8_27 ?_
            refine r_goto (tgt := 88) hX dX8_run_84 (by decide) ?_
            refine r_putI hX dX8_run_88 hO.1.1.1.1 fl_X8_27 ?_
            rw [wI_self]
            refine r_aload_n hX dX8_run_91 rfl ?_
            refine r_aload_n hX dX8_run_92 rfl ?_
            refine r_getI hX dX8_run_93 hO.1.1.1.1 fl_X8_181 ?_
            rw [e14]
            refine r_putI hX dX8_run_96 hO.1.1.1.1 fl_X8_46 ?_
            refine r_aload_n hX dX8_run_99 rfl ?_
            refine r_iload_n hX dX8_run_100 rfl ?_
            refine r_if_eq (tgt := 108) hX dX8_run_101 (by decide) (fun c101 => ?_) (fun c101 => ?_)
            · exact absurd c101 (by decide)
            · refine r_iconst (v := 0) hX dX8_run_104 (by decide) ?_
              refine r_goto (tgt := 109) hX dX8_run_105 (by decide) ?_
              refine r_iconst (v := 0) hX dX8_run_109 (by decide) ?_
              refine r_iconst (v := 0) hX dX8_run_110 (by decide) ?_
              refine r_iconst (v := 0) hX dX8_run_111 (by decide) ?_
              refine r_iconst (v := 2) hX dX8_run_112 (by decide) ?_
              refine r_callV hX dX8_run_113 (s_X8_ends E g m (wI m2 y 4 (nI cnt)) y (noTx O) hB3 hO.2.1 hA3 hM3 (0, nI cnt, V2) (fun _ => ⟨hR2.w4, qI_wI_s _ _ _ _, hl2⟩) (by simp) 0 0 0 2 (by decide) (fun h => absurd h (by simp)) (fun h => absurd h (by simp)) (fun h => absurd h (by simp)) (fun h => absurd h (by simp))) ml_X8_80 rfl rfl hO.1.1.1.1 rfl ⟨Nat.le_of_ble_eq_true rfl, Nat.le_of_ble_eq_true rfl⟩ ⟨Nat.le_of_ble_eq_true rfl, Nat.le_of_ble_eq_true rfl, rfl, Nat.le_of_ble_eq_true rfl⟩ (fun v113 g113 m113 hp => ?_)
              obtain ⟨⟨w, hv, hw9⟩, hg, hP⟩ := hp
              subst v113
              subst g113
              exact r_iret hX dX8_run_116 (by rw [runM_y hq0 hgo, ← hcnt]; exact ⟨⟨w, rfl, hw9⟩, rfl, hP⟩) ⟨Nat.le_of_ble_eq_true rfl, Nat.le_of_ble_eq_true rfl⟩
      · have e14 : qI m2 y 14 = nI cnt := (hM2.1 _ _ (by unfold P0; omega)).trans hb14
        have hB2 : ModB g m2 y (noTx O) := hVb.1.mf hM2 (fun a j hb hq => by unfold PB at hb; unfold P0 at hq; omega)
        have hB3 : ModB g (wI (wI m2 y 12 (nI j)) y 4 (nI cnt)) y (setFa (noTx O) j) := (hB2.fa (e := j)).mf ((MF.rf (P0 y) _).wI (Or.inr ⟨rfl, rfl⟩)) (fun a j hb hq => by unfold PB at hb; unfold P0 at hq; omega)
        have hA3 : RepF (rowF (wI (wI m2 y 12 (nI j)) y 4 (nI cnt)) y 10) O.1 := hAb.congr (fun k hk => (qI_wI_a _ _ _ _ (by omega)).trans ((qI_wI_a _ _ _ _ (by omega)).trans (hM2.1 _ _ (by unfold P0; omega)))) hO.2.1
        have hM3 : MF (PM y) m (wI (wI m2 y 12 (nI j)) y 4 (nI cnt)) := (((hMa.tr hMb).tr (hM2.mono (fun a j h => by unfold P0 at h; unfold PM; omega))).wI ⟨by omega, by omega⟩).wI ⟨by omega, by omega⟩
        rw [hcnt] at hgo
        refine r_iload_n hX dX8_run_61 rfl ?_
        refine r_aload_n hX dX8_run_62 rfl ?_
        refine r_getI hX dX8_run_63 hO.1.1.1.1 fl_X8_181 ?_
        rw [e14]
        refine r_icmp_ne (tgt := 73) hX dX8_run_66 (by decide) (fun c66 => ?_) (fun c66 => ?_)
        · refine r_iconst (v := 0) hX dX8_run_73 (by decide) ?_
          refine r_istore_n hX dX8_run_74 (Nat.le_of_ble_eq_true rfl) rfl ?_
          refine r_aload_n hX dX8_run_75 rfl ?_
          refine r_iload_n hX dX8_run_76 rfl ?_
          refine r_if_eq (tgt := 87) hX dX8_run_77 (by decide) (fun c77 => ?_) (fun c77 => ?_)
          · refine r_iload_n hX dX8_run_87 rfl ?_
            refine r_putI hX dX8_run_88 hO.1.1.1.1 fl_X8_27 ?_
            refine r_aload_n hX dX8_run_91 rfl ?_
            refine r_aload_n hX dX8_run_92 rfl ?_
            refine r_getI hX dX8_run_93 hO.1.1.1.1 fl_X8_181 ?_
            rw [show qI (wI m2 y 12 (nI j)) y 14 = nI cnt by rw [qI_wI_k _ _ _ _ (by decide)]; exact e14]
            refine r_putI hX dX8_run_96 hO.1.1.1.1 fl_X8_46 ?_
            refine r_aload_n hX dX8_run_99 rfl ?_
            refine r_iload_n hX dX8_run_100 rfl ?_
            refine r_if_eq (tgt := 108) hX dX8_run_101 (by decide) (fun c101 => ?_) (fun c101 => ?_)
            · refine r_iconst (v := 4) hX dX8_run_108 (by decide) ?_
              refine r_iconst (v := 0) hX dX8_run_109 (by decide) ?_
              refine r_iconst (v := 0) hX dX8_run_110 (by decide) ?_
              refine r_iconst (v := 0) hX dX8_run_111 (by decide) ?_
              refine r_iconst (v := 2) hX dX8_run_112 (by decide) ?_
              refine r_callV hX dX8_run_113 (s_X8_ends E g m (wI (wI m2 y 12 (nI j)) y 4 (nI cnt)) y (setFa (noTx O) j) hB3 hO.2.1 hA3 hM3 (4, 0, V2) (fun h => absurd h (by simp)) (by simp) 0 0 0 2 (by decide) (fun h => absurd h (by simp)) (fun h => absurd h (by simp)) (fun h => absurd h (by simp)) (fun _ => by decide)) ml_X8_80 rfl rfl hO.1.1.1.1 rfl ⟨Nat.le_of_ble_eq_true rfl, Nat.le_of_ble_eq_true rfl⟩ ⟨Nat.le_of_ble_eq_true rfl, Nat.le_of_ble_eq_true rfl, rfl, Nat.le_of_ble_eq_true rfl⟩ (fun v113 g113 m113 hp => ?_)
              obtain ⟨⟨w, hv, hw9⟩, hg, hP⟩ := hp
              subst v113
              subst g113
              exact r_iret hX dX8_run_116 (by rw [runM_n hq0 hgo]; exact ⟨⟨w, rfl, hw9⟩, rfl, hP⟩) ⟨Nat.le_of_ble_eq_true rfl, Nat.le_of_ble_eq_true rfl⟩
            · exact absurd rfl c101
          · exact absurd rfl c77
        · exact absurd c66 (fun h => by have := (nI_eq (by omega) (by omega)).mp h; omega)
    · rw [hq0] at c13
      exact absurd c13 (oI_pos (Nat.le_trans (hr.2.1 e hq0) hw.2.2.2.2.1))
  · rcases hq0 : (pmO O).1 with _ | e
    · rw [hq0] at c13
      exact absurd oI_neg c13
    · refine r_aload_n hX dX8_run_16 rfl ?_
      refine r_aload_n hX dX8_run_17 rfl ?_
      refine r_getI hX dX8_run_18 hO.1.1.1.1 fl_X8_169 ?_
      rw [h10, hq0]
      refine r_putI hX dX8_run_21 hO.1.1.1.1 fl_X8_23 ?_
      refine r_aload_n hX dX8_run_24 rfl ?_
      refine r_iconst (v := 1) hX dX8_run_25 (by decide) ?_
      refine r_putI hX dX8_run_26 hO.1.1.1.1 fl_X8_36 ?_
      refine r_iconst (v := 0) hX dX8_run_29 (by decide) ?_
      refine r_iret hX dX8_run_30 ?_ ⟨Nat.le_of_ble_eq_true rfl, Nat.le_of_ble_eq_true rfl⟩
      rw [runM_e hq0]
      have hV2 : ModV g (wI (wI m1 y 8 0) y 11 (nI e)) y (setEr (noTx O) e) := hV1.er
      exact ⟨⟨0, rfl, fun _ => rfl⟩, rfl, qI_wI_s _ _ _ _, hV2.thr 1, (hMa.wI ⟨by omega, by omega⟩).wI ⟨by omega, by omega⟩⟩
