/-! ===== CometObservatory: the line written ===== -/
theorem digs_8 {w : Nat} (h : w < 100000000) : digs w ≤ 8 := by
  unfold digs
  repeat' split
  all_goals omega
theorem rLine_len {f : Nat → Nat} (h : ∀ j, j < 12 → digs (f j) ≤ 8) : ∀ k, k ≤ 12 → (rLine f k).length ≤ 9 * k
  | 0, _ => Nat.le_refl 0
  | k + 1, hk => by
    have ih := rLine_len h k (by omega)
    have h1 := h k (by omega)
    unfold rLine
    rw [List.length_append, decL_len]
    split
    · rw [List.length_append]
      show (rLine f k).length + 1 + _ ≤ _
      omega
    · omega
theorem wcO_n {O : kO} {c : Int32} (h : plV O.1.1 c = none) : wcO O c = (1, 0, O) := by unfold wcO; rw [h]
theorem wcO_s {O : kO} {c : Int32} {i : Nat} (h : plV O.1.1 c = some i) : wcO O c = (0, nI (cLine (cAt O.1.1 i)).length, setLn O (cLine (cAt O.1.1 i))) := by unfold wcO; rw [h]
set_option maxRecDepth 20000 in
set_option maxHeartbeats 4000000 in
theorem s_X7_writeComet (E : qE) (g : qG) (m : qM) (x : Nat) (O : kO) (hO : ObsV g m x O) (u : Nat) (hw : WfO u O) (hu : u ≤ 6144) (c : Int32) : SpX E yX7_writeComet cX7_writeComet 3 (some .int) 9 9 2400 [.ref x, .int c] g m (pO x g m (wcO O c)) (pX x g m ["java/util/NoSuchElementException"] (wcO O c)) := by
  refine SpX.of (by decide) [some (.ref x), some (.int c), none] rfl rfl (Nat.le_of_ble_eq_true rfl) (fun X hX => ?_)
  obtain ⟨b0, ⟨S, ⟨hs, ad, hr, hV⟩, hR⟩, b2, b3, ⟨T, hT, hTl⟩, b5, b6, b7⟩ := id hO
  have hC : ∀ i k, i < O.1.1.length → i < 6 → k < 5 → qI m (ad i) k = nI (cAt O.1.1 i k) := fun i k h1 h6 h2 => (hV.2.1 i k h6 h2).trans (hR.2.2.1 i k h1 h2)
  refine r_aload_n hX dX7_writeComet_0 rfl ?_
  refine r_iload_n hX dX7_writeComet_1 rfl ?_
  refine r_callVX hX dX7_writeComet_2 (s_X7_existing E g m x c O S ad b0 hs hr hV hR hw.len) ml_X7_89 mk_X7_89 rfl rfl b0.1 rfl ⟨Nat.le_of_ble_eq_true rfl, Nat.le_of_ble_eq_true rfl⟩ ⟨Nat.le_of_ble_eq_true rfl, Nat.le_of_ble_eq_true rfl, rfl, Nat.le_of_ble_eq_true rfl⟩ (fun v2 g2 m2 hp => ?_) (fun nm gx mx hp => ?_)
  rotate_left
  · obtain ⟨hnone, rfl, ⟨n9, hn9, rfl⟩, rfl⟩ := hp
    exact r_out hX ⟨⟨0, congrArg Prod.fst (wcO_n hnone), rfl⟩, by rw [wcO_n hnone]; exact hO, (FrP.rf _ _ _).up hn9⟩ ⟨Nat.le_of_ble_eq_true rfl, Nat.le_of_ble_eq_true rfl⟩
  obtain ⟨i, hi, hv, hg, hm⟩ := hp
  subst v2
  subst g2
  subst m2
  have hil := (plV_lt hi).1
  have hi6 := hw.len
  refine r_astore_n hX dX7_writeComet_5 (Nat.le_of_ble_eq_true rfl) rfl ?_
  refine r_known (fun hk => ?_)
  have hxl : x < g.2 := hk _ _ b0.1
  have hca := adAt (i := i) hs hr (by omega)
  have hcl : ad i < g.2 := hk _ _ hca
  have hai := hr.2.2.2.2.1 i (by omega)
  obtain ⟨c1, c2, c3, c4, c5, c6, c7, c8⟩ := hw.com hu hil
  have hday := hw.day hu
  have e0 := digs_le (cAt O.1.1 i 0)
  have e1 := digs_le (cAt O.1.1 i 1)
  have e2 := digs_le (cAt O.1.1 i 2)
  have e3 := digs_le (cAt O.1.1 i 3)
  refine r_aload_n hX dX7_writeComet_6 rfl ?_
  refine r_getR hX dX7_writeComet_7 b0.1 fl_X7_46 b0.2.1.2.2.2.2.2.2 ?_
  refine r_iconst (v := 0) hX dX7_writeComet_10 (by decide) ?_
  refine r_callV hX dX7_writeComet_11 (s_J4_setLen0 E g m (x + 136) (oLn O) b7) ml_X7_362 rfl rfl b7.choose_spec.choose_spec.1.1 rfl ⟨Nat.le_of_ble_eq_true rfl, Nat.le_of_ble_eq_true rfl⟩ ⟨Nat.le_of_ble_eq_true rfl, Nat.le_of_ble_eq_true rfl, rfl, Nat.le_of_ble_eq_true rfl⟩ (fun v11 g11 m11 hp => ?_)
  obtain ⟨hv, hg, hB11, hF11⟩ := hp
  subst v11
  subst g11
  refine r_aload_n hX dX7_writeComet_14 rfl ?_
  refine r_getR hX dX7_writeComet_15 (hF11.gAt b0.1 hxl) fl_X7_46 ((frp_I hF11 b0.1 hxl (by omega) (by simp) 6).2.trans b0.2.1.2.2.2.2.2.2) ?_
  refine r_aload_n hX dX7_writeComet_18 rfl ?_
  refine r_getI hX dX7_writeComet_19 (hF11.gAt hca hcl) fl_X7_93 ?_
  rw [(frp_I hF11 hca hcl (by omega) (by simp) 0).1, hC i 0 hil (by omega) (by decide)]
  refine r_callV hX dX7_writeComet_22 (s_J4_appI E g m11 (x + 136) ([]) hB11 (cAt O.1.1 i 0) (by omega) (by simp only [List.length_append, decL_len, List.length_cons, List.length_nil]; omega)) ml_X7_365 rfl rfl (hB11.choose_spec.choose_spec.1.1) rfl ⟨Nat.le_of_ble_eq_true rfl, Nat.le_of_ble_eq_true rfl⟩ ⟨Nat.le_of_ble_eq_true rfl, Nat.le_of_ble_eq_true rfl, rfl, Nat.le_of_ble_eq_true rfl⟩ (fun v22 g22 m22 hp => ?_)
  obtain ⟨hv, hB22, hF⟩ := hp
  subst v22
  have hF22 := hF11.tr hF
  refine r_bipush (v := 42) hX dX7_writeComet_25 (by decide) ?_
  refine r_callV hX dX7_writeComet_27 (s_J4_appC E g22 m22 (x + 136) ([] ++ decL (cAt O.1.1 i 0)) hB22 42 (by decide) (by simp only [List.length_append, decL_len, List.length_cons, List.length_nil]; omega)) ml_X7_369 rfl rfl (hB22.choose_spec.choose_spec.1.1) rfl ⟨Nat.le_of_ble_eq_true rfl, Nat.le_of_ble_eq_true rfl⟩ ⟨Nat.le_of_ble_eq_true rfl, Nat.le_of_ble_eq_true rfl, rfl, Nat.le_of_ble_eq_true rfl⟩ (fun v27 g27 m27 hp => ?_)
  obtain ⟨hv, hB27, hF⟩ := hp
  subst v27
  have hF27 := hF22.tr hF
  refine r_aload_n hX dX7_writeComet_30 rfl ?_
  refine r_getI hX dX7_writeComet_31 (hF27.gAt hca hcl) fl_X7_135 ?_
  rw [(frp_I hF27 hca hcl (by omega) (by simp) 2).1, hC i 2 hil (by omega) (by decide)]
  refine r_callV hX dX7_writeComet_34 (s_J4_appI E g27 m27 (x + 136) (([] ++ decL (cAt O.1.1 i 0)) ++ [42]) hB27 (cAt O.1.1 i 2) (by omega) (by simp only [List.length_append, decL_len, List.length_cons, List.length_nil]; omega)) ml_X7_365 rfl rfl (hB27.choose_spec.choose_spec.1.1) rfl ⟨Nat.le_of_ble_eq_true rfl, Nat.le_of_ble_eq_true rfl⟩ ⟨Nat.le_of_ble_eq_true rfl, Nat.le_of_ble_eq_true rfl, rfl, Nat.le_of_ble_eq_true rfl⟩ (fun v34 g34 m34 hp => ?_)
  obtain ⟨hv, hB34, hF⟩ := hp
  subst v34
  have hF34 := hF27.tr hF
  refine r_pop hX dX7_writeComet_37 rfl ?_
  refine r_aload_n hX dX7_writeComet_38 rfl ?_
  refine r_getR hX dX7_writeComet_39 (hF34.gAt b0.1 hxl) fl_X7_46 ((frp_I hF34 b0.1 hxl (by omega) (by simp) 6).2.trans b0.2.1.2.2.2.2.2.2) ?_
  refine r_bipush (v := 47) hX dX7_writeComet_42 (by decide) ?_
  refine r_callV hX dX7_writeComet_44 (s_J4_appC E g34 m34 (x + 136) ((([] ++ decL (cAt O.1.1 i 0)) ++ [42]) ++ decL (cAt O.1.1 i 2)) hB34 47 (by decide) (by simp only [List.length_append, decL_len, List.length_cons, List.length_nil]; omega)) ml_X7_369 rfl rfl (hB34.choose_spec.choose_spec.1.1) rfl ⟨Nat.le_of_ble_eq_true rfl, Nat.le_of_ble_eq_true rfl⟩ ⟨Nat.le_of_ble_eq_true rfl, Nat.le_of_ble_eq_true rfl, rfl, Nat.le_of_ble_eq_true rfl⟩ (fun v44 g44 m44 hp => ?_)
  obtain ⟨hv, hB44, hF⟩ := hp
  subst v44
  have hF44 := hF34.tr hF
  refine r_aload_n hX dX7_writeComet_47 rfl ?_
  refine r_getI hX dX7_writeComet_48 (hF44.gAt hca hcl) fl_X7_110 ?_
  rw [(frp_I hF44 hca hcl (by omega) (by simp) 1).1, hC i 1 hil (by omega) (by decide)]
  refine r_callV hX dX7_writeComet_51 (s_J4_appI E g44 m44 (x + 136) (((([] ++ decL (cAt O.1.1 i 0)) ++ [42]) ++ decL (cAt O.1.1 i 2)) ++ [47]) hB44 (cAt O.1.1 i 1) (by omega) (by simp only [List.length_append, decL_len, List.length_cons, List.length_nil]; omega)) ml_X7_365 rfl rfl (hB44.choose_spec.choose_spec.1.1) rfl ⟨Nat.le_of_ble_eq_true rfl, Nat.le_of_ble_eq_true rfl⟩ ⟨Nat.le_of_ble_eq_true rfl, Nat.le_of_ble_eq_true rfl, rfl, Nat.le_of_ble_eq_true rfl⟩ (fun v51 g51 m51 hp => ?_)
  obtain ⟨hv, hB51, hF⟩ := hp
  subst v51
  have hF51 := hF44.tr hF
  refine r_bipush (v := 64) hX dX7_writeComet_54 (by decide) ?_
  refine r_callV hX dX7_writeComet_56 (s_J4_appC E g51 m51 (x + 136) ((((([] ++ decL (cAt O.1.1 i 0)) ++ [42]) ++ decL (cAt O.1.1 i 2)) ++ [47]) ++ decL (cAt O.1.1 i 1)) hB51 64 (by decide) (by simp only [List.length_append, decL_len, List.length_cons, List.length_nil]; omega)) ml_X7_369 rfl rfl (hB51.choose_spec.choose_spec.1.1) rfl ⟨Nat.le_of_ble_eq_true rfl, Nat.le_of_ble_eq_true rfl⟩ ⟨Nat.le_of_ble_eq_true rfl, Nat.le_of_ble_eq_true rfl, rfl, Nat.le_of_ble_eq_true rfl⟩ (fun v56 g56 m56 hp => ?_)
  obtain ⟨hv, hB56, hF⟩ := hp
  subst v56
  have hF56 := hF51.tr hF
  refine r_aload_n hX dX7_writeComet_59 rfl ?_
  refine r_getI hX dX7_writeComet_60 (hF56.gAt hca hcl) fl_X7_191 ?_
  rw [(frp_I hF56 hca hcl (by omega) (by simp) 3).1, hC i 3 hil (by omega) (by decide)]
  refine r_callV hX dX7_writeComet_63 (s_J4_appI E g56 m56 (x + 136) (((((([] ++ decL (cAt O.1.1 i 0)) ++ [42]) ++ decL (cAt O.1.1 i 2)) ++ [47]) ++ decL (cAt O.1.1 i 1)) ++ [64]) hB56 (cAt O.1.1 i 3) (by omega) (by simp only [List.length_append, decL_len, List.length_cons, List.length_nil]; omega)) ml_X7_365 rfl rfl (hB56.choose_spec.choose_spec.1.1) rfl ⟨Nat.le_of_ble_eq_true rfl, Nat.le_of_ble_eq_true rfl⟩ ⟨Nat.le_of_ble_eq_true rfl, Nat.le_of_ble_eq_true rfl, rfl, Nat.le_of_ble_eq_true rfl⟩ (fun v63 g63 m63 hp => ?_)
  obtain ⟨hv, hB63, hF⟩ := hp
  subst v63
  have hF63 := hF56.tr hF
  refine r_pop hX dX7_writeComet_66 rfl ?_
  refine r_aload_n hX dX7_writeComet_67 rfl ?_
  refine r_getR hX dX7_writeComet_68 (hF63.gAt b0.1 hxl) fl_X7_46 ((frp_I hF63 b0.1 hxl (by omega) (by simp) 6).2.trans b0.2.1.2.2.2.2.2.2) ?_
  refine r_callV hX dX7_writeComet_71 (s_J4_length E g63 m63 (x + 136) (cLine (cAt O.1.1 i)) hB63) ml_X7_372 rfl rfl (hB63.choose_spec.choose_spec.1.1) rfl ⟨Nat.le_of_ble_eq_true rfl, Nat.le_of_ble_eq_true rfl⟩ ⟨Nat.le_of_ble_eq_true rfl, Nat.le_of_ble_eq_true rfl, rfl, Nat.le_of_ble_eq_true rfl⟩ (fun v71 g71 m71 hp => ?_)
  obtain ⟨hv, hg, hm⟩ := hp
  subst v71
  subst g71
  subst m71
  exact r_x (r_iret hX dX7_writeComet_74 (by rw [wcO_s hi]; exact ⟨rfl, rfl, hO.line hk hF63 hB63⟩) ⟨Nat.le_of_ble_eq_true rfl, Nat.le_of_ble_eq_true rfl⟩)
set_option maxRecDepth 20000 in
set_option maxHeartbeats 4000000 in
theorem s_X7_ring_l {E : qE} {X : qX} {Q : State → Prop} {g : qG} {m : qM} (hX : MC E yX7_writeRing cX7_writeRing 2 (some .int) 8 25 7500 [] X) {x : Nat} {O : kO} {ad : Nat → Nat} (b0 : ObH g m x O) (hs : SkySh g (x + 1)) (hr : SkyR m (x + 1) ad) (hD : ∀ j, j < 12 → qI m (x + 1 + 9) j = nI (O.1.2.2 j)) (hk : ∀ a sh, gAt g a sh → a < g.2) (h8 : ∀ j, j < 12 → O.1.2.2 j < 100000000) : ∀ (k i : Nat) (g1 : qG) (m1 : qM), i + k = 12 → (SbIs g1 m1 (x + 136) (rLine O.1.2.2 i) ∧ FrP (fun a => a = x + 136) g m g1 m1) → (∀ (j : Int32) (g2 : qG) (m2 : qM), (SbIs g2 m2 (x + 136) (rLine O.1.2.2 12) ∧ FrP (fun a => a = x + 136) g m g2 m2) → WS E X (2 * 12) (600 * 12) Q g2 m2 56 [some (.ref x), some (.int j)] []) → WS E X (2 * i) (600 * i) Q g1 m1 10 [some (.ref x), some (.int (nI i))] [] := by
  have hdg : ∀ j, j < 12 → digs (O.1.2.2 j) ≤ 8 := fun j hj => digs_8 (h8 j hj)
  intro k
  induction k with
  | zero =>
    intro i g1 m1 hi hI K
    have hib : i = 12 := by omega
    subst hib
    refine r_iload_n hX dX7_writeRing_10 rfl ?_
    refine r_bipush (v := 12) hX dX7_writeRing_11 (by decide) ?_
    refine r_icmp_ge (tgt := 56) hX dX7_writeRing_13 (by decide) (fun c13 => ?_) (fun c13 => ?_)
    · exact K _ _ _ hI
    · exact absurd (Int32.le_refl _) c13
  | succ k ih =>
    intro i g1 m1 hi hI K
    have hi12 : i < 12 := by omega
    have hlen := rLine_len hdg i (by omega)
    have hdi := hdg i hi12
    have h8i := h8 i hi12
    have H30 : ∀ (g2 : qG) (m2 : qM) (cs2 : List Nat), cs2 = (if 0 < i then rLine O.1.2.2 i ++ [44] else rLine O.1.2.2 i) → SbIs g2 m2 (x + 136) cs2 → FrP (fun a => a = x + 136) g m g2 m2 → cs2.length + digs (O.1.2.2 i) ≤ 110 → WS E X (2 * i + 1) (600 * i + 300) Q g2 m2 30 [some (.ref x), some (.int (nI i))] [] := by
      intro g2 m2 cs2 hcs hB2 hF2 hlen2
      subst hcs
      refine r_aload_n hX dX7_writeRing_30 rfl ?_
      refine r_getR hX dX7_writeRing_31 (hF2.gAt b0.1 (hk _ _ b0.1)) fl_X7_46 ((frp_I hF2 b0.1 (hk _ _ b0.1) (by omega) (by simp) 6).2.trans b0.2.1.2.2.2.2.2.2) ?_
      refine r_aload_n hX dX7_writeRing_34 rfl ?_
      refine r_getR hX dX7_writeRing_35 (hF2.gAt b0.1 (hk _ _ b0.1)) fl_X7_10 ((frp_I hF2 b0.1 (hk _ _ b0.1) (by omega) (by simp) 0).2.trans b0.2.1.1) ?_
      refine r_getR hX dX7_writeRing_38 (hF2.gAt hs.1 (hk _ _ hs.1)) fl_X7_249 ((frp_I hF2 hs.1 (hk _ _ hs.1) (by omega) (by simp) 1).2.trans hr.2.1) ?_
      refine r_getR hX dX7_writeRing_41 (hF2.gAt hs.2.2.2.1 (hk _ _ hs.2.2.2.1)) fl_X7_253 ((frp_I hF2 hs.2.2.2.1 (hk _ _ hs.2.2.2.1) (by omega) (by simp) 0).2.trans hr.2.2.1) ?_
      refine r_iload_n hX dX7_writeRing_44 rfl ?_
      refine r_ialoadN hX dX7_writeRing_45 (hF2.gAt hs.2.2.2.2 (hk _ _ hs.2.2.2.2)) hi12 (by decide) ?_
      rw [(frp_I hF2 hs.2.2.2.2 (hk _ _ hs.2.2.2.2) (by omega) (by simp) i).1, hD i hi12]
      refine r_callV hX dX7_writeRing_46 (s_J4_appI E g2 m2 (x + 136) _ hB2 (O.1.2.2 i) (by omega) hlen2) ml_X7_365 rfl rfl (hB2.choose_spec.choose_spec.1.1) rfl ⟨Nat.le_of_ble_eq_true rfl, Nat.le_of_ble_eq_true rfl⟩ ⟨by omega, by omega, rfl, Nat.le_of_ble_eq_true rfl⟩ (fun v46 g46 m46 hp => ?_)
      obtain ⟨hv, hB46, hF⟩ := hp
      subst v46
      have hF46 := hF2.tr hF
      refine r_pop hX dX7_writeRing_49 rfl ?_
      refine r_iinc (v := nI (i + 1)) hX dX7_writeRing_50 rfl (ii1 i) rfl ?_
      refine r_goto (tgt := 10) hX dX7_writeRing_53 (by decide) ?_
      refine r_widen (cN' := 2 * (i + 1)) (sN' := 600 * (i + 1)) (by omega) (by omega) ?_
      exact ih (i + 1) _ _ (by omega) ⟨hB46, hF46⟩ K
    refine r_iload_n hX dX7_writeRing_10 rfl ?_
    refine r_bipush (v := 12) hX dX7_writeRing_11 (by decide) ?_
    refine r_icmp_ge (tgt := 56) hX dX7_writeRing_13 (by decide) (fun c13 => ?_) (fun c13 => ?_)
    · exact absurd c13 (nI_ge (b := 12) (by omega) (by decide))
    · refine r_iload_n hX dX7_writeRing_16 rfl ?_
      refine r_if_le (tgt := 30) hX dX7_writeRing_17 (by decide) (fun c17 => ?_) (fun c17 => ?_)
      · have hi0 : i = 0 := Classical.byContradiction (fun h => nI_nle (n := i) (by omega) (by omega) c17)
        refine r_widen (cN' := 2 * i + 1) (sN' := 600 * i + 300) (by omega) (by omega) ?_
        refine H30 g1 m1 (if 0 < i then rLine O.1.2.2 i ++ [44] else rLine O.1.2.2 i) rfl ?_ hI.2 ?_
        · rw [if_neg (by omega)]; exact hI.1
        · rw [if_neg (by omega)]; omega
      · refine r_aload_n hX dX7_writeRing_20 rfl ?_
        refine r_getR hX dX7_writeRing_21 (hI.2.gAt b0.1 (hk _ _ b0.1)) fl_X7_46 ((frp_I hI.2 b0.1 (hk _ _ b0.1) (by omega) (by simp) 6).2.trans b0.2.1.2.2.2.2.2.2) ?_
        refine r_bipush (v := 44) hX dX7_writeRing_24 (by decide) ?_
        refine r_callV hX dX7_writeRing_26 (s_J4_appC E g1 m1 (x + 136) _ hI.1 44 (by decide) (by omega)) ml_X7_369 rfl rfl (hI.1.choose_spec.choose_spec.1.1) rfl ⟨Nat.le_of_ble_eq_true rfl, Nat.le_of_ble_eq_true rfl⟩ ⟨by omega, by omega, rfl, Nat.le_of_ble_eq_true rfl⟩ (fun v26 g26 m26 hp => ?_)
        obtain ⟨hv, hB26, hF⟩ := hp
        subst v26
        have hF26 := hI.2.tr hF
        refine r_pop hX dX7_writeRing_29 rfl ?_
        have hi0 : 0 < i := Nat.pos_of_ne_zero (fun h => c17 (by rw [h]; decide))
        refine H30 _ _ (if 0 < i then rLine O.1.2.2 i ++ [44] else rLine O.1.2.2 i) rfl ?_ hF26 ?_
        · rw [if_pos hi0]; exact hB26
        · rw [if_pos hi0, List.length_append]; show (rLine O.1.2.2 i).length + 1 + _ ≤ _; omega
set_option maxRecDepth 20000 in
set_option maxHeartbeats 4000000 in
theorem s_X7_writeRing (E : qE) (g : qG) (m : qM) (x : Nat) (O : kO) (hO : ObsV g m x O) (u : Nat) (hw : WfO u O) (hu : u ≤ 6144) : Sp E yX7_writeRing cX7_writeRing 2 (some .int) 8 25 7500 [.ref x] g m (pO x g m (wrO O)) := by
  refine Sp.of (by decide) [some (.ref x), none] rfl rfl (Nat.le_of_ble_eq_true rfl) (fun X hX => ?_)
  obtain ⟨b0, ⟨S, ⟨hs, ad, hr, hV⟩, hR⟩, b2, b3, ⟨T, hT, hTl⟩, b5, b6, b7⟩ := id hO
  have hD : ∀ j, j < 12 → qI m (x + 1 + 9) j = nI (O.1.2.2 j) := fun j hj => (hV.2.2.1 j hj).trans (hR.2.2.2.1 j hj)
  have h8 : ∀ j, j < 12 → O.1.2.2 j < 100000000 := fun j hj => by
    have h1 := ds_ge O.1.2.2 hj
    have h2 := hw.dus hu
    omega
  refine r_aload_n hX dX7_writeRing_0 rfl ?_
  refine r_getR hX dX7_writeRing_1 b0.1 fl_X7_46 b0.2.1.2.2.2.2.2.2 ?_
  refine r_iconst (v := 0) hX dX7_writeRing_4 (by decide) ?_
  refine r_callV hX dX7_writeRing_5 (s_J4_setLen0 E g m (x + 136) (oLn O) b7) ml_X7_362 rfl rfl b7.choose_spec.choose_spec.1.1 rfl ⟨Nat.le_of_ble_eq_true rfl, Nat.le_of_ble_eq_true rfl⟩ ⟨Nat.le_of_ble_eq_true rfl, Nat.le_of_ble_eq_true rfl, rfl, Nat.le_of_ble_eq_true rfl⟩ (fun v5 g5 m5 hp => ?_)
  obtain ⟨hv, hg, hB5, hF5⟩ := hp
  subst v5
  subst g5
  refine r_iconst (v := 0) hX dX7_writeRing_8 (by decide) ?_
  refine r_istore_n hX dX7_writeRing_9 (Nat.le_of_ble_eq_true rfl) rfl ?_
  refine r_known (fun hk => ?_)
  refine s_X7_ring_l (g := g) (m := m) hX b0 hs hr hD hk h8 12 0 g m5 (by omega) ⟨hB5, hF5⟩ (fun j g2 m2 hI => ?_)
  refine r_aload_n hX dX7_writeRing_56 rfl ?_
  refine r_getR hX dX7_writeRing_57 (hI.2.gAt b0.1 (hk _ _ b0.1)) fl_X7_46 ((frp_I hI.2 b0.1 (hk _ _ b0.1) (by omega) (by simp) 6).2.trans b0.2.1.2.2.2.2.2.2) ?_
  refine r_callV hX dX7_writeRing_60 (s_J4_length E g2 m2 (x + 136) _ hI.1) ml_X7_372 rfl rfl (hI.1.choose_spec.choose_spec.1.1) rfl ⟨Nat.le_of_ble_eq_true rfl, Nat.le_of_ble_eq_true rfl⟩ ⟨Nat.le_of_ble_eq_true rfl, Nat.le_of_ble_eq_true rfl, rfl, Nat.le_of_ble_eq_true rfl⟩ (fun v60 g60 m60 hp => ?_)
  obtain ⟨hv, hg, hm⟩ := hp
  subst v60
  subst g60
  subst m60
  exact r_iret hX dX7_writeRing_63 ⟨rfl, rfl, hO.line hk hI.2 hI.1⟩ ⟨Nat.le_of_ble_eq_true rfl, Nat.le_of_ble_eq_true rfl⟩
