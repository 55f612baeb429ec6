/-! ===== CometObservatoryModel: the seven commands ===== -/
theorem pM.no {y : Nat} {g : qG} {m : qM} {V : kV} (hR : RepF (rowF m y 0) V) {k : Nat} (hk : k ≠ 0) {v : Int32} (hv : v = nI k) : pM y g m (k, 0, V) (some (.int v)) g m := ⟨by rw [hv], rfl, hR, fun h => absurd h hk, MF.rf _ _⟩
theorem pM.yes {y : Nat} {g : qG} {m m' : qM} {V' : kV} {r : Int32} (hR : RepF (rowF m' y 0) V') (h4 : qI m' y 4 = r) (hM : MF (P0 y) m m') : pM y g m (0, r, V') (some (.int 0)) g m' := ⟨rfl, rfl, hR, fun _ => h4, hM⟩
theorem RepF.w4 {m : qM} {y k : Nat} {v : Int32} {V : kV} (h : RepF (rowF m y 0) V) : RepF (rowF (wI m y k v) y 0) V := by
  rw [rowF_n _ _ (by omega)]; exact h
theorem WfW.fit {n d k p : Nat} {V : kV} (h : WfW n d k p V) (hd : d < 2 ^ 30) : V.1.length ≤ 6 ∧ V.2.1 2 + 1 < 2 ^ 31 ∧ ∀ c ∈ V.1, 1 ≤ c 2 ∧ c 2 < 2 ^ 31 ∧ c 3 < 2 ^ 31 := by
  obtain ⟨a1, a2, a3, a4, a5, a6, a7, a8, a9⟩ := h
  refine ⟨a1, by omega, fun c hc => ?_⟩
  obtain ⟨b1, b2, b3, b4, b5, b6, b7, b8⟩ := a2 c hc
  omega
set_option maxRecDepth 20000 in
set_option maxHeartbeats 4000000 in
theorem s_X8_goesBy (E : qE) (g : qG) (m : qM) (y : Nat) (hs : ModS g m y) (V : kV) (hR : RepF (rowF m y 0) V) (hf : V.1.length ≤ 6 ∧ V.2.1 2 + 1 < 2 ^ 31 ∧ ∀ c ∈ V.1, 1 ≤ c 2 ∧ c 2 < 2 ^ 31 ∧ c 3 < 2 ^ 31) : Sp E yX8_goesBy cX8_goesBy 4 (some .int) 2 0 0 [.ref y] g m (fun v g' m' => v = some (.int (nI (pcnt (V.2.1 2 + 1) V.1))) ∧ g' = g ∧ RepF (rowF m' y 0) (dayV V) ∧ MF (PR y) m m') := by
  refine Sp.of (by decide) [some (.ref y), none, none, none] rfl rfl (Nat.le_of_ble_eq_true rfl) (fun X hX => ?_)
  refine r_iconst (v := 0) hX dX8_goesBy_0 (by decide) ?_
  refine r_istore_n hX dX8_goesBy_1 (Nat.le_of_ble_eq_true rfl) rfl ?_
  refine r_iconst (v := 0) hX dX8_goesBy_2 (by decide) ?_
  refine r_istore_n hX dX8_goesBy_3 (Nat.le_of_ble_eq_true rfl) rfl ?_
  refine r_aload_n hX dX8_goesBy_4 rfl ?_
  refine r_getR hX dX8_goesBy_5 hs.1.1 fl_X8_9 hs.2.1 ?_
  refine r_iconst (v := 2) hX dX8_goesBy_8 (by decide) ?_
  refine r_dup2 hX dX8_goesBy_9 rfl rfl ?_
  refine r_ialoadN hX dX8_goesBy_10 hs.1.2.1 (show 2 < 539 by decide) (by decide) ?_
  rw [hR.rH (k := 2) (by decide) (by decide)]
  refine r_iconst (v := 1) hX dX8_goesBy_11 (by decide) ?_
  refine r_iadd hX dX8_goesBy_12 ?_
  rw [nI_1]
  refine r_iastoreN hX dX8_goesBy_13 hs.1.2.1 (show 2 < 539 by decide) (by decide) ?_
  refine s_X8_goesBy_l (g := g) (m := m) hX hs V.1 [] (updH V.2.1 2 (V.2.1 2 + 1)) V.2.2 _ 0 none (hR.wH (k := 2) (v := V.2.1 2 + 1) (by decide)) hf.1 hf.2.1 hf.2.2 ((MF.rf _ _).wI ⟨rfl, by decide⟩) (fun m2 o2 hR2 hM2 k => ?_)
  refine r_iload_n hX dX8_goesBy_94 rfl ?_
  refine r_iret hX dX8_goesBy_95 ⟨by rw [Nat.zero_add]; rfl, rfl, hR2.eq ?_, hM2⟩ ⟨Nat.le_of_ble_eq_true rfl, Nat.le_of_ble_eq_true rfl⟩
  unfold dayV burV pasV nxtV
  simp only [passL_len]
  rfl
set_option maxRecDepth 20000 in
set_option maxHeartbeats 4000000 in
theorem s_X8_goOn_l {E : qE} {X : qX} {Q : State → Prop} {g : qG} {m : qM} (hX : MC E yX8_goOn cX8_goOn 3 (some .int) 3 0 0 [] X) {y : Nat} (hs : ModS g m y) {D : Nat} (hD : D < 2 ^ 31) : ∀ (n i : Nat) (V : kV) (m1 : qM) (r a d k p : Nat), i + n = D → RepF (rowF m1 y 0) V → WfW a d k p V → d + n < 2 ^ 30 → qI m1 y 4 = nI r → MF (P0 y) m m1 → (∀ (m2 : qM) (j : Int32), RepF (rowF m2 y 0) (daysV n V) → qI m2 y 4 = nI (r + ((daysV n V).2.1 5 - V.2.1 5)) → MF (P0 y) m m2 → WS E X 0 0 Q g m2 43 [some (.ref y), some (.int (nI D)), some (.int j)] []) → WS E X 0 0 Q g m1 19 [some (.ref y), some (.int (nI D)), some (.int (nI i))] [] := by
  intro n
  induction n with
  | zero =>
    intro i V m1 r a d k p hi hR hw hd h4 hM K
    have hib : i = D := by omega
    subst hib
    refine r_iload_n hX dX8_goOn_19 rfl ?_
    refine r_iload_n hX dX8_goOn_20 rfl ?_
    refine r_icmp_ge (tgt := 43) hX dX8_goOn_21 (by decide) (fun c21 => ?_) (fun c21 => ?_)
    · exact K m1 _ hR (by rw [h4]; exact congrArg nI (by show r = r + (V.2.1 5 - V.2.1 5); omega)) hM
    · exact absurd (Int32.le_refl _) c21
  | succ n ih =>
    intro i V m1 r a d k p hi hR hw hd h4 hM K
    refine r_iload_n hX dX8_goOn_19 rfl ?_
    refine r_iload_n hX dX8_goOn_20 rfl ?_
    refine r_icmp_ge (tgt := 43) hX dX8_goOn_21 (by decide) (fun c21 => ?_) (fun c21 => ?_)
    · exact absurd c21 (nI_ge (by omega) hD)
    · refine r_aload_n hX dX8_goOn_24 rfl ?_
      refine r_dup hX dX8_goOn_25 rfl ?_
      refine r_getI hX dX8_goOn_26 hs.1.1 fl_X8_46 ?_
      rw [h4]
      refine r_aload_n hX dX8_goOn_29 rfl ?_
      refine r_callV hX dX8_goOn_30 (s_X8_goesBy E g m1 y (hs.to hM.2) V hR (hw.fit (by omega))) ml_X8_96 rfl rfl hs.1.1 rfl ⟨Nat.le_of_ble_eq_true rfl, Nat.le_of_ble_eq_true rfl⟩ ⟨Nat.le_of_ble_eq_true rfl, Nat.le_of_ble_eq_true rfl, rfl, Nat.le_of_ble_eq_true rfl⟩ (fun v30 g30 m30 hp => ?_)
      obtain ⟨hv, hg, hR9, hM8⟩ := hp
      subst v30
      subst g30
      have hM9 := hM.tr (PR_0 hM8)
      refine r_iadd hX dX8_goOn_33 ?_
      rw [nI_add]
      refine r_putI hX dX8_goOn_34 hs.1.1 fl_X8_46 ?_
      refine r_iinc (v := nI (i + 1)) hX dX8_goOn_37 rfl (ii1 i) rfl ?_
      refine r_goto (tgt := 19) hX dX8_goOn_40 (by decide) ?_
      have h5 : (dayV V).2.1 5 = V.2.1 5 + pcnt (V.2.1 2 + 1) V.1 := rfl
      have h6 := daysV_5 n (dayV V)
      refine ih (i + 1) (dayV V) _ (r + pcnt (V.2.1 2 + 1) V.1) a (d + 1) (k + 120) (p + 6) (by omega) hR9.w4 hw.day (by omega) (by rw [qI_wI, if_pos ⟨rfl, rfl⟩]) (hM9.wI (Or.inr ⟨rfl, rfl⟩)) (fun m2 j hR2 h42 hM2 => K m2 j hR2 (by rw [h42]; exact congrArg nI (by show _ = r + ((daysV n (dayV V)).2.1 5 - V.2.1 5); omega)) hM2)
set_option maxRecDepth 20000 in
set_option maxHeartbeats 4000000 in
theorem s_X8_goOn (E : qE) (g : qG) (m : qM) (y : Nat) (hs : ModS g m y) (V : kV) (hR : RepF (rowF m y 0) V) (u : Nat) (hw : WfV u V) (hu : u ≤ 10000) (x : Int32) : Sp E yX8_goOn cX8_goOn 3 (some .int) 3 0 0 [.ref y, .int x] g m (pM y g m (cDay V x)) := by
  refine Sp.of (by decide) [some (.ref y), some (.int x), none] rfl rfl (Nat.le_of_ble_eq_true rfl) (fun X hX => ?_)
  refine r_iload_n hX dX8_goOn_0 rfl ?_
  refine r_iconst (v := 1) hX dX8_goOn_1 (by decide) ?_
  refine r_bipush (v := 60) hX dX8_goOn_2 (by decide) ?_
  refine r_callS hX dX8_goOn_4 (s_X8_in E g m x 1 60 (by decide) (by decide)) ml_X8_69 rfl rfl ⟨Nat.le_of_ble_eq_true rfl, Nat.le_of_ble_eq_true rfl⟩ ⟨Nat.le_of_ble_eq_true rfl, Nat.le_of_ble_eq_true rfl, rfl, Nat.le_of_ble_eq_true rfl⟩ (fun v4 g4 m4 hp => ?_)
  obtain ⟨hv, hg, hm⟩ := hp
  subst v4
  subst g4
  subst m4
  refine r_if_ne (tgt := 12) hX dX8_goOn_7 (by decide) (fun c7 => ?_) (fun c7 => ?_)
  · have hn : rng x 1 60 := Classical.byContradiction (fun h => c7 (by rw [if_neg h]))
    obtain ⟨D, hD1, hD2, rfl, hD⟩ := rng_to hn (by decide) (by decide)
    have eR : cDay V (nI D) = (0, nI ((daysV D V).2.1 5 - V.2.1 5), daysV D V) := by unfold cDay; rw [if_neg (not_not_intro hn), hD]
    refine r_aload_n hX dX8_goOn_12 rfl ?_
    refine r_iconst (v := 0) hX dX8_goOn_13 (by decide) ?_
    refine r_putI hX dX8_goOn_14 hs.1.1 fl_X8_46 ?_
    refine r_iconst (v := 0) hX dX8_goOn_17 (by decide) ?_
    refine r_istore_n hX dX8_goOn_18 (Nat.le_of_ble_eq_true rfl) rfl ?_
    refine s_X8_goOn_l (g := g) (m := m) hX hs (D := D) (by omega) D 0 V _ 0 _ _ _ _ (by omega) hR.w4 hw (by omega) (by rw [qI_wI, if_pos ⟨rfl, rfl⟩]; rfl) ((MF.rf _ _).wI (Or.inr ⟨rfl, rfl⟩)) (fun m2 j hR2 h42 hM2 => ?_)
    refine r_iconst (v := 0) hX dX8_goOn_43 (by decide) ?_
    exact r_iret hX dX8_goOn_44 (by rw [eR]; exact pM.yes hR2 (by rw [h42, Nat.zero_add]) hM2) ⟨Nat.le_of_ble_eq_true rfl, Nat.le_of_ble_eq_true rfl⟩
  · have hn : ¬ rng x 1 60 := fun h => absurd c7 (by rw [if_pos h]; decide)
    have eR : cDay V x = (2, 0, V) := if_pos hn
    refine r_iconst (v := 2) hX dX8_goOn_10 (by decide) ?_
    exact r_iret hX dX8_goOn_11 (by rw [eR]; exact pM.no hR (by decide) rfl) ⟨Nat.le_of_ble_eq_true rfl, Nat.le_of_ble_eq_true rfl⟩
theorem RepF.add {f f' : Nat → Int32} {V : kV} (h : RepF f V) (hl : V.1.length < 6) {p d b : Nat} (h0 : f' 0 = nI (V.1.length + 1)) (h1 : f' 1 = nI (V.2.1 1 + 1)) (c0 : f' (7 + 5 * V.1.length + 0) = nI (V.2.1 1)) (c1 : f' (7 + 5 * V.1.length + 1) = nI p) (c2 : f' (7 + 5 * V.1.length + 2) = nI b) (c3 : f' (7 + 5 * V.1.length + 3) = nI (V.2.1 2 + d)) (c4 : f' (7 + 5 * V.1.length + 4) = 0) (he : ∀ k, 2 ≤ k → k < 49 → (k < 7 + 5 * V.1.length ∨ 12 + 5 * V.1.length ≤ k) → f' k = f k) : RepF f' (addV V p d b) := by
  obtain ⟨a0, a1, a2, a3⟩ := h
  have hlen : (addV V p d b).1.length = V.1.length + 1 := by simp [addV]
  refine ⟨h0.trans (congrArg nI hlen.symm), fun k b1 b2 => ?_, fun i k hi hk => ?_, fun j hj => ?_⟩
  · show f' k = nI (updH V.2.1 1 (V.2.1 1 + 1) k)
    by_cases e : k = 1
    · subst e; rw [h1, updH_s]
    · rw [he k (by omega) (by omega) (Or.inl (by omega)), updH_n _ _ e]; exact a1 k b1 b2
  · show f' (7 + 5 * i + k) = nI (cAt (V.1 ++ [coN (V.2.1 1) p b (V.2.1 2 + d) 0]) i k)
    rw [hlen] at hi
    rw [cAt_app]
    by_cases e : i < V.1.length
    · rw [if_pos e, he _ (by omega) (by omega) (Or.inl (by omega))]; exact a2 i k e hk
    · have ei : i = V.1.length := by omega
      subst ei
      rw [if_neg e, Nat.sub_self, cAt_cons_0]
      rcases (by omega : k = 0 ∨ k = 1 ∨ k = 2 ∨ k = 3 ∨ k = 4) with rfl | rfl | rfl | rfl | rfl
      · exact c0
      · exact c1
      · exact c2
      · exact c3
      · exact c4
  · rw [he _ (by omega) (by omega) (Or.inr (by omega))]; exact a3 j hj
set_option maxRecDepth 20000 in
set_option maxHeartbeats 4000000 in
theorem s_X8_comes (E : qE) (g : qG) (m : qM) (y : Nat) (hs : ModS g m y) (V : kV) (hR : RepF (rowF m y 0) V) (u : Nat) (hw : WfV u V) (hu : u ≤ 10000) (p d b : Int32) : Sp E yX8_comes cX8_comes 5 (some .int) 1 0 0 [.ref y, .int p, .int d, .int b] g m (pM y g m (cAdd V p d b)) := by
  refine Sp.of (by decide) [some (.ref y), some (.int p), some (.int d), some (.int b), none] rfl rfl (Nat.le_of_ble_eq_true rfl) (fun X hX => ?_)
  have hl := hw.1
  refine r_iload_n hX dX8_comes_0 rfl ?_
  refine r_iconst (v := 2) hX dX8_comes_1 (by decide) ?_
  refine r_bipush (v := 60) hX dX8_comes_2 (by decide) ?_
  refine r_callS hX dX8_comes_4 (s_X8_in E g m p 2 60 (by decide) (by decide)) ml_X8_69 rfl rfl ⟨Nat.le_of_ble_eq_true rfl, Nat.le_of_ble_eq_true rfl⟩ ⟨Nat.le_of_ble_eq_true rfl, Nat.le_of_ble_eq_true rfl, rfl, Nat.le_of_ble_eq_true rfl⟩ (fun v4 g4 m4 hp => ?_)
  obtain ⟨hv, hg, hm⟩ := hp
  subst v4
  subst g4
  subst m4
  refine r_if_eq (tgt := 30) hX dX8_comes_7 (by decide) (fun c7 => ?_) (fun c7 => ?_)
  · have hn : ¬ (rng p 2 60 ∧ rng d 1 60 ∧ rng b 1 20) := fun h => absurd c7 (by rw [if_pos h.1]; decide)
    have eR : cAdd V p d b = (2, 0, V) := if_pos hn
    refine r_iconst (v := 2) hX dX8_comes_30 (by decide) ?_
    exact r_iret hX dX8_comes_31 (by rw [eR]; exact pM.no hR (by decide) rfl) ⟨Nat.le_of_ble_eq_true rfl, Nat.le_of_ble_eq_true rfl⟩
  · refine r_iload_n hX dX8_comes_10 rfl ?_
    refine r_iconst (v := 1) hX dX8_comes_11 (by decide) ?_
    refine r_bipush (v := 60) hX dX8_comes_12 (by decide) ?_
    refine r_callS hX dX8_comes_14 (s_X8_in E g m d 1 60 (by decide) (by decide)) ml_X8_69 rfl rfl ⟨Nat.le_of_ble_eq_true rfl, Nat.le_of_ble_eq_true rfl⟩ ⟨Nat.le_of_ble_eq_true rfl, Nat.le_of_ble_eq_true rfl, rfl, Nat.le_of_ble_eq_true rfl⟩ (fun v14 g14 m14 hp => ?_)
    obtain ⟨hv, hg, hm⟩ := hp
    subst v14
    subst g14
    subst m14
    refine r_if_eq (tgt := 30) hX dX8_comes_17 (by decide) (fun c17 => ?_) (fun c17 => ?_)
    · have hn : ¬ (rng p 2 60 ∧ rng d 1 60 ∧ rng b 1 20) := fun h => absurd c17 (by rw [if_pos h.2.1]; decide)
      have eR : cAdd V p d b = (2, 0, V) := if_pos hn
      refine r_iconst (v := 2) hX dX8_comes_30 (by decide) ?_
      exact r_iret hX dX8_comes_31 (by rw [eR]; exact pM.no hR (by decide) rfl) ⟨Nat.le_of_ble_eq_true rfl, Nat.le_of_ble_eq_true rfl⟩
    · refine r_iload_n hX dX8_comes_20 rfl ?_
      refine r_iconst (v := 1) hX dX8_comes_21 (by decide) ?_
      refine r_bipush (v := 20) hX dX8_comes_22 (by decide) ?_
      refine r_callS hX dX8_comes_24 (s_X8_in E g m b 1 20 (by decide) (by decide)) ml_X8_69 rfl rfl ⟨Nat.le_of_ble_eq_true rfl, Nat.le_of_ble_eq_true rfl⟩ ⟨Nat.le_of_ble_eq_true rfl, Nat.le_of_ble_eq_true rfl, rfl, Nat.le_of_ble_eq_true rfl⟩ (fun v24 g24 m24 hp => ?_)
      obtain ⟨hv, hg, hm⟩ := hp
      subst v24
      subst g24
      subst m24
      refine r_if_ne (tgt := 32) hX dX8_comes_27 (by decide) (fun c27 => ?_) (fun c27 => ?_)
      · have hnc : (rng p 2 60 ∧ rng d 1 60 ∧ rng b 1 20) := ⟨Classical.byContradiction (fun h => c7 (by rw [if_neg h])), Classical.byContradiction (fun h => c17 (by rw [if_neg h])), Classical.byContradiction (fun h => c27 (by rw [if_neg h]))⟩
        refine r_aload_n hX dX8_comes_32 rfl ?_
        refine r_getR hX dX8_comes_33 hs.1.1 fl_X8_9 hs.2.1 ?_
        refine r_iconst (v := 0) hX dX8_comes_36 (by decide) ?_
        refine r_ialoadN hX dX8_comes_37 hs.1.2.1 (show 0 < 539 by decide) (by decide) ?_
        rw [hR.r0]
        refine r_istore hX dX8_comes_38 (Nat.le_of_ble_eq_true rfl) rfl ?_
        refine r_iload hX dX8_comes_40 rfl ?_
        refine r_bipush (v := 6) hX dX8_comes_42 (by decide) ?_
        refine r_icmp_ne (tgt := 49) hX dX8_comes_44 (by decide) (fun c44 => ?_) (fun c44 => ?_)
        · have h6 : V.1.length < 6 := Nat.lt_of_not_le (fun h => c44 (congrArg nI (show V.1.length = 6 by omega)))
          obtain ⟨p9, -, -, rfl, hp9⟩ := rng_to hnc.1 (by decide) (by decide)
          obtain ⟨d9, -, -, rfl, hd9⟩ := rng_to hnc.2.1 (by decide) (by decide)
          obtain ⟨b9, -, -, rfl, hb9⟩ := rng_to hnc.2.2 (by decide) (by decide)
          have eR : cAdd V (nI p9) (nI d9) (nI b9) = (0, nI (V.2.1 1), addV V p9 d9 b9) := by unfold cAdd; rw [if_neg (not_not_intro hnc), if_neg (by omega), hp9, hd9, hb9]
          refine r_aload_n hX dX8_comes_49 rfl ?_
          refine r_getR hX dX8_comes_50 hs.1.1 fl_X8_9 hs.2.1 ?_
          refine r_iconst (v := 0) hX dX8_comes_53 (by decide) ?_
          refine r_dup2 hX dX8_comes_54 rfl rfl ?_
          refine r_ialoadN hX dX8_comes_55 hs.1.2.1 (show 0 < 539 by decide) (by decide) ?_
          rw [hR.r0]
          refine r_iconst (v := 1) hX dX8_comes_56 (by decide) ?_
          refine r_iadd hX dX8_comes_57 ?_
          rw [nI_1]
          refine r_iastoreN hX dX8_comes_58 hs.1.2.1 (show 0 < 539 by decide) (by decide) ?_
          refine r_aload_n hX dX8_comes_59 rfl ?_
          refine r_iload hX dX8_comes_60 rfl ?_
          refine r_iconst (v := 0) hX dX8_comes_62 (by decide) ?_
          refine r_aload_n hX dX8_comes_63 rfl ?_
          refine r_getR hX dX8_comes_64 hs.1.1 fl_X8_9 hs.2.1 ?_
          refine r_iconst (v := 1) hX dX8_comes_67 (by decide) ?_
          refine r_ialoadN hX dX8_comes_68 hs.1.2.1 (show 1 < 539 by decide) (by decide) ?_
          rw [show qI (wI m (y + 1) 0 (nI (V.1.length + 1))) (y + 1) 1 = nI (V.2.1 1) by rw [qI_wI, if_neg (by omega)]; exact hR.rH (by decide) (by decide)]
          refine r_callV hX dX8_comes_69 (s_X8_set E g _ y (by exact hs.to rfl) V.1.length 0 (by omega) (nI (V.2.1 1))) ml_X8_57 rfl rfl hs.1.1 rfl ⟨Nat.le_of_ble_eq_true rfl, Nat.le_of_ble_eq_true rfl⟩ ⟨Nat.le_of_ble_eq_true rfl, Nat.le_of_ble_eq_true rfl, rfl, Nat.le_of_ble_eq_true rfl⟩ (fun v69 g69 m69 hp => ?_)
          obtain ⟨hv, hg, hm⟩ := hp
          subst v69
          subst g69
          subst m69
          refine r_aload_n hX dX8_comes_72 rfl ?_
          refine r_iload hX dX8_comes_73 rfl ?_
          refine r_iconst (v := 1) hX dX8_comes_75 (by decide) ?_
          refine r_iload_n hX dX8_comes_76 rfl ?_
          refine r_callV hX dX8_comes_77 (s_X8_set E g _ y (by exact hs.to rfl) V.1.length 1 (by omega) (nI p9)) ml_X8_57 rfl rfl hs.1.1 rfl ⟨Nat.le_of_ble_eq_true rfl, Nat.le_of_ble_eq_true rfl⟩ ⟨Nat.le_of_ble_eq_true rfl, Nat.le_of_ble_eq_true rfl, rfl, Nat.le_of_ble_eq_true rfl⟩ (fun v77 g77 m77 hp => ?_)
          obtain ⟨hv, hg, hm⟩ := hp
          subst v77
          subst g77
          subst m77
          refine r_aload_n hX dX8_comes_80 rfl ?_
          refine r_iload hX dX8_comes_81 rfl ?_
          refine r_iconst (v := 2) hX dX8_comes_83 (by decide) ?_
          refine r_iload_n hX dX8_comes_84 rfl ?_
          refine r_callV hX dX8_comes_85 (s_X8_set E g _ y (by exact hs.to rfl) V.1.length 2 (by omega) (nI b9)) ml_X8_57 rfl rfl hs.1.1 rfl ⟨Nat.le_of_ble_eq_true rfl, Nat.le_of_ble_eq_true rfl⟩ ⟨Nat.le_of_ble_eq_true rfl, Nat.le_of_ble_eq_true rfl, rfl, Nat.le_of_ble_eq_true rfl⟩ (fun v85 g85 m85 hp => ?_)
          obtain ⟨hv, hg, hm⟩ := hp
          subst v85
          subst g85
          subst m85
          refine r_aload_n hX dX8_comes_88 rfl ?_
          refine r_iload hX dX8_comes_89 rfl ?_
          refine r_iconst (v := 3) hX dX8_comes_91 (by decide) ?_
          refine r_aload_n hX dX8_comes_92 rfl ?_
          refine r_getR hX dX8_comes_93 hs.1.1 fl_X8_9 hs.2.1 ?_
          refine r_iconst (v := 2) hX dX8_comes_96 (by decide) ?_
          refine r_ialoadN hX dX8_comes_97 hs.1.2.1 (show 2 < 539 by decide) (by decide) ?_
          generalize hm3 : wI (wI (wI (wI m (y + 1) 0 (nI (V.1.length + 1))) (y + 1) (7 + 5 * V.1.length + 0) (nI (V.2.1 1))) (y + 1) (7 + 5 * V.1.length + 1) (nI p9)) (y + 1) (7 + 5 * V.1.length + 2) (nI b9) = m3
          have hm32 : m3.2 = m.2 := by rw [← hm3]; rfl
          rw [show qI m3 (y + 1) 2 = nI (V.2.1 2) by rw [← hm3]; repeat rw [qI_wI, if_neg (by omega)]
                                                     exact hR.rH (by decide) (by decide)]
          refine r_iload_n hX dX8_comes_98 rfl ?_
          refine r_iadd hX dX8_comes_99 ?_
          rw [nI_add]
          refine r_callV hX dX8_comes_100 (s_X8_set E g m3 y (hs.to hm32) V.1.length 3 (by omega) (nI (V.2.1 2 + d9))) ml_X8_57 rfl rfl hs.1.1 rfl ⟨Nat.le_of_ble_eq_true rfl, Nat.le_of_ble_eq_true rfl⟩ ⟨Nat.le_of_ble_eq_true rfl, Nat.le_of_ble_eq_true rfl, rfl, Nat.le_of_ble_eq_true rfl⟩ (fun v100 g100 m100 hp => ?_)
          obtain ⟨hv, hg, hm⟩ := hp
          subst v100
          subst g100
          subst m100
          refine r_aload_n hX dX8_comes_103 rfl ?_
          refine r_iload hX dX8_comes_104 rfl ?_
          refine r_iconst (v := 4) hX dX8_comes_106 (by decide) ?_
          refine r_iconst (v := 0) hX dX8_comes_107 (by decide) ?_
          refine r_callV hX dX8_comes_108 (s_X8_set E g _ y (by exact hs.to hm32) V.1.length 4 (by omega) 0) ml_X8_57 rfl rfl hs.1.1 rfl ⟨Nat.le_of_ble_eq_true rfl, Nat.le_of_ble_eq_true rfl⟩ ⟨Nat.le_of_ble_eq_true rfl, Nat.le_of_ble_eq_true rfl, rfl, Nat.le_of_ble_eq_true rfl⟩ (fun v108 g108 m108 hp => ?_)
          obtain ⟨hv, hg, hm⟩ := hp
          subst v108
          subst g108
          subst m108
          refine r_aload_n hX dX8_comes_111 rfl ?_
          refine r_aload_n hX dX8_comes_112 rfl ?_
          refine r_getR hX dX8_comes_113 hs.1.1 fl_X8_9 (hs.to hm32).2.1 ?_
          refine r_iconst (v := 1) hX dX8_comes_116 (by decide) ?_
          refine r_ialoadN hX dX8_comes_117 hs.1.2.1 (show 1 < 539 by decide) (by decide) ?_
          generalize hm5 : wI (wI m3 (y + 1) (7 + 5 * V.1.length + 3) (nI (V.2.1 2 + d9))) (y + 1) (7 + 5 * V.1.length + 4) 0 = m5
          have hm52 : m5.2 = m.2 := by rw [← hm5]; exact hm32
          have e51 : qI m5 (y + 1) 1 = nI (V.2.1 1) := by
            rw [← hm5, ← hm3]; repeat rw [qI_wI, if_neg (by omega)]
            exact hR.rH (by decide) (by decide)
          rw [e51]
          refine r_putI hX dX8_comes_118 hs.1.1 fl_X8_46 ?_
          refine r_aload_n hX dX8_comes_121 rfl ?_
          refine r_getR hX dX8_comes_122 hs.1.1 fl_X8_9 (hs.to hm52).2.1 ?_
          refine r_iconst (v := 1) hX dX8_comes_125 (by decide) ?_
          refine r_dup2 hX dX8_comes_126 rfl rfl ?_
          refine r_ialoadN hX dX8_comes_127 hs.1.2.1 (show 1 < 539 by decide) (by decide) ?_
          rw [show qI (wI m5 y 4 (nI (V.2.1 1))) (y + 1) 1 = nI (V.2.1 1) by rw [qI_wI, if_neg (by omega)]; exact e51]
          refine r_iconst (v := 1) hX dX8_comes_128 (by decide) ?_
          refine r_iadd hX dX8_comes_129 ?_
          rw [nI_1]
          refine r_iastoreN hX dX8_comes_130 hs.1.2.1 (show 1 < 539 by decide) (by decide) ?_
          refine r_iconst (v := 0) hX dX8_comes_131 (by decide) ?_
          have hMn : MF (P0 y) m (wI (wI m5 y 4 (nI (V.2.1 1))) (y + 1) 1 (nI (V.2.1 1 + 1))) := by
            rw [← hm5, ← hm3]
            exact ((((((((MF.rf _ _).wI (Or.inl ⟨rfl, by omega⟩)).wI (Or.inl ⟨rfl, by omega⟩)).wI (Or.inl ⟨rfl, by omega⟩)).wI (Or.inl ⟨rfl, by omega⟩)).wI (Or.inl ⟨rfl, by omega⟩)).wI (Or.inl ⟨rfl, by omega⟩)).wI (Or.inr ⟨rfl, rfl⟩)).wI (Or.inl ⟨rfl, by omega⟩)
          have ev : ∀ k, rowF (wI (wI m5 y 4 (nI (V.2.1 1))) (y + 1) 1 (nI (V.2.1 1 + 1))) y 0 k = if k = 1 then nI (V.2.1 1 + 1) else if k = 7 + 5 * V.1.length + 4 then 0 else if k = 7 + 5 * V.1.length + 3 then nI (V.2.1 2 + d9) else if k = 7 + 5 * V.1.length + 2 then nI b9 else if k = 7 + 5 * V.1.length + 1 then nI p9 else if k = 7 + 5 * V.1.length + 0 then nI (V.2.1 1) else if k = 0 then nI (V.1.length + 1) else rowF m y 0 k := fun k => by
            rw [rowF_w, rowF_n _ _ (show y ≠ y + 1 by omega), ← hm5, rowF_w, rowF_w, ← hm3, rowF_w, rowF_w, rowF_w, rowF_w]
          have hRn : RepF (rowF (wI (wI m5 y 4 (nI (V.2.1 1))) (y + 1) 1 (nI (V.2.1 1 + 1))) y 0) (addV V p9 d9 b9) := by
            refine hR.add h6 ?_ ?_ ?_ ?_ ?_ ?_ ?_ (fun k h1 h2 h3 => ?_)
            · rw [ev]; repeat rw [if_neg (by omega)]
              rw [if_pos rfl]
            · rw [ev, if_pos rfl]
            · rw [ev]; repeat rw [if_neg (by omega)]
              rw [if_pos rfl]
            · rw [ev]; repeat rw [if_neg (by omega)]
              rw [if_pos rfl]
            · rw [ev]; repeat rw [if_neg (by omega)]
              rw [if_pos rfl]
            · rw [ev]; repeat rw [if_neg (by omega)]
              rw [if_pos rfl]
            · rw [ev, if_neg (by omega), if_pos rfl]
            · rw [ev]; repeat rw [if_neg (by omega)]
          exact r_iret hX dX8_comes_132 (by rw [eR]; exact pM.yes hRn (by rw [qI_wI, if_neg (by omega), qI_wI, if_pos ⟨rfl, rfl⟩]) hMn) ⟨Nat.le_of_ble_eq_true rfl, Nat.le_of_ble_eq_true rfl⟩
        · have h6 : V.1.length = 6 := (nI_eq (b := 6) (by omega) (by decide)).mp c44
          have eR : cAdd V p d b = (3, 0, V) := by unfold cAdd; rw [if_neg (not_not_intro hnc), if_pos h6]
          refine r_iconst (v := 3) hX dX8_comes_47 (by decide) ?_
          exact r_iret hX dX8_comes_48 (by rw [eR]; exact pM.no hR (by decide) rfl) ⟨Nat.le_of_ble_eq_true rfl, Nat.le_of_ble_eq_true rfl⟩
      · have hn : ¬ (rng p 2 60 ∧ rng d 1 60 ∧ rng b 1 20) := fun h => absurd c27 (by rw [if_pos h.2.2]; decide)
        have eR : cAdd V p d b = (2, 0, V) := if_pos hn
        refine r_iconst (v := 2) hX dX8_comes_30 (by decide) ?_
        exact r_iret hX dX8_comes_31 (by rw [eR]; exact pM.no hR (by decide) rfl) ⟨Nat.le_of_ble_eq_true rfl, Nat.le_of_ble_eq_true rfl⟩
