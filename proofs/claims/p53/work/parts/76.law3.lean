/-! ===== the law: the observatory is built; a line is a text ===== -/
/-- of the locals these are kept -/
def lf : List Bool → List (Option Value) → List (Option Value)
  | true :: ms, z :: l => z :: lf ms l
  | false :: ms, _ :: l => none :: lf ms l
  | _, l => l
theorem lf_len : ∀ (ms : List Bool) (l : List (Option Value)), (lf ms l).length = l.length
  | [], l => by cases l <;> rfl
  | true :: ms, [] => rfl
  | false :: ms, [] => rfl
  | true :: ms, z :: l => congrArg Nat.succ (lf_len ms l)
  | false :: ms, z :: l => congrArg Nat.succ (lf_len ms l)
theorem lf_get : ∀ (ms : List Bool) (l : List (Option Value)) (i : Nat) (v : Value), (lf ms l)[i]? = some (some v) → l[i]? = some (some v)
  | [], l, i, v, h => by cases l <;> exact h
  | true :: ms, [], i, v, h => h
  | false :: ms, [], i, v, h => h
  | true :: ms, z :: l, 0, v, h => h
  | true :: ms, z :: l, i + 1, v, h => by
    have h : (lf ms l)[i]? = some (some v) := h
    exact lf_get ms l i v h
  | false :: ms, z :: l, 0, v, h => by cases h
  | false :: ms, z :: l, i + 1, v, h => by
    have h : (lf ms l)[i]? = some (some v) := h
    exact lf_get ms l i v h
theorem r_keep {E : qE} {X : qX} {cN sN : Nat} {Q : State → Prop} {g : qG} {m : qM} {pc : Nat} {l : List (Option Value)} {st : List Value} (ms : List Bool) (kk : WS E X cN sN Q g m pc (lf ms l) st) : WS E X cN sN Q g m pc l st := fun H locs ls h1 h2 h3 => by
  refine kk H locs ls h1 h2 ?_
  rw [lf_len]
  refine ⟨h3.1, h3.2.1, fun q hq => ?_⟩
  obtain ⟨j, e1, e2⟩ := (ql_mem _ 0).mp hq
  exact h3.2.2 q ((ql_mem _ 0).mpr ⟨j, e1, lf_get ms l j _ e2⟩)
set_option maxRecDepth 20000 in
set_option maxHeartbeats 4000000 in
theorem s_L_build_a {E : qE} {X : qX} {Q : State → Prop} (hX : MC E yL_build cL_build 4 none 14 60 444 [] X) {x : Nat} (K : ∀ (u : Nat) (O : kO) (g : qG) (m : qM), ObsV g m x O → WfO u O → u ≤ 48 + 0 → WS E X 4 24 Q g m 64 [some (.ref x), some (.ref (eT E 2)), none, some (.int (nI 4))] []) : ∀ (n i : Nat), i + n = 4 → ∀ (u : Nat) (O : kO) (g : qG) (m : qM), ObsV g m x O → WfO u O → u ≤ 12 * i → u ≤ 6000 → ∀ cN sN : Nat, cN ≤ i → sN ≤ 6 * i → WS E X cN sN Q g m 2 [some (.ref x), some (.ref (eT E 2)), none, some (.int (nI i))] [] := by
  intro n
  induction n with
  | zero =>
    intro i hi u O g m hO hw hu hu2 cN sN hc hs
    have : i = 4 := by omega
    subst this
    refine r_iload_n hX dL_build_2 rfl ?_
    refine r_iconst (v := 4) hX dL_build_3 (by decide) ?_
    refine r_icmp_ge (tgt := 64) hX dL_build_4 (by decide) (fun c4 => ?_) (fun c4 => ?_)
    · exact r_widen (cN' := 4) (sN' := 24) (by omega) (by omega) (K u O g m hO hw (by omega))
    · exact absurd (Int32.le_refl 4) c4
  | succ n ih =>
    intro i hi u O g m hO hw hu hu2 cN sN hc hs
    refine r_iload_n hX dL_build_2 rfl ?_
    refine r_iconst (v := 4) hX dL_build_3 (by decide) ?_
    refine r_icmp_ge (tgt := 64) hX dL_build_4 (by decide) (fun c4 => ?_) (fun c4 => ?_)
    · exact absurd c4 (nI_ge (b := 4) (by omega) (by decide))
    · refine r_aload_n hX dL_build_7 rfl ?_
      refine r_iconst (v := 2) hX dL_build_8 (by decide) ?_
      refine r_aload_n hX dL_build_9 rfl ?_
      refine r_iload_n hX dL_build_10 rfl ?_
      refine r_aload_n hX dL_build_11 rfl ?_
      refine r_iconst (v := 4) hX dL_build_12 (by decide) ?_
      refine r_iconst (v := 2) hX dL_build_13 (by decide) ?_
      refine r_callS hX dL_build_14 (s_L_some E _ _ (4) (2) (by omega) (by omega)) ml_L_64 rfl rfl ⟨Nat.le_of_ble_eq_true rfl, Nat.le_of_ble_eq_true rfl⟩ ⟨by omega, by omega, rfl, Nat.le_of_ble_eq_true rfl⟩ (fun v14 g14 m14 hp => ?_)
      obtain ⟨⟨j1, hj1, hv⟩, hg, hm⟩ := hp
      subst v14
      subst g14
      subst m14
      refine r_if_ne (tgt := 25) hX dL_build_17 (by decide) (fun c17 => ?_) (fun c17 => ?_)
      · refine r_bipush (v := 9) hX dL_build_25 (by decide) ?_
        refine r_callS hX dL_build_27 (s_L_some E _ _ (i) (9) (by omega) (by omega)) ml_L_64 rfl rfl ⟨Nat.le_of_ble_eq_true rfl, Nat.le_of_ble_eq_true rfl⟩ ⟨by omega, by omega, rfl, Nat.le_of_ble_eq_true rfl⟩ (fun v27 g27 m27 hp => ?_)
        obtain ⟨⟨j2, hj2, hv⟩, hg, hm⟩ := hp
        subst v27
        subst g27
        subst m27
        refine r_iadd hX dL_build_30 ?_
        refine r_iconst (v := 1) hX dL_build_31 (by decide) ?_
        refine r_aload_n hX dL_build_32 rfl ?_
        refine r_iconst (v := 5) hX dL_build_33 (by decide) ?_
        refine r_iload_n hX dL_build_34 rfl ?_
        refine r_iadd hX dL_build_35 ?_
        rw [show (5 : Int32) + nI i = nI (5 + i) from nI_add 5 i]
        refine r_bipush (v := 12) hX dL_build_36 (by decide) ?_
        refine r_callS hX dL_build_38 (s_L_some E _ _ (5 + i) (12) (by omega) (by omega)) ml_L_64 rfl rfl ⟨Nat.le_of_ble_eq_true rfl, Nat.le_of_ble_eq_true rfl⟩ ⟨by omega, by omega, rfl, Nat.le_of_ble_eq_true rfl⟩ (fun v38 g38 m38 hp => ?_)
        obtain ⟨⟨j3, hj3, hv⟩, hg, hm⟩ := hp
        subst v38
        subst g38
        subst m38
        refine r_iadd hX dL_build_41 ?_
        refine r_iconst (v := 1) hX dL_build_42 (by decide) ?_
        refine r_aload_n hX dL_build_43 rfl ?_
        refine r_bipush (v := 9) hX dL_build_44 (by decide) ?_
        refine r_iload_n hX dL_build_46 rfl ?_
        refine r_iadd hX dL_build_47 ?_
        rw [show (9 : Int32) + nI i = nI (9 + i) from nI_add 9 i]
        refine r_bipush (v := 20) hX dL_build_48 (by decide) ?_
        refine r_callS hX dL_build_50 (s_L_some E _ _ (9 + i) (20) (by omega) (by omega)) ml_L_64 rfl rfl ⟨Nat.le_of_ble_eq_true rfl, Nat.le_of_ble_eq_true rfl⟩ ⟨by omega, by omega, rfl, Nat.le_of_ble_eq_true rfl⟩ (fun v50 g50 m50 hp => ?_)
        obtain ⟨⟨j4, hj4, hv⟩, hg, hm⟩ := hp
        subst v50
        subst g50
        subst m50
        refine r_iadd hX dL_build_53 ?_
        refine r_callH hX dL_build_54 (s_L_addComet E _ _ x O hO u hw (by omega) _ _ _) ml_L_68 rfl rfl ⟨Nat.le_of_ble_eq_true rfl, Nat.le_of_ble_eq_true rfl⟩ ⟨by omega, by omega, rfl, Nat.le_of_ble_eq_true rfl⟩ (fun v54 g54 m54 hp => ?_)
        obtain ⟨⟨r9, hv⟩, hO9⟩ := hp
        subst v54
        refine r_istore_n hX dL_build_57 (Nat.le_of_ble_eq_true rfl) rfl ?_
        refine r_iinc (v := nI (i + 1)) hX dL_build_58 rfl (nI_1 i) rfl ?_
        refine r_goto (tgt := 2) hX dL_build_61 (by decide) ?_
        refine r_keep [true, true, false, true] ?_
        exact ih (i + 1) (by omega) (u + 12) _ _ _ hO9 (addO_wf hw _ _ _) (by omega) (by omega) (cN + 1) (sN + 6) (by omega) (by omega)
      · refine r_bipush (v := 59) hX dL_build_20 (by decide) ?_
        refine r_goto (tgt := 27) hX dL_build_22 (by decide) ?_
        refine r_callS hX dL_build_27 (s_L_some E _ _ (i) (59) (by omega) (by omega)) ml_L_64 rfl rfl ⟨Nat.le_of_ble_eq_true rfl, Nat.le_of_ble_eq_true rfl⟩ ⟨by omega, by omega, rfl, Nat.le_of_ble_eq_true rfl⟩ (fun v27 g27 m27 hp => ?_)
        obtain ⟨⟨j2, hj2, hv⟩, hg, hm⟩ := hp
        subst v27
        subst g27
        subst m27
        refine r_iadd hX dL_build_30 ?_
        refine r_iconst (v := 1) hX dL_build_31 (by decide) ?_
        refine r_aload_n hX dL_build_32 rfl ?_
        refine r_iconst (v := 5) hX dL_build_33 (by decide) ?_
        refine r_iload_n hX dL_build_34 rfl ?_
        refine r_iadd hX dL_build_35 ?_
        rw [show (5 : Int32) + nI i = nI (5 + i) from nI_add 5 i]
        refine r_bipush (v := 12) hX dL_build_36 (by decide) ?_
        refine r_callS hX dL_build_38 (s_L_some E _ _ (5 + i) (12) (by omega) (by omega)) ml_L_64 rfl rfl ⟨Nat.le_of_ble_eq_true rfl, Nat.le_of_ble_eq_true rfl⟩ ⟨by omega, by omega, rfl, Nat.le_of_ble_eq_true rfl⟩ (fun v38 g38 m38 hp => ?_)
        obtain ⟨⟨j3, hj3, hv⟩, hg, hm⟩ := hp
        subst v38
        subst g38
        subst m38
        refine r_iadd hX dL_build_41 ?_
        refine r_iconst (v := 1) hX dL_build_42 (by decide) ?_
        refine r_aload_n hX dL_build_43 rfl ?_
        refine r_bipush (v := 9) hX dL_build_44 (by decide) ?_
        refine r_iload_n hX dL_build_46 rfl ?_
        refine r_iadd hX dL_build_47 ?_
        rw [show (9 : Int32) + nI i = nI (9 + i) from nI_add 9 i]
        refine r_bipush (v := 20) hX dL_build_48 (by decide) ?_
        refine r_callS hX dL_build_50 (s_L_some E _ _ (9 + i) (20) (by omega) (by omega)) ml_L_64 rfl rfl ⟨Nat.le_of_ble_eq_true rfl, Nat.le_of_ble_eq_true rfl⟩ ⟨by omega, by omega, rfl, Nat.le_of_ble_eq_true rfl⟩ (fun v50 g50 m50 hp => ?_)
        obtain ⟨⟨j4, hj4, hv⟩, hg, hm⟩ := hp
        subst v50
        subst g50
        subst m50
        refine r_iadd hX dL_build_53 ?_
        refine r_callH hX dL_build_54 (s_L_addComet E _ _ x O hO u hw (by omega) _ _ _) ml_L_68 rfl rfl ⟨Nat.le_of_ble_eq_true rfl, Nat.le_of_ble_eq_true rfl⟩ ⟨by omega, by omega, rfl, Nat.le_of_ble_eq_true rfl⟩ (fun v54 g54 m54 hp => ?_)
        obtain ⟨⟨r9, hv⟩, hO9⟩ := hp
        subst v54
        refine r_istore_n hX dL_build_57 (Nat.le_of_ble_eq_true rfl) rfl ?_
        refine r_iinc (v := nI (i + 1)) hX dL_build_58 rfl (nI_1 i) rfl ?_
        refine r_goto (tgt := 2) hX dL_build_61 (by decide) ?_
        refine r_keep [true, true, false, true] ?_
        exact ih (i + 1) (by omega) (u + 12) _ _ _ hO9 (addO_wf hw _ _ _) (by omega) (by omega) (cN + 1) (sN + 6) (by omega) (by omega)
set_option maxRecDepth 20000 in
set_option maxHeartbeats 4000000 in
theorem s_L_build_b {E : qE} {X : qX} {Q : State → Prop} (hX : MC E yL_build cL_build 4 none 14 60 444 [] X) {x : Nat} (K : ∀ (u : Nat) (O : kO) (g : qG) (m : qM), ObsV g m x O → WfO u O → u ≤ 216 → WS E X 60 444 Q g m 89 [some (.ref x), some (.ref (eT E 2)), none, some (.int (nI 14))] []) : ∀ (n i : Nat), i + n = 14 → ∀ (u : Nat) (O : kO) (g : qG) (m : qM), ObsV g m x O → WfO u O → u ≤ 48 + 12 * i → u ≤ 6000 → ∀ cN sN : Nat, cN ≤ 4 + 4 * i → sN ≤ 24 + 30 * i → WS E X cN sN Q g m 66 [some (.ref x), some (.ref (eT E 2)), none, some (.int (nI i))] [] := by
  intro n
  induction n with
  | zero =>
    intro i hi u O g m hO hw hu hu2 cN sN hc hs
    have : i = 14 := by omega
    subst this
    refine r_iload_n hX dL_build_66 rfl ?_
    refine r_bipush (v := 14) hX dL_build_67 (by decide) ?_
    refine r_icmp_ge (tgt := 89) hX dL_build_69 (by decide) (fun c69 => ?_) (fun c69 => ?_)
    · exact r_widen (cN' := 60) (sN' := 444) (by omega) (by omega) (K u O g m hO hw (by omega))
    · exact absurd (Int32.le_refl 14) c69
  | succ n ih =>
    intro i hi u O g m hO hw hu hu2 cN sN hc hs
    refine r_iload_n hX dL_build_66 rfl ?_
    refine r_bipush (v := 14) hX dL_build_67 (by decide) ?_
    refine r_icmp_ge (tgt := 89) hX dL_build_69 (by decide) (fun c69 => ?_) (fun c69 => ?_)
    · exact absurd c69 (nI_ge (b := 14) (by omega) (by decide))
    · refine r_aload_n hX dL_build_72 rfl ?_
      refine r_aload_n hX dL_build_73 rfl ?_
      refine r_bipush (v := 13) hX dL_build_74 (by decide) ?_
      refine r_iconst (v := 3) hX dL_build_76 (by decide) ?_
      refine r_iload_n hX dL_build_77 rfl ?_
      refine r_imul hX dL_build_78 ?_
      rw [show (3 : Int32) * nI i = nI (3 * i) from pk_mul 3 i]
      refine r_iadd hX dL_build_79 ?_
      rw [show (13 : Int32) + nI (3 * i) = nI (13 + 3 * i) from nI_add 13 (3 * i)]
      refine r_callS hX dL_build_80 (s_L_acts E _ _ x O hO u hw (by omega) (13 + 3 * i) (by omega)) ml_L_71 rfl rfl ⟨Nat.le_of_ble_eq_true rfl, Nat.le_of_ble_eq_true rfl⟩ ⟨by omega, by omega, rfl, Nat.le_of_ble_eq_true rfl⟩ (fun v80 g80 m80 hp => ?_)
      obtain ⟨hv, O9, hO9, hw9⟩ := hp
      subst v80
      refine r_iinc (v := nI (i + 1)) hX dL_build_83 rfl (nI_1 i) rfl ?_
      refine r_goto (tgt := 66) hX dL_build_86 (by decide) ?_
      exact ih (i + 1) (by omega) (u + 12) O9 _ _ hO9 hw9 (by omega) (by omega) (cN + 4) (sN + 30) (by omega) (by omega)
set_option maxRecDepth 20000 in
set_option maxHeartbeats 4000000 in
theorem s_L_build (E : qE) (g : qG) (m : qM) (x : Nat) (O : kO) (hO : ObsV g m x O) (hw : WfO 0 O) : Sp E yL_build cL_build 4 none 14 60 444 [.ref x, .ref (eT E 2)] g m (fun v g' m' => v = none ∧ ∃ O', ObsV g' m' x O' ∧ WfO 216 O') := by
  refine Sp.ofF (by decide +kernel) [some (.ref x), some (.ref (eT E 2)), none, none] rfl rfl (Nat.le_of_ble_eq_true rfl) (fun X hX => ?_)
  refine r_iconst (v := 0) hX dL_build_0 (by decide) ?_
  refine r_istore_n hX dL_build_1 (Nat.le_of_ble_eq_true rfl) rfl ?_
  refine s_L_build_a hX (fun u O g m hO hw hu => ?_) 4 0 rfl 0 O g m hO hw (by omega) (by omega) 0 0 (by omega) (by omega)
  refine r_iconst (v := 0) hX dL_build_64 (by decide) ?_
  refine r_istore_n hX dL_build_65 (Nat.le_of_ble_eq_true rfl) rfl ?_
  refine s_L_build_b hX (fun u O g m hO hw hu => ?_) 14 0 rfl u O g m hO hw (by omega) (by omega) 4 24 (by omega) (by omega)
  exact r_vret hX dL_build_89 ⟨rfl, O, hO, hw.up (by omega)⟩ ⟨Nat.le_of_ble_eq_true rfl, Nat.le_of_ble_eq_true rfl⟩
set_option maxRecDepth 20000 in
set_option maxHeartbeats 4000000 in
theorem s_L_isLine_l {E : qE} {X : qX} {Q : State → Prop} (hX : MC E yL_isLine cL_isLine 4 (some .boolean) 12 110 660 [] X) {hh : Nat → Option qSh} {n : qM} {x u s v : Nat} {ds : List Nat} {O : kO} (hw : WfO u O) (hu : u ≤ 6144) (hl : oLn O = ds) (hT : ∀ z, Txt E (hh, z) n s v ds) (K : ∀ (g : qG) (m : qM) (G : qG) (M : qM), ObsV g m x O → Jn g m (hh, g.2) n G M → WS E X 110 660 Q G M 38 [some (.ref x), some (.int (nI ds.length)), some (.ref s), some (.int (nI ds.length))] []) : ∀ (k i : Nat), i + k = ds.length → ∀ (g : qG) (m : qM) (G : qG) (M : qM), ObsV g m x O → Jn g m (hh, g.2) n G M → WS E X i (6 * i) Q G M 12 [some (.ref x), some (.int (nI ds.length)), some (.ref s), some (.int (nI i))] [] := by
  intro k
  induction k with
  | zero =>
    intro i hi g m G M hO j
    have hz := (hT 0).2.2
    have : i = ds.length := by omega
    subst this
    refine r_iload_n hX dL_isLine_12 rfl ?_
    refine r_iload_n hX dL_isLine_13 rfl ?_
    refine r_icmp_ge (tgt := 38) hX dL_isLine_14 (by decide) (fun c14 => ?_) (fun c14 => ?_)
    · exact r_widen (cN' := 110) (sN' := 660) (by omega) (by omega) (K g m G M hO j)
    · exact absurd (Int32.le_refl _) c14
  | succ k ih =>
    intro i hi g m G M hO j
    have hz := (hT 0).2.2
    have hil : i < ds.length := by omega
    refine r_iload_n hX dL_isLine_12 rfl ?_
    refine r_iload_n hX dL_isLine_13 rfl ?_
    refine r_icmp_ge (tgt := 38) hX dL_isLine_14 (by decide) (fun c14 => ?_) (fun c14 => ?_)
    · exact absurd c14 (nI_ge hil (by omega))
    · refine r_aload_n hX dL_isLine_17 rfl ?_
      refine r_iload_n hX dL_isLine_18 rfl ?_
      refine r_callVX hX dL_isLine_19 (SpX.join j (s_X7_outputAt (eP E (dom (hh, g.2))) g m x O hO u hw hu (nI i))) ml_L_98 mk_L_98 rfl rfl (j.2.2.1 x _ hO.1.1).1 rfl ⟨Nat.le_of_ble_eq_true rfl, Nat.le_of_ble_eq_true rfl⟩ ⟨by omega, by omega, rfl, Nat.le_of_ble_eq_true rfl⟩ (fun v19 g19 m19 hp => ?_) (fun nm gx mx hp => ?_)
      rotate_left
      · obtain ⟨g', m', ⟨⟨k9, hk9, -⟩, -⟩, -⟩ := hp
        have e9 : qOut O (nI i) = _ := if_pos ⟨nI_pos' (by omega), nI_lt (by rw [hl]; exact hil) (by rw [hl]; omega)⟩
        rw [e9] at hk9
        exact absurd hk9 (Nat.succ_ne_zero k9).symm
      obtain ⟨g', m', ⟨-, hv, hO2, -⟩, j2⟩ := hp
      have e9 : qOut O (nI i) = (0, nI (ds.getD i 0), O) := by
        refine (if_pos ⟨nI_pos' (by omega), nI_lt (by rw [hl]; exact hil) (by rw [hl]; omega)⟩).trans ?_
        rw [nI_clamp (by omega), hl]
      rw [e9] at hv hO2
      subst v19
      refine r_aload_n hX dL_isLine_22 rfl ?_
      refine r_iload_n hX dL_isLine_23 rfl ?_
      refine r_callTx hX dL_isLine_24 (Txt.sub (hT g'.2) j2.2.2.2.1) (t_J0_charAt E _ _ s v ds (Txt.sub (hT g'.2) j2.2.2.2.1) i hil) ml_L_102 rfl rfl rfl ⟨Nat.le_of_ble_eq_true rfl, Nat.le_of_ble_eq_true rfl⟩ ⟨by omega, by omega, rfl, Nat.le_of_ble_eq_true rfl⟩ (fun v24 g24 m24 hp => ?_)
      obtain ⟨hv, hg, hm⟩ := hp
      subst v24
      subst g24
      subst m24
      refine r_icmp_eq (tgt := 32) hX dL_isLine_27 (by decide) (fun c27 => ?_) (fun c27 => ?_)
      · refine r_iinc (v := nI (i + 1)) hX dL_isLine_32 rfl (nI_1 i) rfl ?_
        refine r_goto (tgt := 12) hX dL_isLine_35 (by decide) ?_
        exact ih (i + 1) (by omega) g' m' _ _ hO2 j2
      · exact absurd rfl c27
set_option maxRecDepth 20000 in
set_option maxHeartbeats 4000000 in
theorem s_L_isLine (E : qE) {g h G : qG} {m n M : qM} (j : Jn g m h n G M) (x : Nat) (O : kO) (hO : ObsV g m x O) (u : Nat) (hw : WfO u O) (hu : u ≤ 6144) (s v : Nat) (ds : List Nat) (hT : Txt E h n s v ds) (hl : oLn O = ds) : Sp E yL_isLine cL_isLine 4 (some .boolean) 12 110 660 [.ref x, .int (nI ds.length), .ref s] G M (fun v' G' M' => v' = some (.int 1) ∧ ∃ g' m', ObsV g' m' x O ∧ Jn g' m' (h.1, g'.2) n G' M') := by
  refine Sp.ofF (by decide +kernel) [some (.ref x), some (.int (nI ds.length)), some (.ref s), none] rfl rfl (Nat.le_of_ble_eq_true rfl) (fun X hX => ?_)
  have hz := hT.2.2
  have hTG := hT.sub j.2.2.2.1
  refine r_iload_n hX dL_isLine_0 rfl ?_
  refine r_aload_n hX dL_isLine_1 rfl ?_
  refine r_callTx hX dL_isLine_2 hTG (t_J0_length E G M s v ds hTG) ml_L_93 rfl rfl rfl ⟨Nat.le_of_ble_eq_true rfl, Nat.le_of_ble_eq_true rfl⟩ ⟨Nat.le_of_ble_eq_true rfl, Nat.le_of_ble_eq_true rfl, rfl, Nat.le_of_ble_eq_true rfl⟩ (fun v2 g2 m2 hp => ?_)
  obtain ⟨hv, hg, hm⟩ := hp
  subst v2
  subst g2
  subst m2
  refine r_icmp_eq (tgt := 10) hX dL_isLine_5 (by decide) (fun c5 => ?_) (fun c5 => ?_)
  · refine r_iconst (v := 0) hX dL_isLine_10 (by decide) ?_
    refine r_istore_n hX dL_isLine_11 (Nat.le_of_ble_eq_true rfl) rfl ?_
    refine s_L_isLine_l hX (hh := h.1) (n := n) hw hu hl (fun z => hT) (fun g9 m9 G9 M9 hO9 j9 => ?_) ds.length 0 (Nat.zero_add _) g m G M hO (by rw [show (h.1, g.2) = h from Prod.ext rfl (j.1.trans j.2.1.symm)]; exact j)
    refine r_iconst (v := 1) hX dL_isLine_38 (by decide) ?_
    exact r_zret hX dL_isLine_39 rfl ⟨rfl, g9, m9, hO9, j9⟩ ⟨Nat.le_of_ble_eq_true rfl, Nat.le_of_ble_eq_true rfl⟩
  · exact absurd rfl c5
