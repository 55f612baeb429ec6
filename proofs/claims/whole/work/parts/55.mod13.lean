/-! ===== CometObservatoryModel: passes ahead, the best arc ===== -/
/-- with how much brightness a comet passes on a day -/
def brC (c : Nat → Nat) (D : Nat) : Nat := if D < c 3 then 0 else if (D - c 3) % c 1 = 0 then c 2 - (D - c 3) / c 1 else 0
/-- how many of the first pass on a day -/
def cntB (L : List (Nat → Nat)) (D : Nat) : Nat → Nat
  | 0 => 0
  | k + 1 => if 0 < brC (cAt L k) D then cntB L D k + 1 else cntB L D k
def sumB (L : List (Nat → Nat)) (D : Nat) : Nat → Nat
  | 0 => 0
  | d + 1 => sumB L D d + cntB L (D + (d + 1)) L.length
def mIn (O : kO) (d : Int32) : kR := if rng d 0 60 then (0, nI (sumB O.1.1 (O.1.2.1 2) d.toNatClampNeg), O) else (1, 0, O)
/-- what the walks ahead need of the comets -/
def comF (V : kV) : Prop := V.1.length ≤ 6 ∧ V.2.1 2 < 2 ^ 27 ∧ ∀ i, i < V.1.length → 2 ≤ cAt V.1 i 1 ∧ cAt V.1 i 1 ≤ 60 ∧ 1 ≤ cAt V.1 i 2 ∧ cAt V.1 i 2 ≤ 20 ∧ V.2.1 2 < cAt V.1 i 3 ∧ cAt V.1 i 3 ≤ V.2.1 2 + 60
theorem WfO.cF {u : Nat} {O : kO} (hw : WfO u O) (hu : u ≤ 6144) : comF O.1 := ⟨hw.1.1, by have := hw.day hu; omega, fun i hi => by
  obtain ⟨b1, b2, b3, b4, b5, b6, b7, b8⟩ := hw.1.at hi
  exact ⟨b1, b2, b3, b4, b5, b6⟩⟩
theorem brC_0 {c : Nat → Nat} {D : Nat} (h : D < c 3) : brC c D = 0 := if_pos h
theorem brC_n {c : Nat → Nat} {D : Nat} (h : c 3 ≤ D) (h2 : ¬ (D - c 3) % c 1 = 0) : brC c D = 0 := by unfold brC; rw [if_neg (by omega), if_neg h2]
theorem brC_y {c : Nat → Nat} {D : Nat} (h : c 3 ≤ D) (h2 : (D - c 3) % c 1 = 0) : brC c D = c 2 - (D - c 3) / c 1 := by unfold brC; rw [if_neg (by omega), if_pos h2]
theorem brC_le (c : Nat → Nat) (D : Nat) : brC c D ≤ c 2 := by
  unfold brC
  split
  · omega
  · split
    · exact Nat.sub_le _ _
    · omega
set_option maxRecDepth 20000 in
set_option maxHeartbeats 4000000 in
theorem s_X8_brightIn (E : qE) (g : qG) (m : qM) (y : Nat) (hs : ModS g m y) (V : kV) (hR : RepF (rowF m y 0) V) (hF : comF V) (i d : Nat) (hi : i < V.1.length) (hd : d ≤ 60) : Sp E yX8_brightIn cX8_brightIn 5 (some .int) 1 0 0 [.ref y, .int (nI i), .int (nI d)] g m (fun v g' m' => v = some (.int (nI (brC (cAt V.1 i) (V.2.1 2 + d)))) ∧ g' = g ∧ m' = m) := by
  refine Sp.of (by decide) [some (.ref y), some (.int (nI i)), some (.int (nI d)), none, none] rfl rfl (Nat.le_of_ble_eq_true rfl) (fun X hX => ?_)
  obtain ⟨hl, hday, hcom⟩ := hF
  obtain ⟨a1, a2, a3, a4, a5, a6⟩ := hcom i hi
  refine r_aload_n hX dX8_brightIn_0 rfl ?_
  refine r_getR hX dX8_brightIn_1 hs.1.1 fl_X8_9 hs.2.1 ?_
  refine r_iconst (v := 2) hX dX8_brightIn_4 (by decide) ?_
  refine r_ialoadN hX dX8_brightIn_5 hs.1.2.1 (show 2 < 539 by decide) (by decide) ?_
  rw [hR.rH (k := 2) (by decide) (by decide)]
  refine r_iload_n hX dX8_brightIn_6 rfl ?_
  refine r_iadd hX dX8_brightIn_7 ?_
  rw [nI_add]
  refine r_aload_n hX dX8_brightIn_8 rfl ?_
  refine r_iload_n hX dX8_brightIn_9 rfl ?_
  refine r_iconst (v := 3) hX dX8_brightIn_10 (by decide) ?_
  refine r_callV hX dX8_brightIn_11 (s_X8_c E g m y hs i 3 (by omega)) ml_X8_49 rfl rfl hs.1.1 rfl ⟨Nat.le_of_ble_eq_true rfl, Nat.le_of_ble_eq_true rfl⟩ ⟨Nat.le_of_ble_eq_true rfl, Nat.le_of_ble_eq_true rfl, rfl, Nat.le_of_ble_eq_true rfl⟩ (fun v11 g11 m11 hp => ?_)
  obtain ⟨hv, hg, hm⟩ := hp
  subst v11
  subst g11
  subst m11
  rw [hR.rC hi (by decide)]
  refine r_isub hX dX8_brightIn_14 ?_
  refine r_istore_n hX dX8_brightIn_15 (Nat.le_of_ble_eq_true rfl) rfl ?_
  refine r_iload_n hX dX8_brightIn_16 rfl ?_
  refine r_if_lt (tgt := 31) hX dX8_brightIn_17 (by decide) (fun c17 => ?_) (fun c17 => ?_)
  · have h3 : (V.2.1 2 + d) < cAt V.1 i 3 := Nat.lt_of_not_le (fun h => absurd c17 (by rw [pk_sub h]; exact nI_pos (by omega)))
    refine r_iconst (v := 0) hX dX8_brightIn_31 (by decide) ?_
    exact r_iret hX dX8_brightIn_32 ⟨by rw [brC_0 h3]; rfl, rfl, rfl⟩ ⟨Nat.le_of_ble_eq_true rfl, Nat.le_of_ble_eq_true rfl⟩
  · have h3 : cAt V.1 i 3 ≤ (V.2.1 2 + d) := Nat.le_of_not_lt (fun h => c17 (pk_sneg (by omega) h))
    rw [pk_sub h3]
    refine r_iload_n hX dX8_brightIn_20 rfl ?_
    refine r_aload_n hX dX8_brightIn_21 rfl ?_
    refine r_iload_n hX dX8_brightIn_22 rfl ?_
    refine r_iconst (v := 1) hX dX8_brightIn_23 (by decide) ?_
    refine r_callV hX dX8_brightIn_24 (s_X8_c E g m y hs i 1 (by omega)) ml_X8_49 rfl rfl hs.1.1 rfl ⟨Nat.le_of_ble_eq_true rfl, Nat.le_of_ble_eq_true rfl⟩ ⟨Nat.le_of_ble_eq_true rfl, Nat.le_of_ble_eq_true rfl, rfl, Nat.le_of_ble_eq_true rfl⟩ (fun v24 g24 m24 hp => ?_)
    obtain ⟨hv, hg, hm⟩ := hp
    subst v24
    subst g24
    subst m24
    rw [hR.rC hi (by decide)]
    refine r_irem hX dX8_brightIn_27 (nI_ne0 (by omega) (by omega)) ?_
    rw [pk_rem (by omega) (by omega) (by omega)]
    refine r_if_eq (tgt := 33) hX dX8_brightIn_28 (by decide) (fun c28 => ?_) (fun c28 => ?_)
    · have h4 : ((V.2.1 2 + d) - cAt V.1 i 3) % cAt V.1 i 1 = 0 := (nI_eq (b := 0) (by have := Nat.mod_lt ((V.2.1 2 + d) - cAt V.1 i 3) (show 0 < cAt V.1 i 1 by omega); omega) (by decide)).mp c28
      refine r_aload_n hX dX8_brightIn_33 rfl ?_
      refine r_iload_n hX dX8_brightIn_34 rfl ?_
      refine r_iconst (v := 2) hX dX8_brightIn_35 (by decide) ?_
      refine r_callV hX dX8_brightIn_36 (s_X8_c E g m y hs i 2 (by omega)) ml_X8_49 rfl rfl hs.1.1 rfl ⟨Nat.le_of_ble_eq_true rfl, Nat.le_of_ble_eq_true rfl⟩ ⟨Nat.le_of_ble_eq_true rfl, Nat.le_of_ble_eq_true rfl, rfl, Nat.le_of_ble_eq_true rfl⟩ (fun v36 g36 m36 hp => ?_)
      obtain ⟨hv, hg, hm⟩ := hp
      subst v36
      subst g36
      subst m36
      rw [hR.rC hi (by decide)]
      refine r_iload_n hX dX8_brightIn_39 rfl ?_
      refine r_aload_n hX dX8_brightIn_40 rfl ?_
      refine r_iload_n hX dX8_brightIn_41 rfl ?_
      refine r_iconst (v := 1) hX dX8_brightIn_42 (by decide) ?_
      refine r_callV hX dX8_brightIn_43 (s_X8_c E g m y hs i 1 (by omega)) ml_X8_49 rfl rfl hs.1.1 rfl ⟨Nat.le_of_ble_eq_true rfl, Nat.le_of_ble_eq_true rfl⟩ ⟨Nat.le_of_ble_eq_true rfl, Nat.le_of_ble_eq_true rfl, rfl, Nat.le_of_ble_eq_true rfl⟩ (fun v43 g43 m43 hp => ?_)
      obtain ⟨hv, hg, hm⟩ := hp
      subst v43
      subst g43
      subst m43
      rw [hR.rC hi (by decide)]
      refine r_idiv hX dX8_brightIn_46 (nI_ne0 (by omega) (by omega)) ?_
      rw [pk_div (by omega) (by omega) (by omega)]
      refine r_isub hX dX8_brightIn_47 ?_
      have hq : ((V.2.1 2 + d) - cAt V.1 i 3) / cAt V.1 i 1 < 2 ^ 30 := Nat.lt_of_le_of_lt (Nat.div_le_self _ _) (by omega)
      refine r_istore hX dX8_brightIn_48 (Nat.le_of_ble_eq_true rfl) rfl ?_
      refine r_iload hX dX8_brightIn_50 rfl ?_
      refine r_if_ge (tgt := 59) hX dX8_brightIn_52 (by decide) (fun c52 => ?_) (fun c52 => ?_)
      · have h5 : ((V.2.1 2 + d) - cAt V.1 i 3) / cAt V.1 i 1 ≤ cAt V.1 i 2 := Nat.le_of_not_lt (fun h => absurd (pk_sneg hq h) (Int32.not_lt.mpr c52))
        refine r_iload hX dX8_brightIn_59 rfl ?_
        exact r_iret hX dX8_brightIn_61 ⟨by rw [brC_y h3 h4, pk_sub h5], rfl, rfl⟩ ⟨Nat.le_of_ble_eq_true rfl, Nat.le_of_ble_eq_true rfl⟩
      · have h5 : cAt V.1 i 2 < ((V.2.1 2 + d) - cAt V.1 i 3) / cAt V.1 i 1 := Nat.lt_of_not_le (fun h => c52 (by rw [pk_sub h]; exact nI_pos' (Nat.lt_of_le_of_lt (Nat.sub_le _ _) (by omega))))
        refine r_iconst (v := 0) hX dX8_brightIn_55 (by decide) ?_
        refine r_goto (tgt := 61) hX dX8_brightIn_56 (by decide) ?_
        exact r_iret hX dX8_brightIn_61 ⟨by rw [brC_y h3 h4, Nat.sub_eq_zero_of_le (Nat.le_of_lt h5)]; rfl, rfl, rfl⟩ ⟨Nat.le_of_ble_eq_true rfl, Nat.le_of_ble_eq_true rfl⟩
    · have h4 : ¬ ((V.2.1 2 + d) - cAt V.1 i 3) % cAt V.1 i 1 = 0 := fun h => c28 (by rw [h]; rfl)
      refine r_iconst (v := 0) hX dX8_brightIn_31 (by decide) ?_
      exact r_iret hX dX8_brightIn_32 ⟨by rw [brC_n h3 h4]; rfl, rfl, rfl⟩ ⟨Nat.le_of_ble_eq_true rfl, Nat.le_of_ble_eq_true rfl⟩
set_option maxRecDepth 20000 in
set_option maxHeartbeats 4000000 in
theorem s_X8_pin_k {E : qE} {X : qX} {Q : State → Prop} {g : qG} {m : qM} (hX : MC E yX8_passesIn cX8_passesIn 6 (some .int) 2 0 0 [] X) {y : Nat} (hs : ModS g m y) {V : kV} (hR : RepF (rowF m y 0) V) (hF : comF V) {dd e N : Nat} (he : e ≤ 60) : ∀ (n k : Nat), k + n = V.1.length → (∀ w : Int32, WS E X 0 0 Q g m 66 [some (.ref y), some (.int (nI dd)), some (.int (nI (N + cntB V.1 (V.2.1 2 + e) V.1.length))), some (.int 1), some (.int (nI e)), some (.int w)] []) → WS E X 0 0 Q g m 30 [some (.ref y), some (.int (nI dd)), some (.int (nI (N + cntB V.1 (V.2.1 2 + e) k))), some (.int 1), some (.int (nI e)), some (.int (nI k))] [] := by
  intro n
  have hl := hF.1
  induction n with
  | zero =>
    intro k hk K
    have hib : k = V.1.length := by omega
    subst hib
    refine r_iload hX dX8_passesIn_30 rfl ?_
    refine r_aload_n hX dX8_passesIn_32 rfl ?_
    refine r_getR hX dX8_passesIn_33 hs.1.1 fl_X8_9 hs.2.1 ?_
    refine r_iconst (v := 0) hX dX8_passesIn_36 (by decide) ?_
    refine r_ialoadN hX dX8_passesIn_37 hs.1.2.1 (show 0 < 539 by decide) (by decide) ?_
    rw [hR.r0]
    refine r_icmp_ge (tgt := 66) hX dX8_passesIn_38 (by decide) (fun c38 => ?_) (fun c38 => ?_)
    · exact K _
    · exact absurd (Int32.le_refl _) c38
  | succ n ih =>
    intro k hk K
    have hkl : k < V.1.length := by omega
    have hb := brC_le (cAt V.1 k) (V.2.1 2 + e)
    have hc2 := (hF.2.2 k hkl).2.2.2.1
    refine r_iload hX dX8_passesIn_30 rfl ?_
    refine r_aload_n hX dX8_passesIn_32 rfl ?_
    refine r_getR hX dX8_passesIn_33 hs.1.1 fl_X8_9 hs.2.1 ?_
    refine r_iconst (v := 0) hX dX8_passesIn_36 (by decide) ?_
    refine r_ialoadN hX dX8_passesIn_37 hs.1.2.1 (show 0 < 539 by decide) (by decide) ?_
    rw [hR.r0]
    refine r_icmp_ge (tgt := 66) hX dX8_passesIn_38 (by decide) (fun c38 => ?_) (fun c38 => ?_)
    · exact absurd c38 (nI_ge hkl (by omega))
    · refine r_iload_n hX dX8_passesIn_41 rfl ?_
      refine r_aload_n hX dX8_passesIn_42 rfl ?_
      refine r_iload hX dX8_passesIn_43 rfl ?_
      refine r_iload hX dX8_passesIn_45 rfl ?_
      refine r_callV hX dX8_passesIn_47 (s_X8_brightIn E g m y hs V hR hF k e hkl he) ml_X8_132 rfl rfl hs.1.1 rfl ⟨Nat.le_of_ble_eq_true rfl, Nat.le_of_ble_eq_true rfl⟩ ⟨Nat.le_of_ble_eq_true rfl, Nat.le_of_ble_eq_true rfl, rfl, Nat.le_of_ble_eq_true rfl⟩ (fun v47 g47 m47 hp => ?_)
      obtain ⟨hv, hg, hm⟩ := hp
      subst v47
      subst g47
      subst m47
      refine r_if_le (tgt := 57) hX dX8_passesIn_50 (by decide) (fun c50 => ?_) (fun c50 => ?_)
      · have hn : ¬ 0 < brC (cAt V.1 k) (V.2.1 2 + e) := fun h => nI_nle h (by omega) c50
        have hc : cntB V.1 (V.2.1 2 + e) (k + 1) = cntB V.1 (V.2.1 2 + e) k := if_neg hn
        refine r_iconst (v := 0) hX dX8_passesIn_57 (by decide) ?_
        refine r_iadd hX dX8_passesIn_58 ?_
        rw [Int32.add_zero]
        refine r_istore_n hX dX8_passesIn_59 (Nat.le_of_ble_eq_true rfl) rfl ?_
        refine r_iinc (v := nI (k + 1)) hX dX8_passesIn_60 rfl (ii1 k) rfl ?_
        refine r_goto (tgt := 30) hX dX8_passesIn_63 (by decide) ?_
        rw [← hc]
        exact ih (k + 1) (by omega) K
      · have hn : 0 < brC (cAt V.1 k) (V.2.1 2 + e) := Nat.pos_of_ne_zero (fun h => c50 (by rw [h]; decide))
        have hc : cntB V.1 (V.2.1 2 + e) (k + 1) = cntB V.1 (V.2.1 2 + e) k + 1 := if_pos hn
        refine r_iconst (v := 1) hX dX8_passesIn_53 (by decide) ?_
        refine r_goto (tgt := 58) hX dX8_passesIn_54 (by decide) ?_
        refine r_iadd hX dX8_passesIn_58 ?_
        rw [nI_1, Nat.add_assoc]
        refine r_istore_n hX dX8_passesIn_59 (Nat.le_of_ble_eq_true rfl) rfl ?_
        refine r_iinc (v := nI (k + 1)) hX dX8_passesIn_60 rfl (ii1 k) rfl ?_
        refine r_goto (tgt := 30) hX dX8_passesIn_63 (by decide) ?_
        rw [← hc]
        exact ih (k + 1) (by omega) K
set_option maxRecDepth 20000 in
set_option maxHeartbeats 4000000 in
theorem s_X8_pin_d {E : qE} {X : qX} {Q : State → Prop} {g : qG} {m : qM} (hX : MC E yX8_passesIn cX8_passesIn 6 (some .int) 2 0 0 [] X) {y : Nat} (hs : ModS g m y) {V : kV} (hR : RepF (rowF m y 0) V) (hF : comF V) {dd : Nat} (hd : dd ≤ 60) : ∀ (n e : Nat) (z : Option Value), e + n = dd → (∀ (w : Int32) (z : Option Value), WS E X 0 0 Q g m 72 [some (.ref y), some (.int (nI dd)), some (.int (nI (sumB V.1 (V.2.1 2) dd))), some (.int 1), some (.int w), z] []) → WS E X 0 0 Q g m 17 [some (.ref y), some (.int (nI dd)), some (.int (nI (sumB V.1 (V.2.1 2) e))), some (.int 1), some (.int (nI (e + 1))), z] [] := by
  intro n
  induction n with
  | zero =>
    intro e z he K
    have hib : e = dd := by omega
    subst hib
    refine r_iload hX dX8_passesIn_17 rfl ?_
    refine r_iload_n hX dX8_passesIn_19 rfl ?_
    refine r_icmp_gt (tgt := 72) hX dX8_passesIn_20 (by decide) (fun c20 => ?_) (fun c20 => ?_)
    · exact K _ _
    · exact absurd (nI_lt (Nat.lt_succ_self e) (by omega)) c20
  | succ n ih =>
    intro e z he K
    have hed : e < dd := by omega
    refine r_iload hX dX8_passesIn_17 rfl ?_
    refine r_iload_n hX dX8_passesIn_19 rfl ?_
    refine r_icmp_gt (tgt := 72) hX dX8_passesIn_20 (by decide) (fun c20 => ?_) (fun c20 => ?_)
    · exact absurd c20 (nI_nlt (by omega) (by omega))
    · refine r_iload_n hX dX8_passesIn_23 rfl ?_
      refine r_if_eq (tgt := 72) hX dX8_passesIn_24 (by decide) (fun c24 => ?_) (fun c24 => ?_)
      · exact absurd c24 (by decide)
      · refine r_iconst (v := 0) hX dX8_passesIn_27 (by decide) ?_
        refine r_istore hX dX8_passesIn_28 (Nat.le_of_ble_eq_true rfl) rfl ?_
        refine s_X8_pin_k (g := g) (N := sumB V.1 (V.2.1 2) e) hX hs hR hF (e := e + 1) (by omega) V.1.length 0 (by omega) (fun w => ?_)
        refine r_iinc (v := nI (e + 1 + 1)) hX dX8_passesIn_66 rfl (ii1 (e + 1)) rfl ?_
        refine r_goto (tgt := 17) hX dX8_passesIn_69 (by decide) ?_
        exact ih (e + 1) _ (by omega) K
set_option maxRecDepth 20000 in
set_option maxHeartbeats 4000000 in
theorem s_X8_passesIn (E : qE) (g : qG) (m : qM) (y : Nat) (O : kO) (hO : ModV g m y O) (u : Nat) (hw : WfO u O) (hu : u ≤ 6144) (d : Int32) : Sp E yX8_passesIn cX8_passesIn 6 (some .int) 2 0 0 [.ref y, .int d] g m (pU y g m (mIn O d)) := by
  refine Sp.of (by decide) [some (.ref y), some (.int d), none, none, none, none] rfl rfl (Nat.le_of_ble_eq_true rfl) (fun X hX => ?_)
  have hR := hO.2.2
  refine r_iconst (v := 0) hX dX8_passesIn_0 (by decide) ?_
  refine r_istore_n hX dX8_passesIn_1 (Nat.le_of_ble_eq_true rfl) rfl ?_
  refine r_aload_n hX dX8_passesIn_2 rfl ?_
  refine r_iload_n hX dX8_passesIn_3 rfl ?_
  refine r_iconst (v := 0) hX dX8_passesIn_4 (by decide) ?_
  refine r_bipush (v := 60) hX dX8_passesIn_5 (by decide) ?_
  refine r_callS hX dX8_passesIn_7 (s_X8_in E g m d 0 60 (by decide) (by decide)) ml_X8_69 rfl rfl ⟨Nat.le_of_ble_eq_true rfl, Nat.le_of_ble_eq_true rfl⟩ ⟨Nat.le_of_ble_eq_true rfl, Nat.le_of_ble_eq_true rfl, rfl, Nat.le_of_ble_eq_true rfl⟩ (fun v7 g7 m7 hp => ?_)
  obtain ⟨hv, hg, hm⟩ := hp
  subst v7
  subst g7
  subst m7
  refine r_callV hX dX8_passesIn_10 (s_X8_fine E g m y (hO.1.1) (rng d 0 60)) ml_X8_115 rfl rfl hO.1.1.1.1 rfl ⟨Nat.le_of_ble_eq_true rfl, Nat.le_of_ble_eq_true rfl⟩ ⟨Nat.le_of_ble_eq_true rfl, Nat.le_of_ble_eq_true rfl, rfl, Nat.le_of_ble_eq_true rfl⟩ (fun v10 g10 m10 hp => ?_)
  obtain ⟨hv, hg, hm⟩ := hp
  subst v10
  subst g10
  subst m10
  refine r_istore_n hX dX8_passesIn_13 (Nat.le_of_ble_eq_true rfl) rfl ?_
  refine r_iconst (v := 1) hX dX8_passesIn_14 (by decide) ?_
  refine r_istore hX dX8_passesIn_15 (Nat.le_of_ble_eq_true rfl) rfl ?_
  by_cases hn : rng d 0 60
  · obtain ⟨dd, -, hd, rfl, hcl⟩ := rng_to hn (by decide) (by decide)
    rw [if_pos hn, if_pos hn]
    refine s_X8_pin_d (g := g) (m := wI m y 0 0) hX (hO.1.1.to rfl) (hO.thr 0).2.2 (hw.cF hu) hd dd 0 none (by omega) (fun w z => ?_)
    refine r_iload_n hX dX8_passesIn_72 rfl ?_
    exact r_iret hX dX8_passesIn_73 (by rw [show mIn O (nI dd) = (0, nI (sumB O.1.1 (O.1.2.1 2) dd), O) by unfold mIn; rw [if_pos hn, hcl]]; exact hO.ok rfl) ⟨Nat.le_of_ble_eq_true rfl, Nat.le_of_ble_eq_true rfl⟩
  · rw [if_neg hn, if_neg hn]
    refine r_iload hX dX8_passesIn_17 rfl ?_
    refine r_iload_n hX dX8_passesIn_19 rfl ?_
    refine r_icmp_gt (tgt := 72) hX dX8_passesIn_20 (by decide) (fun c20 => ?_) (fun c20 => ?_)
    · refine r_iload_n hX dX8_passesIn_72 rfl ?_
      exact r_iret hX dX8_passesIn_73 (by rw [show mIn O d = (1, 0, O) from if_neg hn]; exact hO.no (by decide) rfl) ⟨Nat.le_of_ble_eq_true rfl, Nat.le_of_ble_eq_true rfl⟩
    · refine r_iload_n hX dX8_passesIn_23 rfl ?_
      refine r_if_eq (tgt := 72) hX dX8_passesIn_24 (by decide) (fun c24 => ?_) (fun c24 => ?_)
      · refine r_iload_n hX dX8_passesIn_72 rfl ?_
        exact r_iret hX dX8_passesIn_73 (by rw [show mIn O d = (1, 0, O) from if_neg hn]; exact hO.no (by decide) rfl) ⟨Nat.le_of_ble_eq_true rfl, Nat.le_of_ble_eq_true rfl⟩
      · exact absurd rfl c24
theorem arcV_b (f : Nat → Nat) (r : Nat) : ∀ k, k ≤ 144 → (arcV f r k).1 < 12 ∧ 1 ≤ (arcV f r k).2 ∧ (arcV f r k).2 ≤ 12
  | 0, _ => ⟨show 0 < 12 by decide, show 1 ≤ 1 by decide, show 1 ≤ 12 by decide⟩
  | k + 1, h => by
    have ih := arcV_b f r k (by omega)
    unfold arcV
    split
    · exact ih
    · exact ⟨Nat.mod_lt _ (by decide), by show 1 ≤ k / 12 + 1; omega, by show k / 12 + 1 ≤ 12; omega⟩
theorem arcV_k (f : Nat → Nat) (r k : Nat) : arcV f r (k + 1) = if gN f r (k % 12) (k / 12 + 1) ≤ gN f r (arcV f r k).1 (arcV f r k).2 then arcV f r k else (k % 12, k / 12 + 1) := rfl
theorem arcV_s (f : Nat → Nat) (r : Nat) {p s : Nat} (hp : 1 ≤ p) (hs : s < 12) : arcV f r (12 * (p - 1) + (s + 1)) = if gN f r s p ≤ gN f r (arcV f r (12 * (p - 1) + s)).1 (arcV f r (12 * (p - 1) + s)).2 then arcV f r (12 * (p - 1) + s) else (s, p) := by
  rw [← Nat.add_assoc, arcV_k, show (12 * (p - 1) + s) % 12 = s by omega, show (12 * (p - 1) + s) / 12 + 1 = p by omega]
set_option maxRecDepth 20000 in
set_option maxHeartbeats 4000000 in
theorem s_X8_arc_s {E : qE} {X : qX} {Q : State → Prop} {g : qG} {m : qM} (hX : MC E yX8_bestArc cX8_bestArc 4 (some .int) 2 0 0 [] X) {y : Nat} (hs : ModS g m y) {V : kV} (hR : RepF (rowF m y 0) V) {p : Nat} (hp : 1 ≤ p ∧ p ≤ 12) : ∀ (n s : Nat), s + n = 12 → (∀ w : Int32, WS E X 0 0 Q g m 57 [some (.ref y), some (.int (nI (16 * (arcV V.2.2 (V.2.1 4) (12 * (p - 1) + 12)).2 + (arcV V.2.2 (V.2.1 4) (12 * (p - 1) + 12)).1))), some (.int (nI p)), some (.int w)] []) → WS E X 0 0 Q g m 13 [some (.ref y), some (.int (nI (16 * (arcV V.2.2 (V.2.1 4) (12 * (p - 1) + s)).2 + (arcV V.2.2 (V.2.1 4) (12 * (p - 1) + s)).1))), some (.int (nI p)), some (.int (nI s))] [] := by
  intro n
  induction n with
  | zero =>
    intro s hs9 K
    have hib : s = 12 := by omega
    subst hib
    refine r_iload_n hX dX8_bestArc_13 rfl ?_
    refine r_bipush (v := 12) hX dX8_bestArc_14 (by decide) ?_
    refine r_icmp_ge (tgt := 57) hX dX8_bestArc_16 (by decide) (fun c16 => ?_) (fun c16 => ?_)
    · exact K _
    · exact absurd (Int32.le_refl _) c16
  | succ n ih =>
    intro s hs9 K
    have hs12 : s < 12 := by omega
    obtain ⟨e1, e2, e3⟩ := arcV_b V.2.2 (V.2.1 4) (12 * (p - 1) + s) (by omega)
    have hst := arcV_s V.2.2 (V.2.1 4) hp.1 hs12
    refine r_iload_n hX dX8_bestArc_13 rfl ?_
    refine r_bipush (v := 12) hX dX8_bestArc_14 (by decide) ?_
    refine r_icmp_ge (tgt := 57) hX dX8_bestArc_16 (by decide) (fun c16 => ?_) (fun c16 => ?_)
    · exact absurd c16 (nI_ge (b := 12) hs12 (by decide))
    · refine r_aload_n hX dX8_bestArc_19 rfl ?_
      refine r_iload_n hX dX8_bestArc_20 rfl ?_
      refine r_iload_n hX dX8_bestArc_21 rfl ?_
      refine r_callV hX dX8_bestArc_22 (s_X8_gains E g m y hs V hR s p (by omega) (by omega)) ml_X8_150 rfl rfl hs.1.1 rfl ⟨Nat.le_of_ble_eq_true rfl, Nat.le_of_ble_eq_true rfl⟩ ⟨Nat.le_of_ble_eq_true rfl, Nat.le_of_ble_eq_true rfl, rfl, Nat.le_of_ble_eq_true rfl⟩ (fun v22 g22 m22 hp => ?_)
      obtain ⟨hv, hg, hm⟩ := hp
      subst v22
      subst g22
      subst m22
      generalize hA : arcV V.2.2 (V.2.1 4) (12 * (p - 1) + s) = Ab at *
      refine r_aload_n hX dX8_bestArc_25 rfl ?_
      refine r_iload_n hX dX8_bestArc_26 rfl ?_
      refine r_bipush (v := 16) hX dX8_bestArc_27 (by decide) ?_
      refine r_irem hX dX8_bestArc_29 (by decide) ?_
      rw [show nI (16 * Ab.2 + Ab.1) - nI (16 * Ab.2 + Ab.1) / 16 * 16 = nI Ab.1 by rw [show nI (16 * Ab.2 + Ab.1) - nI (16 * Ab.2 + Ab.1) / 16 * 16 = nI ((16 * Ab.2 + Ab.1) % 16) from pk_rem (d := 16) (by omega) (by decide) (by decide)]; exact congrArg nI (by omega)]
      refine r_iload_n hX dX8_bestArc_30 rfl ?_
      refine r_bipush (v := 16) hX dX8_bestArc_31 (by decide) ?_
      refine r_idiv hX dX8_bestArc_33 (by decide) ?_
      rw [show nI (16 * Ab.2 + Ab.1) / 16 = nI Ab.2 by rw [show nI (16 * Ab.2 + Ab.1) / 16 = nI ((16 * Ab.2 + Ab.1) / 16) from pk_div (d := 16) (by omega) (by decide) (by decide)]; exact congrArg nI (by omega)]
      refine r_callV hX dX8_bestArc_34 (s_X8_gains E g m y hs V hR Ab.1 Ab.2 (by omega) (by omega)) ml_X8_150 rfl rfl hs.1.1 rfl ⟨Nat.le_of_ble_eq_true rfl, Nat.le_of_ble_eq_true rfl⟩ ⟨Nat.le_of_ble_eq_true rfl, Nat.le_of_ble_eq_true rfl, rfl, Nat.le_of_ble_eq_true rfl⟩ (fun v34 g34 m34 hp => ?_)
      obtain ⟨hv, hg, hm⟩ := hp
      subst v34
      subst g34
      subst m34
      refine r_icmp_le (tgt := 49) hX dX8_bestArc_37 (by decide) (fun c37 => ?_) (fun c37 => ?_)
      · rw [if_pos c37] at hst
        refine r_iload_n hX dX8_bestArc_49 rfl ?_
        refine r_istore_n hX dX8_bestArc_50 (Nat.le_of_ble_eq_true rfl) rfl ?_
        refine r_iinc (v := nI (s + 1)) hX dX8_bestArc_51 rfl (ii1 s) rfl ?_
        refine r_goto (tgt := 13) hX dX8_bestArc_54 (by decide) ?_
        have h9 := ih (s + 1) (by omega) K
        rw [hst] at h9
        exact h9
      · rw [if_neg c37] at hst
        refine r_bipush (v := 16) hX dX8_bestArc_40 (by decide) ?_
        refine r_iload_n hX dX8_bestArc_42 rfl ?_
        refine r_imul hX dX8_bestArc_43 ?_
        rw [show (16 : Int32) * nI p = nI (16 * p) from pk_mul 16 p]
        refine r_iload_n hX dX8_bestArc_44 rfl ?_
        refine r_iadd hX dX8_bestArc_45 ?_
        rw [nI_add]
        refine r_goto (tgt := 50) hX dX8_bestArc_46 (by decide) ?_
        refine r_istore_n hX dX8_bestArc_50 (Nat.le_of_ble_eq_true rfl) rfl ?_
        refine r_iinc (v := nI (s + 1)) hX dX8_bestArc_51 rfl (ii1 s) rfl ?_
        refine r_goto (tgt := 13) hX dX8_bestArc_54 (by decide) ?_
        have h9 := ih (s + 1) (by omega) K
        rw [hst] at h9
        exact h9
set_option maxRecDepth 20000 in
set_option maxHeartbeats 4000000 in
theorem s_X8_arc_p {E : qE} {X : qX} {Q : State → Prop} {g : qG} {m : qM} (hX : MC E yX8_bestArc cX8_bestArc 4 (some .int) 2 0 0 [] X) {y : Nat} (hs : ModS g m y) {V : kV} (hR : RepF (rowF m y 0) V) : ∀ (n p : Nat) (z : Option Value), p + n = 13 → 1 ≤ p → (∀ (w : Nat) (z : Option Value), WS E X 0 0 Q g m 63 [some (.ref y), some (.int (nI (16 * (arcV V.2.2 (V.2.1 4) 144).2 + (arcV V.2.2 (V.2.1 4) 144).1))), some (.int (nI w)), z] []) → WS E X 0 0 Q g m 5 [some (.ref y), some (.int (nI (16 * (arcV V.2.2 (V.2.1 4) (12 * (p - 1))).2 + (arcV V.2.2 (V.2.1 4) (12 * (p - 1))).1))), some (.int (nI p)), z] [] := by
  intro n
  induction n with
  | zero =>
    intro p z hp h1 K
    have hib : p = 13 := by omega
    subst hib
    refine r_iload_n hX dX8_bestArc_5 rfl ?_
    refine r_bipush (v := 12) hX dX8_bestArc_6 (by decide) ?_
    refine r_icmp_gt (tgt := 63) hX dX8_bestArc_8 (by decide) (fun c8 => ?_) (fun c8 => ?_)
    · exact K _ _
    · exact absurd (nI_lt (a := 12) (b := 13) (by decide) (by decide)) c8
  | succ n ih =>
    intro p z hp h1 K
    refine r_iload_n hX dX8_bestArc_5 rfl ?_
    refine r_bipush (v := 12) hX dX8_bestArc_6 (by decide) ?_
    refine r_icmp_gt (tgt := 63) hX dX8_bestArc_8 (by decide) (fun c8 => ?_) (fun c8 => ?_)
    · exact absurd c8 (nI_nlt (a := 12) (by omega) (by decide))
    · refine r_iconst (v := 0) hX dX8_bestArc_11 (by decide) ?_
      refine r_istore_n hX dX8_bestArc_12 (Nat.le_of_ble_eq_true rfl) rfl ?_
      refine s_X8_arc_s (g := g) hX hs hR ⟨h1, by omega⟩ 12 0 (by decide) (fun w => ?_)
      refine r_iinc (v := nI (p + 1)) hX dX8_bestArc_57 rfl (ii1 p) rfl ?_
      refine r_goto (tgt := 5) hX dX8_bestArc_60 (by decide) ?_
      have h9 := ih (p + 1) (some (.int w)) (by omega) (by omega) K
      rw [show 12 * (p + 1 - 1) = 12 * (p - 1) + 12 by omega] at h9
      exact h9
set_option maxRecDepth 20000 in
set_option maxHeartbeats 4000000 in
theorem s_X8_bestArc (E : qE) (g : qG) (m : qM) (y : Nat) (hs : ModS g m y) (V : kV) (hR : RepF (rowF m y 0) V) : Sp E yX8_bestArc cX8_bestArc 4 (some .int) 2 0 0 [.ref y] g m (fun v g' m' => v = some (.int (nI (16 * (arcV V.2.2 (V.2.1 4) 144).2 + (arcV V.2.2 (V.2.1 4) 144).1))) ∧ g' = g ∧ m' = m) := by
  refine Sp.of (by decide) [some (.ref y), none, none, none] rfl rfl (Nat.le_of_ble_eq_true rfl) (fun X hX => ?_)
  refine r_bipush (v := 16) hX dX8_bestArc_0 (by decide) ?_
  refine r_istore_n hX dX8_bestArc_2 (Nat.le_of_ble_eq_true rfl) rfl ?_
  refine r_iconst (v := 1) hX dX8_bestArc_3 (by decide) ?_
  refine r_istore_n hX dX8_bestArc_4 (Nat.le_of_ble_eq_true rfl) rfl ?_
  refine s_X8_arc_p (g := g) hX hs hR 12 1 none (by decide) (by decide) (fun w z => ?_)
  refine r_iload_n hX dX8_bestArc_63 rfl ?_
  exact r_iret hX dX8_bestArc_64 ⟨rfl, rfl, rfl⟩ ⟨Nat.le_of_ble_eq_true rfl, Nat.le_of_ble_eq_true rfl⟩
set_option maxRecDepth 20000 in
set_option maxHeartbeats 4000000 in
theorem s_X8_bestStart (E : qE) (g : qG) (m : qM) (y : Nat) (O : kO) (hO : ModV g m y O) (u : Nat) (hw : WfO u O) (hu : u ≤ 6144)  : Sp E yX8_bestStart cX8_bestStart 1 (some .int) 3 0 0 [.ref y] g m (pU y g m (qArc O (nI (qArcP O).1))) := by
  refine Sp.of (by decide) [some (.ref y)] rfl rfl (Nat.le_of_ble_eq_true rfl) (fun X hX => ?_)
  have hR := hO.2.2
  refine r_aload_n hX dX8_bestStart_0 rfl ?_
  refine r_iconst (v := 0) hX dX8_bestStart_1 (by decide) ?_
  refine r_putI hX dX8_bestStart_2 hO.1.1.1.1 fl_X8_36 ?_
  refine r_aload_n hX dX8_bestStart_5 rfl ?_
  refine r_callV hX dX8_bestStart_6 (s_X8_bestArc E g _ y (by exact hO.1.1.to rfl) O.1 (by exact (hO.thr 0).2.2)) ml_X8_153 rfl rfl hO.1.1.1.1 rfl ⟨Nat.le_of_ble_eq_true rfl, Nat.le_of_ble_eq_true rfl⟩ ⟨Nat.le_of_ble_eq_true rfl, Nat.le_of_ble_eq_true rfl, rfl, Nat.le_of_ble_eq_true rfl⟩ (fun v6 g6 m6 hp => ?_)
  obtain ⟨hv, hg, hm⟩ := hp
  subst v6
  subst g6
  subst m6
  have hAb := arcV_b O.1.2.2 (O.1.2.1 4) 144 (by decide)
  have hQ : qArcP O = arcV O.1.2.2 (O.1.2.1 4) 144 := rfl
  rw [← hQ] at hAb ⊢
  generalize qArcP O = Ab at *
  obtain ⟨e1, e2, e3⟩ := hAb
  refine r_bipush (v := 16) hX dX8_bestStart_9 (by decide) ?_
  refine r_irem hX dX8_bestStart_11 (by decide) ?_
  rw [show nI (16 * Ab.2 + Ab.1) - nI (16 * Ab.2 + Ab.1) / 16 * 16 = nI Ab.1 by rw [show nI (16 * Ab.2 + Ab.1) - nI (16 * Ab.2 + Ab.1) / 16 * 16 = nI ((16 * Ab.2 + Ab.1) % 16) from pk_rem (d := 16) (by omega) (by decide) (by decide)]; exact congrArg nI (by omega)]
  exact r_iret hX dX8_bestStart_12 (hO.ok rfl) ⟨Nat.le_of_ble_eq_true rfl, Nat.le_of_ble_eq_true rfl⟩
set_option maxRecDepth 20000 in
set_option maxHeartbeats 4000000 in
theorem s_X8_bestPlaces (E : qE) (g : qG) (m : qM) (y : Nat) (O : kO) (hO : ModV g m y O) (u : Nat) (hw : WfO u O) (hu : u ≤ 6144)  : Sp E yX8_bestPlaces cX8_bestPlaces 1 (some .int) 3 0 0 [.ref y] g m (pU y g m (qArc O (nI (qArcP O).2))) := by
  refine Sp.of (by decide) [some (.ref y)] rfl rfl (Nat.le_of_ble_eq_true rfl) (fun X hX => ?_)
  have hR := hO.2.2
  refine r_aload_n hX dX8_bestPlaces_0 rfl ?_
  refine r_iconst (v := 0) hX dX8_bestPlaces_1 (by decide) ?_
  refine r_putI hX dX8_bestPlaces_2 hO.1.1.1.1 fl_X8_36 ?_
  refine r_aload_n hX dX8_bestPlaces_5 rfl ?_
  refine r_callV hX dX8_bestPlaces_6 (s_X8_bestArc E g _ y (by exact hO.1.1.to rfl) O.1 (by exact (hO.thr 0).2.2)) ml_X8_153 rfl rfl hO.1.1.1.1 rfl ⟨Nat.le_of_ble_eq_true rfl, Nat.le_of_ble_eq_true rfl⟩ ⟨Nat.le_of_ble_eq_true rfl, Nat.le_of_ble_eq_true rfl, rfl, Nat.le_of_ble_eq_true rfl⟩ (fun v6 g6 m6 hp => ?_)
  obtain ⟨hv, hg, hm⟩ := hp
  subst v6
  subst g6
  subst m6
  have hAb := arcV_b O.1.2.2 (O.1.2.1 4) 144 (by decide)
  have hQ : qArcP O = arcV O.1.2.2 (O.1.2.1 4) 144 := rfl
  rw [← hQ] at hAb ⊢
  generalize qArcP O = Ab at *
  obtain ⟨e1, e2, e3⟩ := hAb
  refine r_bipush (v := 16) hX dX8_bestPlaces_9 (by decide) ?_
  refine r_idiv hX dX8_bestPlaces_11 (by decide) ?_
  rw [show nI (16 * Ab.2 + Ab.1) / 16 = nI Ab.2 by rw [show nI (16 * Ab.2 + Ab.1) / 16 = nI ((16 * Ab.2 + Ab.1) / 16) from pk_div (d := 16) (by omega) (by decide) (by decide)]; exact congrArg nI (by omega)]
  exact r_iret hX dX8_bestPlaces_12 (hO.ok rfl) ⟨Nat.le_of_ble_eq_true rfl, Nat.le_of_ble_eq_true rfl⟩
set_option maxRecDepth 20000 in
set_option maxHeartbeats 4000000 in
theorem s_X8_bestGain (E : qE) (g : qG) (m : qM) (y : Nat) (O : kO) (hO : ModV g m y O) (u : Nat) (hw : WfO u O) (hu : u ≤ 6144)  : Sp E yX8_bestGain cX8_bestGain 2 (some .int) 3 0 0 [.ref y] g m (pU y g m (qArc O (gN O.1.2.2 (O.1.2.1 4) (qArcP O).1 (qArcP O).2))) := by
  refine Sp.of (by decide) [some (.ref y), none] rfl rfl (Nat.le_of_ble_eq_true rfl) (fun X hX => ?_)
  have hR := hO.2.2
  refine r_aload_n hX dX8_bestGain_0 rfl ?_
  refine r_iconst (v := 0) hX dX8_bestGain_1 (by decide) ?_
  refine r_putI hX dX8_bestGain_2 hO.1.1.1.1 fl_X8_36 ?_
  refine r_aload_n hX dX8_bestGain_5 rfl ?_
  refine r_callV hX dX8_bestGain_6 (s_X8_bestArc E g _ y (by exact hO.1.1.to rfl) O.1 (by exact (hO.thr 0).2.2)) ml_X8_153 rfl rfl hO.1.1.1.1 rfl ⟨Nat.le_of_ble_eq_true rfl, Nat.le_of_ble_eq_true rfl⟩ ⟨Nat.le_of_ble_eq_true rfl, Nat.le_of_ble_eq_true rfl, rfl, Nat.le_of_ble_eq_true rfl⟩ (fun v6 g6 m6 hp => ?_)
  obtain ⟨hv, hg, hm⟩ := hp
  subst v6
  subst g6
  subst m6
  have hAb := arcV_b O.1.2.2 (O.1.2.1 4) 144 (by decide)
  have hQ : qArcP O = arcV O.1.2.2 (O.1.2.1 4) 144 := rfl
  rw [← hQ] at hAb ⊢
  generalize qArcP O = Ab at *
  obtain ⟨e1, e2, e3⟩ := hAb
  refine r_istore_n hX dX8_bestGain_9 (Nat.le_of_ble_eq_true rfl) rfl ?_
  refine r_aload_n hX dX8_bestGain_10 rfl ?_
  refine r_iload_n hX dX8_bestGain_11 rfl ?_
  refine r_bipush (v := 16) hX dX8_bestGain_12 (by decide) ?_
  refine r_irem hX dX8_bestGain_14 (by decide) ?_
  rw [show nI (16 * Ab.2 + Ab.1) - nI (16 * Ab.2 + Ab.1) / 16 * 16 = nI Ab.1 by rw [show nI (16 * Ab.2 + Ab.1) - nI (16 * Ab.2 + Ab.1) / 16 * 16 = nI ((16 * Ab.2 + Ab.1) % 16) from pk_rem (d := 16) (by omega) (by decide) (by decide)]; exact congrArg nI (by omega)]
  refine r_iload_n hX dX8_bestGain_15 rfl ?_
  refine r_bipush (v := 16) hX dX8_bestGain_16 (by decide) ?_
  refine r_idiv hX dX8_bestGain_18 (by decide) ?_
  rw [show nI (16 * Ab.2 + Ab.1) / 16 = nI Ab.2 by rw [show nI (16 * Ab.2 + Ab.1) / 16 = nI ((16 * Ab.2 + Ab.1) / 16) from pk_div (d := 16) (by omega) (by decide) (by decide)]; exact congrArg nI (by omega)]
  refine r_callV hX dX8_bestGain_19 (s_X8_gains E g _ y (by exact hO.1.1.to rfl) O.1 (by exact (hO.thr 0).2.2) Ab.1 Ab.2 (by omega) (by omega)) ml_X8_150 rfl rfl hO.1.1.1.1 rfl ⟨Nat.le_of_ble_eq_true rfl, Nat.le_of_ble_eq_true rfl⟩ ⟨Nat.le_of_ble_eq_true rfl, Nat.le_of_ble_eq_true rfl, rfl, Nat.le_of_ble_eq_true rfl⟩ (fun v19 g19 m19 hp => ?_)
  obtain ⟨hv, hg, hm⟩ := hp
  subst v19
  subst g19
  subst m19
  exact r_iret hX dX8_bestGain_22 (hO.ok rfl) ⟨Nat.le_of_ble_eq_true rfl, Nat.le_of_ble_eq_true rfl⟩
set_option maxRecDepth 20000 in
set_option maxHeartbeats 4000000 in
theorem s_X8_bestGainByArcs (E : qE) (g : qG) (m : qM) (y : Nat) (O : kO) (hO : ModV g m y O) (u : Nat) (hw : WfO u O) (hu : u ≤ 6144)  : Sp E yX8_bestGainByArcs cX8_bestGainByArcs 1 (some .int) 4 0 0 [.ref y] g m (pU y g m (qArc O (gN O.1.2.2 (O.1.2.1 4) (qArcP O).1 (qArcP O).2))) := by
  refine Sp.of (by decide) [some (.ref y)] rfl rfl (Nat.le_of_ble_eq_true rfl) (fun X hX => ?_)
  have hR := hO.2.2
  refine r_aload_n hX dX8_bestGainByArcs_0 rfl ?_
  refine r_callV hX dX8_bestGainByArcs_1 (s_X8_bestGain E g m y O hO u hw hu) ml_X8_156 rfl rfl hO.1.1.1.1 rfl ⟨Nat.le_of_ble_eq_true rfl, Nat.le_of_ble_eq_true rfl⟩ ⟨Nat.le_of_ble_eq_true rfl, Nat.le_of_ble_eq_true rfl, rfl, Nat.le_of_ble_eq_true rfl⟩ (fun v1 g1 m1 hp => ?_)
  obtain ⟨⟨w, hv, hw9⟩, hg, hP⟩ := hp
  subst v1
  subst g1
  exact r_iret hX dX8_bestGainByArcs_4 ⟨⟨w, rfl, hw9⟩, rfl, hP⟩ ⟨Nat.le_of_ble_eq_true rfl, Nat.le_of_ble_eq_true rfl⟩
