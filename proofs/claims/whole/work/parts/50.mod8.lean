/-! ===== CometObservatoryModel: questions ===== -/
theorem ModV.thr {g : qG} {m : qM} {y : Nat} {O : kO} (h : ModV g m y O) (v : Int32) : ModV g (wI m y 0 v) y O := h.fr (fun a j hb => by rw [qI_wI, if_neg (by unfold PB at hb; omega)]) rfl
theorem mf_thr (y : Nat) (m : qM) (v : Int32) : MF (PM y) m (wI m y 0 v) := (MF.rf _ m).wI ⟨by omega, by omega⟩
theorem ModV.ok {g : qG} {m : qM} {y : Nat} {O : kO} (h : ModV g m y O) {r v : Int32} (hv : v = 0) : pU y g m (0, r, O) (some (.int r)) g (wI m y 0 v) := by
  subst hv
  exact ⟨⟨r, rfl, fun _ => rfl⟩, rfl, by rw [qI_wI, if_pos ⟨rfl, rfl⟩]; rfl, h.thr 0, mf_thr y m 0⟩
theorem ModV.no {g : qG} {m : qM} {y : Nat} {O : kO} (h : ModV g m y O) {k : Nat} (hk : k ≠ 0) {r w v : Int32} (hv : v = nI k) : pU y g m (k, r, O) (some (.int w)) g (wI m y 0 v) := ⟨⟨w, rfl, fun e => absurd e hk⟩, rfl, by rw [qI_wI, if_pos ⟨rfl, rfl⟩, hv], h.thr v, mf_thr y m v⟩
theorem inN_n {x : Int32} {n : Nat} (hn : n < 2 ^ 30) : (0 ≤ x ∧ x ≤ nI n - 1) ↔ inN x n := by
  have e : (nI n - 1).toInt = (n : Int) - 1 := by rw [show (1 : Int32) = nI 1 from rfl, pk_sub_toInt hn (by decide)]; rfl
  unfold inN
  rw [Int32.le_iff_toInt_le (x := x) (y := nI n - 1), e, Int32.lt_iff_toInt_lt (x := x) (y := nI n), nI_toInt (by omega)]
  constructor
  · rintro ⟨h1, h2⟩; exact ⟨h1, by omega⟩
  · rintro ⟨h1, h2⟩; exact ⟨h1, by omega⟩
theorem inN_of {x : Int32} {n : Nat} (hn : n < 2 ^ 31) (h : inN x n) : ∃ i, i < n ∧ x = nI i ∧ x.toNatClampNeg = i := by
  obtain ⟨i, hi, rfl⟩ := nI_of (x := x) (Int32.not_lt.mpr h.1)
  exact ⟨i, (nI_ltI hi hn).mp h.2, rfl, nI_clamp hi⟩
section
variable {E : qE} {y : MethodName} {cc : ByteArray} {nL : Nat} {ret : Option FieldType} {k mc ms : Nat} {tab : List ExceptionTableEntry} {X : qX} {cN sN : Nat} {Q : State → Prop} {g : qG} {m : qM} {pc : Nat} {l : List (Option Value)} {st : List Value}
theorem r_ldcF (hX : MC E y cc nL ret k mc ms tab X) {idx : Nat} {v : UInt32} (d : decode cc pc = .ok (.ldc idx, 2)) (hw : InT (.constantFloat y.cls idx v)) (kk : WS E X cN sN Q g m (pc + 2) l (.float v :: st)) : WS E X cN sN Q g m pc l st := by
  intro H locs ls h1 h2 h3 T hT Z
  obtain ⟨t, a, b⟩ := kk H locs ls h1 h2 h3 T hT Z
  refine ⟨t, ?_, b⟩
  obtain ⟨k9, cf, hk, hcf, hcp⟩ := Cond.constantFloat_spec hX.own (hX.w hw (xA X))
  obtain ⟨k', hk', he⟩ := Z.warmed.alike.2.2 _ _ hk
  have hd : decode (xC X).code pc = .ok (.ldc idx, 2) := by rw [hX.b]; exact d
  jvm_step Z.here [hX.x, hd, ldc.wp_float (s := T) (f := F0 (xM X) pc ls st) Z.here.top hk' (by rw [he]; exact hcf) hcp]
  exact a
end
set_option maxRecDepth 20000 in
set_option maxHeartbeats 4000000 in
theorem s_X8_inI (E : qE) (g : qG) (m : qM) (x a b : Int32) : Sp E yX8_in cX8_in 3 (some .boolean) 0 0 0 [.int x, .int a, .int b] g m (fun v g' m' => v = some (.int (if a ≤ x ∧ x ≤ b then 1 else 0)) ∧ g' = g ∧ m' = m) := by
  refine Sp.of (by decide) [some (.int x), some (.int a), some (.int b)] rfl rfl (Nat.le_of_ble_eq_true rfl) (fun X hX => ?_)
  refine r_iload_n hX dX8_in_0 rfl ?_
  refine r_iload_n hX dX8_in_1 rfl ?_
  refine r_icmp_lt (tgt := 14) hX dX8_in_2 (by decide) (fun c2 => ?_) (fun c2 => ?_)
  · refine r_iconst (v := 0) hX dX8_in_14 (by decide) ?_
    exact r_zret hX dX8_in_15 rfl ⟨by rw [if_neg (fun h => Int32.not_lt.mpr h.1 c2)], rfl, rfl⟩ ⟨Nat.le_of_ble_eq_true rfl, Nat.le_of_ble_eq_true rfl⟩
  · refine r_iload_n hX dX8_in_5 rfl ?_
    refine r_iload_n hX dX8_in_6 rfl ?_
    refine r_icmp_gt (tgt := 14) hX dX8_in_7 (by decide) (fun c7 => ?_) (fun c7 => ?_)
    · refine r_iconst (v := 0) hX dX8_in_14 (by decide) ?_
      exact r_zret hX dX8_in_15 rfl ⟨by rw [if_neg (fun h => Int32.not_lt.mpr h.2 c7)], rfl, rfl⟩ ⟨Nat.le_of_ble_eq_true rfl, Nat.le_of_ble_eq_true rfl⟩
    · refine r_iconst (v := 1) hX dX8_in_10 (by decide) ?_
      refine r_goto (tgt := 15) hX dX8_in_11 (by decide) ?_
      exact r_zret hX dX8_in_15 rfl ⟨by rw [if_pos ⟨Int32.not_lt.mp c2, Int32.not_lt.mp c7⟩], rfl, rfl⟩ ⟨Nat.le_of_ble_eq_true rfl, Nat.le_of_ble_eq_true rfl⟩
theorem s_X8_inN (E : qE) (g : qG) (m : qM) (x : Int32) (n : Nat) (hn : n < 2 ^ 30) : Sp E yX8_in cX8_in 3 (some .boolean) 0 0 0 [.int x, .int 0, .int (nI n - 1)] g m (fun v g' m' => v = some (.int (if inN x n then 1 else 0)) ∧ g' = g ∧ m' = m) := by
  have h := s_X8_inI E g m x 0 (nI n - 1)
  have e : (if 0 ≤ x ∧ x ≤ nI n - 1 then (1 : Int32) else 0) = if inN x n then 1 else 0 := by
    by_cases hq : inN x n
    · rw [if_pos hq, if_pos ((inN_n hn).mpr hq)]
    · rw [if_neg hq, if_neg (fun q => hq ((inN_n hn).mp q))]
  rw [e] at h
  exact h
theorem s_X8_fine (E : qE) (g : qG) (m : qM) (y : Nat) (hs : ModS g m y) (P : Prop) [Decidable P] : Sp E yX8_isFine cX8_isFine 2 (some .boolean) 0 0 0 [.ref y, .int (if P then 1 else 0)] g m (fun v g' m' => v = some (.int (if P then 1 else 0)) ∧ g' = g ∧ m' = wI m y 0 (if P then 0 else 1)) := by
  by_cases hq : P
  · rw [if_pos hq, if_pos hq]
    exact s_X8_isFine E g m y hs true
  · rw [if_neg hq, if_neg hq]
    exact s_X8_isFine E g m y hs false
set_option maxRecDepth 20000 in
set_option maxHeartbeats 4000000 in
theorem s_X8_told (E : qE) (g : qG) (m : qM) (y : Nat) (hs : ModS g m y) (k : Nat) (hk : k < 539) : Sp E yX8_told cX8_told 2 (some .int) 0 0 0 [.ref y, .int (nI k)] g m (fun v g' m' => v = some (.int (qI m (y + 1) k)) ∧ g' = g ∧ m' = wI m y 0 0) := by
  refine Sp.of (by decide) [some (.ref y), some (.int (nI k))] rfl rfl (Nat.le_of_ble_eq_true rfl) (fun X hX => ?_)
  refine r_aload_n hX dX8_told_0 rfl ?_
  refine r_iconst (v := 0) hX dX8_told_1 (by decide) ?_
  refine r_putI hX dX8_told_2 hs.1.1 fl_X8_36 ?_
  refine r_aload_n hX dX8_told_5 rfl ?_
  refine r_getR hX dX8_told_6 hs.1.1 fl_X8_9 hs.2.1 ?_
  refine r_iload_n hX dX8_told_9 rfl ?_
  refine r_ialoadN hX dX8_told_10 hs.1.2.1 hk (by decide) ?_
  exact r_iret hX dX8_told_11 ⟨by rw [qI_wI, if_neg (by omega)], rfl, rfl⟩ ⟨Nat.le_of_ble_eq_true rfl, Nat.le_of_ble_eq_true rfl⟩
set_option maxRecDepth 20000 in
set_option maxHeartbeats 4000000 in
theorem s_X8_cometCount (E : qE) (g : qG) (m : qM) (y : Nat) (O : kO) (hO : ModV g m y O) (u : Nat) (hw : WfO u O) (hu : u ≤ 6144)  : Sp E yX8_cometCount cX8_cometCount 1 (some .int) 1 0 0 [.ref y] g m (pU y g m (qCnt O)) := by
  refine Sp.of (by decide) [some (.ref y)] rfl rfl (Nat.le_of_ble_eq_true rfl) (fun X hX => ?_)
  have hR := hO.2.2
  refine r_aload_n hX dX8_cometCount_0 rfl ?_
  refine r_iconst (v := 0) hX dX8_cometCount_1 (by decide) ?_
  refine r_callV hX dX8_cometCount_2 (s_X8_told E g m y hO.1.1 0 (by decide)) ml_X8_112 rfl rfl hO.1.1.1.1 rfl ⟨Nat.le_of_ble_eq_true rfl, Nat.le_of_ble_eq_true rfl⟩ ⟨Nat.le_of_ble_eq_true rfl, Nat.le_of_ble_eq_true rfl, rfl, Nat.le_of_ble_eq_true rfl⟩ (fun v2 g2 m2 hp => ?_)
  obtain ⟨hv, hg, hm⟩ := hp
  subst v2
  subst g2
  subst m2
  rw [hR.r0]
  exact r_iret hX dX8_cometCount_5 (hO.ok rfl) ⟨Nat.le_of_ble_eq_true rfl, Nat.le_of_ble_eq_true rfl⟩
set_option maxRecDepth 20000 in
set_option maxHeartbeats 4000000 in
theorem s_X8_day (E : qE) (g : qG) (m : qM) (y : Nat) (O : kO) (hO : ModV g m y O) (u : Nat) (hw : WfO u O) (hu : u ≤ 6144)  : Sp E yX8_day cX8_day 1 (some .int) 1 0 0 [.ref y] g m (pU y g m (qNum O 2)) := by
  refine Sp.of (by decide) [some (.ref y)] rfl rfl (Nat.le_of_ble_eq_true rfl) (fun X hX => ?_)
  have hR := hO.2.2
  refine r_aload_n hX dX8_day_0 rfl ?_
  refine r_iconst (v := 2) hX dX8_day_1 (by decide) ?_
  refine r_callV hX dX8_day_2 (s_X8_told E g m y hO.1.1 2 (by decide)) ml_X8_112 rfl rfl hO.1.1.1.1 rfl ⟨Nat.le_of_ble_eq_true rfl, Nat.le_of_ble_eq_true rfl⟩ ⟨Nat.le_of_ble_eq_true rfl, Nat.le_of_ble_eq_true rfl, rfl, Nat.le_of_ble_eq_true rfl⟩ (fun v2 g2 m2 hp => ?_)
  obtain ⟨hv, hg, hm⟩ := hp
  subst v2
  subst g2
  subst m2
  rw [hR.rH (k := 2) (by decide) (by decide)]
  exact r_iret hX dX8_day_5 (hO.ok rfl) ⟨Nat.le_of_ble_eq_true rfl, Nat.le_of_ble_eq_true rfl⟩
set_option maxRecDepth 20000 in
set_option maxHeartbeats 4000000 in
theorem s_X8_coins (E : qE) (g : qG) (m : qM) (y : Nat) (O : kO) (hO : ModV g m y O) (u : Nat) (hw : WfO u O) (hu : u ≤ 6144)  : Sp E yX8_coins cX8_coins 1 (some .int) 1 0 0 [.ref y] g m (pU y g m (qNum O 3)) := by
  refine Sp.of (by decide) [some (.ref y)] rfl rfl (Nat.le_of_ble_eq_true rfl) (fun X hX => ?_)
  have hR := hO.2.2
  refine r_aload_n hX dX8_coins_0 rfl ?_
  refine r_iconst (v := 3) hX dX8_coins_1 (by decide) ?_
  refine r_callV hX dX8_coins_2 (s_X8_told E g m y hO.1.1 3 (by decide)) ml_X8_112 rfl rfl hO.1.1.1.1 rfl ⟨Nat.le_of_ble_eq_true rfl, Nat.le_of_ble_eq_true rfl⟩ ⟨Nat.le_of_ble_eq_true rfl, Nat.le_of_ble_eq_true rfl, rfl, Nat.le_of_ble_eq_true rfl⟩ (fun v2 g2 m2 hp => ?_)
  obtain ⟨hv, hg, hm⟩ := hp
  subst v2
  subst g2
  subst m2
  rw [hR.rH (k := 3) (by decide) (by decide)]
  exact r_iret hX dX8_coins_5 (hO.ok rfl) ⟨Nat.le_of_ble_eq_true rfl, Nat.le_of_ble_eq_true rfl⟩
set_option maxRecDepth 20000 in
set_option maxHeartbeats 4000000 in
theorem s_X8_rate (E : qE) (g : qG) (m : qM) (y : Nat) (O : kO) (hO : ModV g m y O) (u : Nat) (hw : WfO u O) (hu : u ≤ 6144)  : Sp E yX8_rate cX8_rate 1 (some .int) 1 0 0 [.ref y] g m (pU y g m (qNum O 4)) := by
  refine Sp.of (by decide) [some (.ref y)] rfl rfl (Nat.le_of_ble_eq_true rfl) (fun X hX => ?_)
  have hR := hO.2.2
  refine r_aload_n hX dX8_rate_0 rfl ?_
  refine r_iconst (v := 4) hX dX8_rate_1 (by decide) ?_
  refine r_callV hX dX8_rate_2 (s_X8_told E g m y hO.1.1 4 (by decide)) ml_X8_112 rfl rfl hO.1.1.1.1 rfl ⟨Nat.le_of_ble_eq_true rfl, Nat.le_of_ble_eq_true rfl⟩ ⟨Nat.le_of_ble_eq_true rfl, Nat.le_of_ble_eq_true rfl, rfl, Nat.le_of_ble_eq_true rfl⟩ (fun v2 g2 m2 hp => ?_)
  obtain ⟨hv, hg, hm⟩ := hp
  subst v2
  subst g2
  subst m2
  rw [hR.rH (k := 4) (by decide) (by decide)]
  exact r_iret hX dX8_rate_5 (hO.ok rfl) ⟨Nat.le_of_ble_eq_true rfl, Nat.le_of_ble_eq_true rfl⟩
set_option maxRecDepth 20000 in
set_option maxHeartbeats 4000000 in
theorem s_X8_passTotal (E : qE) (g : qG) (m : qM) (y : Nat) (O : kO) (hO : ModV g m y O) (u : Nat) (hw : WfO u O) (hu : u ≤ 6144)  : Sp E yX8_passTotal cX8_passTotal 1 (some .int) 1 0 0 [.ref y] g m (pU y g m (qNum O 5)) := by
  refine Sp.of (by decide) [some (.ref y)] rfl rfl (Nat.le_of_ble_eq_true rfl) (fun X hX => ?_)
  have hR := hO.2.2
  refine r_aload_n hX dX8_passTotal_0 rfl ?_
  refine r_iconst (v := 5) hX dX8_passTotal_1 (by decide) ?_
  refine r_callV hX dX8_passTotal_2 (s_X8_told E g m y hO.1.1 5 (by decide)) ml_X8_112 rfl rfl hO.1.1.1.1 rfl ⟨Nat.le_of_ble_eq_true rfl, Nat.le_of_ble_eq_true rfl⟩ ⟨Nat.le_of_ble_eq_true rfl, Nat.le_of_ble_eq_true rfl, rfl, Nat.le_of_ble_eq_true rfl⟩ (fun v2 g2 m2 hp => ?_)
  obtain ⟨hv, hg, hm⟩ := hp
  subst v2
  subst g2
  subst m2
  rw [hR.rH (k := 5) (by decide) (by decide)]
  exact r_iret hX dX8_passTotal_5 (hO.ok rfl) ⟨Nat.le_of_ble_eq_true rfl, Nat.le_of_ble_eq_true rfl⟩
set_option maxRecDepth 20000 in
set_option maxHeartbeats 4000000 in
theorem s_X8_burntTotal (E : qE) (g : qG) (m : qM) (y : Nat) (O : kO) (hO : ModV g m y O) (u : Nat) (hw : WfO u O) (hu : u ≤ 6144)  : Sp E yX8_burntTotal cX8_burntTotal 1 (some .int) 1 0 0 [.ref y] g m (pU y g m (qNum O 6)) := by
  refine Sp.of (by decide) [some (.ref y)] rfl rfl (Nat.le_of_ble_eq_true rfl) (fun X hX => ?_)
  have hR := hO.2.2
  refine r_aload_n hX dX8_burntTotal_0 rfl ?_
  refine r_bipush (v := 6) hX dX8_burntTotal_1 (by decide) ?_
  refine r_callV hX dX8_burntTotal_3 (s_X8_told E g m y hO.1.1 6 (by decide)) ml_X8_112 rfl rfl hO.1.1.1.1 rfl ⟨Nat.le_of_ble_eq_true rfl, Nat.le_of_ble_eq_true rfl⟩ ⟨Nat.le_of_ble_eq_true rfl, Nat.le_of_ble_eq_true rfl, rfl, Nat.le_of_ble_eq_true rfl⟩ (fun v3 g3 m3 hp => ?_)
  obtain ⟨hv, hg, hm⟩ := hp
  subst v3
  subst g3
  subst m3
  rw [hR.rH (k := 6) (by decide) (by decide)]
  exact r_iret hX dX8_burntTotal_6 (hO.ok rfl) ⟨Nat.le_of_ble_eq_true rfl, Nat.le_of_ble_eq_true rfl⟩
set_option maxRecDepth 20000 in
set_option maxHeartbeats 4000000 in
theorem s_X8_cometAt (E : qE) (g : qG) (m : qM) (y : Nat) (O : kO) (hO : ModV g m y O) (u : Nat) (hw : WfO u O) (hu : u ≤ 6144) (i : Int32) : Sp E yX8_cometAt cX8_cometAt 2 (some .int) 1 0 0 [.ref y, .int i] g m (pU y g m (qAt O i)) := by
  refine Sp.of (by decide) [some (.ref y), some (.int i)] rfl rfl (Nat.le_of_ble_eq_true rfl) (fun X hX => ?_)
  have hR := hO.2.2
  refine r_aload_n hX dX8_cometAt_0 rfl ?_
  refine r_iload_n hX dX8_cometAt_1 rfl ?_
  refine r_iconst (v := 0) hX dX8_cometAt_2 (by decide) ?_
  refine r_aload_n hX dX8_cometAt_3 rfl ?_
  refine r_getR hX dX8_cometAt_4 hO.1.1.1.1 fl_X8_9 hO.1.1.2.1 ?_
  refine r_iconst (v := 0) hX dX8_cometAt_7 (by decide) ?_
  refine r_ialoadN hX dX8_cometAt_8 hO.1.1.1.2.1 (show 0 < 539 by decide) (by decide) ?_
  rw [hR.r0]
  refine r_iconst (v := 1) hX dX8_cometAt_9 (by decide) ?_
  refine r_isub hX dX8_cometAt_10 ?_
  refine r_callS hX dX8_cometAt_11 (s_X8_inN E g m i O.1.1.length (by have := hO.2.1; omega)) ml_X8_69 rfl rfl ⟨Nat.le_of_ble_eq_true rfl, Nat.le_of_ble_eq_true rfl⟩ ⟨Nat.le_of_ble_eq_true rfl, Nat.le_of_ble_eq_true rfl, rfl, Nat.le_of_ble_eq_true rfl⟩ (fun v11 g11 m11 hp => ?_)
  obtain ⟨hv, hg, hm⟩ := hp
  subst v11
  subst g11
  subst m11
  refine r_callV hX dX8_cometAt_14 (s_X8_fine E g m y (hO.1.1) (inN i O.1.1.length)) ml_X8_115 rfl rfl hO.1.1.1.1 rfl ⟨Nat.le_of_ble_eq_true rfl, Nat.le_of_ble_eq_true rfl⟩ ⟨Nat.le_of_ble_eq_true rfl, Nat.le_of_ble_eq_true rfl, rfl, Nat.le_of_ble_eq_true rfl⟩ (fun v14 g14 m14 hp => ?_)
  obtain ⟨hv, hg, hm⟩ := hp
  subst v14
  subst g14
  subst m14
  refine r_if_eq (tgt := 29) hX dX8_cometAt_17 (by decide) (fun c17 => ?_) (fun c17 => ?_)
  · have hn : ¬ inN i O.1.1.length := fun h => absurd c17 (by rw [if_pos h]; decide)
    have eR : qAt O i = (1, 0, O) := if_neg hn
    refine r_iconst (v := 0) hX dX8_cometAt_29 (by decide) ?_
    exact r_iret hX dX8_cometAt_30 (by rw [eR, if_neg hn]; exact hO.no (by decide) rfl) ⟨Nat.le_of_ble_eq_true rfl, Nat.le_of_ble_eq_true rfl⟩
  · have hn : inN i O.1.1.length := Classical.byContradiction (fun h => c17 (by rw [if_neg h]))
    obtain ⟨i9, hi9, rfl, hcl⟩ := inN_of (by have := hO.2.1; omega) hn
    have eR : qAt O (nI i9) = (0, nI (cAt O.1.1 i9 0), O) := by unfold qAt; rw [if_pos hn, hcl]
    have hl := hO.2.1
    refine r_aload_n hX dX8_cometAt_20 rfl ?_
    refine r_iload_n hX dX8_cometAt_21 rfl ?_
    refine r_iconst (v := 0) hX dX8_cometAt_22 (by decide) ?_
    refine r_callV hX dX8_cometAt_23 (s_X8_c E g _ y (by exact hO.1.1.to rfl) i9 0 (by omega)) ml_X8_49 rfl rfl hO.1.1.1.1 rfl ⟨Nat.le_of_ble_eq_true rfl, Nat.le_of_ble_eq_true rfl⟩ ⟨Nat.le_of_ble_eq_true rfl, Nat.le_of_ble_eq_true rfl, rfl, Nat.le_of_ble_eq_true rfl⟩ (fun v23 g23 m23 hp => ?_)
    obtain ⟨hv, hg, hm⟩ := hp
    subst v23
    subst g23
    subst m23
    rw [show qI (wI m y 0 (if inN (nI i9) O.1.1.length then 0 else 1)) (y + 1) (7 + 5 * i9 + 0) = nI (cAt O.1.1 i9 0) by rw [qI_wI, if_neg (by omega)]; exact hR.rC hi9 (by decide)]
    refine r_goto (tgt := 30) hX dX8_cometAt_26 (by decide) ?_
    exact r_iret hX dX8_cometAt_30 (by rw [eR]; exact hO.ok (if_pos hn)) ⟨Nat.le_of_ble_eq_true rfl, Nat.le_of_ble_eq_true rfl⟩
set_option maxRecDepth 20000 in
set_option maxHeartbeats 4000000 in
theorem s_X8_exists (E : qE) (g : qG) (m : qM) (y : Nat) (O : kO) (hO : ModV g m y O) (u : Nat) (hw : WfO u O) (hu : u ≤ 6144) (c : Int32) : Sp E yX8_exists cX8_exists 2 (some .boolean) 3 0 0 [.ref y, .int c] g m (pU y g m (qEx O c)) := by
  refine Sp.of (by decide) [some (.ref y), some (.int c)] rfl rfl (Nat.le_of_ble_eq_true rfl) (fun X hX => ?_)
  have hR := hO.2.2
  refine r_aload_n hX dX8_exists_0 rfl ?_
  refine r_iconst (v := 0) hX dX8_exists_1 (by decide) ?_
  refine r_putI hX dX8_exists_2 hO.1.1.1.1 fl_X8_36 ?_
  refine r_aload_n hX dX8_exists_5 rfl ?_
  refine r_iload_n hX dX8_exists_6 rfl ?_
  refine r_callV hX dX8_exists_7 (s_X8_isThere E g _ y (by exact hO.1.1.to rfl) c O.1 (by exact (hO.thr 0).2.2) hO.2.1) ml_X8_84 rfl rfl hO.1.1.1.1 rfl ⟨Nat.le_of_ble_eq_true rfl, Nat.le_of_ble_eq_true rfl⟩ ⟨Nat.le_of_ble_eq_true rfl, Nat.le_of_ble_eq_true rfl, rfl, Nat.le_of_ble_eq_true rfl⟩ (fun v7 g7 m7 hp => ?_)
  obtain ⟨hv, hg, hm⟩ := hp
  subst v7
  subst g7
  subst m7
  exact r_zret hX dX8_exists_10 (by cases (plV O.1.1 c).isSome <;> rfl) (hO.ok rfl) ⟨Nat.le_of_ble_eq_true rfl, Nat.le_of_ble_eq_true rfl⟩
set_option maxRecDepth 20000 in
set_option maxHeartbeats 4000000 in
theorem s_X8_ofComet (E : qE) (g : qG) (m : qM) (y : Nat) (O : kO) (hO : ModV g m y O) (u : Nat) (hw : WfO u O) (hu : u ≤ 6144) (c : Int32) (k : Nat) (hk : k < 5) : Sp E yX8_ofComet cX8_ofComet 3 (some .int) 3 0 0 [.ref y, .int c, .int (nI k)] g m (pU y g m (qOf O c (fun c => c k))) := by
  refine Sp.of (by decide) [some (.ref y), some (.int c), some (.int (nI k))] rfl rfl (Nat.le_of_ble_eq_true rfl) (fun X hX => ?_)
  have hR := hO.2.2
  refine r_aload_n hX dX8_ofComet_0 rfl ?_
  refine r_aload_n hX dX8_ofComet_1 rfl ?_
  refine r_iload_n hX dX8_ofComet_2 rfl ?_
  refine r_callV hX dX8_ofComet_3 (s_X8_isThere E g m y hO.1.1 c O.1 hR hO.2.1) ml_X8_84 rfl rfl hO.1.1.1.1 rfl ⟨Nat.le_of_ble_eq_true rfl, Nat.le_of_ble_eq_true rfl⟩ ⟨Nat.le_of_ble_eq_true rfl, Nat.le_of_ble_eq_true rfl, rfl, Nat.le_of_ble_eq_true rfl⟩ (fun v3 g3 m3 hp => ?_)
  obtain ⟨hv, hg, hm⟩ := hp
  subst v3
  subst g3
  subst m3
  refine r_callV hX dX8_ofComet_6 (s_X8_isFine E g m y hO.1.1 (plV O.1.1 c).isSome) ml_X8_115 rfl rfl hO.1.1.1.1 rfl ⟨Nat.le_of_ble_eq_true rfl, Nat.le_of_ble_eq_true rfl⟩ ⟨Nat.le_of_ble_eq_true rfl, Nat.le_of_ble_eq_true rfl, rfl, Nat.le_of_ble_eq_true rfl⟩ (fun v6 g6 m6 hp => ?_)
  obtain ⟨hv, hg, hm⟩ := hp
  subst v6
  subst g6
  subst m6
  refine r_if_eq (tgt := 25) hX dX8_ofComet_9 (by decide) (fun c9 => ?_) (fun c9 => ?_)
  · have hq : plV O.1.1 c = none := by
      cases hq : plV O.1.1 c with
      | none => rfl
      | some i => exact absurd c9 (by rw [hq]; show ¬ (1 : Int32) = 0; decide)
    refine r_iconst (v := 0) hX dX8_ofComet_25 (by decide) ?_
    exact r_iret hX dX8_ofComet_26 (by rw [qOf_n hq]; exact hO.no (by decide) (by rw [hq]; rfl)) ⟨Nat.le_of_ble_eq_true rfl, Nat.le_of_ble_eq_true rfl⟩
  · obtain ⟨i, hi⟩ : ∃ i, plV O.1.1 c = some i := by
      cases hq : plV O.1.1 c with
      | none => exact absurd (show (if (none : Option Nat).isSome = true then (1 : Int32) else 0) = 0 from rfl) (by rw [← hq]; exact c9)
      | some i => exact ⟨i, rfl⟩
    have hil := (plV_lt hi).1
    have hl6 := hO.2.1
    have hf : (if (plV O.1.1 c).isSome = true then (0 : Int32) else 1) = 0 := by rw [hi]; rfl
    rw [hf]
    have hO1 := hO.thr 0
    refine r_aload_n hX dX8_ofComet_12 rfl ?_
    refine r_aload_n hX dX8_ofComet_13 rfl ?_
    refine r_iload_n hX dX8_ofComet_14 rfl ?_
    refine r_callV hX dX8_ofComet_15 (s_X8_place E g _ y (by exact hO1.s) c O.1 (by exact hO1.2.2) hl6) ml_X8_53 rfl rfl hO.1.1.1.1 rfl ⟨Nat.le_of_ble_eq_true rfl, Nat.le_of_ble_eq_true rfl⟩ ⟨Nat.le_of_ble_eq_true rfl, Nat.le_of_ble_eq_true rfl, rfl, Nat.le_of_ble_eq_true rfl⟩ (fun v15 g15 m15 hp => ?_)
    obtain ⟨hv, hg, hm⟩ := hp
    subst v15
    subst g15
    subst m15
    rw [show plV _ c = some i from hi]
    refine r_iload_n hX dX8_ofComet_18 rfl ?_
    refine r_callV hX dX8_ofComet_19 (s_X8_c E g _ y (by exact hO1.s) i k (by omega)) ml_X8_49 rfl rfl hO.1.1.1.1 rfl ⟨Nat.le_of_ble_eq_true rfl, Nat.le_of_ble_eq_true rfl⟩ ⟨Nat.le_of_ble_eq_true rfl, Nat.le_of_ble_eq_true rfl, rfl, Nat.le_of_ble_eq_true rfl⟩ (fun v19 g19 m19 hp => ?_)
    obtain ⟨hv, hg, hm⟩ := hp
    subst v19
    subst g19
    subst m19
    rw [hO1.2.2.rC hil (by omega)]
    refine r_goto (tgt := 26) hX dX8_ofComet_22 (by decide) ?_
    exact r_iret hX dX8_ofComet_26 (by rw [qOf_s hi]; exact hO.ok rfl) ⟨Nat.le_of_ble_eq_true rfl, Nat.le_of_ble_eq_true rfl⟩
set_option maxRecDepth 20000 in
set_option maxHeartbeats 4000000 in
theorem s_X8_period (E : qE) (g : qG) (m : qM) (y : Nat) (O : kO) (hO : ModV g m y O) (u : Nat) (hw : WfO u O) (hu : u ≤ 6144) (c : Int32) : Sp E yX8_period cX8_period 2 (some .int) 4 0 0 [.ref y, .int c] g m (pU y g m (qOf O c (fun c => c 1))) := by
  refine Sp.of (by decide) [some (.ref y), some (.int c)] rfl rfl (Nat.le_of_ble_eq_true rfl) (fun X hX => ?_)
  have hR := hO.2.2
  refine r_aload_n hX dX8_period_0 rfl ?_
  refine r_iload_n hX dX8_period_1 rfl ?_
  refine r_iconst (v := 1) hX dX8_period_2 (by decide) ?_
  refine r_callV hX dX8_period_3 (s_X8_ofComet E g m y O hO u hw hu c 1 (by decide)) ml_X8_119 rfl rfl hO.1.1.1.1 rfl ⟨Nat.le_of_ble_eq_true rfl, Nat.le_of_ble_eq_true rfl⟩ ⟨Nat.le_of_ble_eq_true rfl, Nat.le_of_ble_eq_true rfl, rfl, Nat.le_of_ble_eq_true rfl⟩ (fun v3 g3 m3 hp => ?_)
  obtain ⟨⟨w, hv, hw9⟩, hg, hP⟩ := hp
  subst v3
  subst g3
  exact r_iret hX dX8_period_6 ⟨⟨w, rfl, hw9⟩, rfl, hP⟩ ⟨Nat.le_of_ble_eq_true rfl, Nat.le_of_ble_eq_true rfl⟩
set_option maxRecDepth 20000 in
set_option maxHeartbeats 4000000 in
theorem s_X8_brightness (E : qE) (g : qG) (m : qM) (y : Nat) (O : kO) (hO : ModV g m y O) (u : Nat) (hw : WfO u O) (hu : u ≤ 6144) (c : Int32) : Sp E yX8_brightness cX8_brightness 2 (some .int) 4 0 0 [.ref y, .int c] g m (pU y g m (qOf O c (fun c => c 2))) := by
  refine Sp.of (by decide) [some (.ref y), some (.int c)] rfl rfl (Nat.le_of_ble_eq_true rfl) (fun X hX => ?_)
  have hR := hO.2.2
  refine r_aload_n hX dX8_brightness_0 rfl ?_
  refine r_iload_n hX dX8_brightness_1 rfl ?_
  refine r_iconst (v := 2) hX dX8_brightness_2 (by decide) ?_
  refine r_callV hX dX8_brightness_3 (s_X8_ofComet E g m y O hO u hw hu c 2 (by decide)) ml_X8_119 rfl rfl hO.1.1.1.1 rfl ⟨Nat.le_of_ble_eq_true rfl, Nat.le_of_ble_eq_true rfl⟩ ⟨Nat.le_of_ble_eq_true rfl, Nat.le_of_ble_eq_true rfl, rfl, Nat.le_of_ble_eq_true rfl⟩ (fun v3 g3 m3 hp => ?_)
  obtain ⟨⟨w, hv, hw9⟩, hg, hP⟩ := hp
  subst v3
  subst g3
  exact r_iret hX dX8_brightness_6 ⟨⟨w, rfl, hw9⟩, rfl, hP⟩ ⟨Nat.le_of_ble_eq_true rfl, Nat.le_of_ble_eq_true rfl⟩
set_option maxRecDepth 20000 in
set_option maxHeartbeats 4000000 in
theorem s_X8_nextPass (E : qE) (g : qG) (m : qM) (y : Nat) (O : kO) (hO : ModV g m y O) (u : Nat) (hw : WfO u O) (hu : u ≤ 6144) (c : Int32) : Sp E yX8_nextPass cX8_nextPass 2 (some .int) 4 0 0 [.ref y, .int c] g m (pU y g m (qOf O c (fun c => c 3))) := by
  refine Sp.of (by decide) [some (.ref y), some (.int c)] rfl rfl (Nat.le_of_ble_eq_true rfl) (fun X hX => ?_)
  have hR := hO.2.2
  refine r_aload_n hX dX8_nextPass_0 rfl ?_
  refine r_iload_n hX dX8_nextPass_1 rfl ?_
  refine r_iconst (v := 3) hX dX8_nextPass_2 (by decide) ?_
  refine r_callV hX dX8_nextPass_3 (s_X8_ofComet E g m y O hO u hw hu c 3 (by decide)) ml_X8_119 rfl rfl hO.1.1.1.1 rfl ⟨Nat.le_of_ble_eq_true rfl, Nat.le_of_ble_eq_true rfl⟩ ⟨Nat.le_of_ble_eq_true rfl, Nat.le_of_ble_eq_true rfl, rfl, Nat.le_of_ble_eq_true rfl⟩ (fun v3 g3 m3 hp => ?_)
  obtain ⟨⟨w, hv, hw9⟩, hg, hP⟩ := hp
  subst v3
  subst g3
  exact r_iret hX dX8_nextPass_6 ⟨⟨w, rfl, hw9⟩, rfl, hP⟩ ⟨Nat.le_of_ble_eq_true rfl, Nat.le_of_ble_eq_true rfl⟩
set_option maxRecDepth 20000 in
set_option maxHeartbeats 4000000 in
theorem s_X8_passesOf (E : qE) (g : qG) (m : qM) (y : Nat) (O : kO) (hO : ModV g m y O) (u : Nat) (hw : WfO u O) (hu : u ≤ 6144) (c : Int32) : Sp E yX8_passesOf cX8_passesOf 2 (some .int) 4 0 0 [.ref y, .int c] g m (pU y g m (qOf O c (fun c => c 4))) := by
  refine Sp.of (by decide) [some (.ref y), some (.int c)] rfl rfl (Nat.le_of_ble_eq_true rfl) (fun X hX => ?_)
  have hR := hO.2.2
  refine r_aload_n hX dX8_passesOf_0 rfl ?_
  refine r_iload_n hX dX8_passesOf_1 rfl ?_
  refine r_iconst (v := 4) hX dX8_passesOf_2 (by decide) ?_
  refine r_callV hX dX8_passesOf_3 (s_X8_ofComet E g m y O hO u hw hu c 4 (by decide)) ml_X8_119 rfl rfl hO.1.1.1.1 rfl ⟨Nat.le_of_ble_eq_true rfl, Nat.le_of_ble_eq_true rfl⟩ ⟨Nat.le_of_ble_eq_true rfl, Nat.le_of_ble_eq_true rfl, rfl, Nat.le_of_ble_eq_true rfl⟩ (fun v3 g3 m3 hp => ?_)
  obtain ⟨⟨w, hv, hw9⟩, hg, hP⟩ := hp
  subst v3
  subst g3
  exact r_iret hX dX8_passesOf_6 ⟨⟨w, rfl, hw9⟩, rfl, hP⟩ ⟨Nat.le_of_ble_eq_true rfl, Nat.le_of_ble_eq_true rfl⟩
theorem pU.eqR {y : Nat} {g : qG} {m : qM} {R R' : kR} {v : Option Value} {g' : qG} {m' : qM} (h : pU y g m R v g' m') (e : R = R') : pU y g m R' v g' m' := e ▸ h
set_option maxRecDepth 20000 in
set_option maxHeartbeats 4000000 in
theorem s_X8_tail (E : qE) (g : qG) (m : qM) (y : Nat) (O : kO) (hO : ModV g m y O) (u : Nat) (hw : WfO u O) (hu : u ≤ 6144) (c : Int32) : Sp E yX8_tail cX8_tail 3 (some .int) 5 0 0 [.ref y, .int c] g m (pU y g m (qOf O c (fun c => 1 + c 2 / 5))) := by
  refine Sp.of (by decide) [some (.ref y), some (.int c), none] rfl rfl (Nat.le_of_ble_eq_true rfl) (fun X hX => ?_)
  have hR := hO.2.2
  refine r_aload_n hX dX8_tail_0 rfl ?_
  refine r_iload_n hX dX8_tail_1 rfl ?_
  refine r_callV hX dX8_tail_2 (s_X8_brightness E g m y O hO u hw hu c) ml_X8_122 rfl rfl hO.1.1.1.1 rfl ⟨Nat.le_of_ble_eq_true rfl, Nat.le_of_ble_eq_true rfl⟩ ⟨Nat.le_of_ble_eq_true rfl, Nat.le_of_ble_eq_true rfl, rfl, Nat.le_of_ble_eq_true rfl⟩ (fun v2 g2 m2 hp => ?_)
  obtain ⟨⟨w, hv, hw9⟩, hg, h0, hV2, hM2⟩ := hp
  subst v2
  subst g2
  refine r_istore_n hX dX8_tail_5 (Nat.le_of_ble_eq_true rfl) rfl ?_
  refine r_aload_n hX dX8_tail_6 rfl ?_
  refine r_getI hX dX8_tail_7 hO.1.1.1.1 fl_X8_36 ?_
  rw [h0]
  refine r_if_ne (tgt := 20) hX dX8_tail_10 (by decide) (fun c10 => ?_) (fun c10 => ?_)
  · have hq : plV O.1.1 c = none := by
      cases hq : plV O.1.1 c with
      | none => rfl
      | some i => exact absurd (show nI (qOf O c (fun c => c 2)).1 = 0 by rw [qOf_s hq]; rfl) c10
    rw [qOf_n hq] at h0 hV2
    refine r_iconst (v := 0) hX dX8_tail_20 (by decide) ?_
    exact r_iret hX dX8_tail_21 (by rw [qOf_n hq]; exact ⟨⟨0, rfl, fun _ => rfl⟩, rfl, h0, hV2, hM2⟩) ⟨Nat.le_of_ble_eq_true rfl, Nat.le_of_ble_eq_true rfl⟩
  · obtain ⟨i, hi⟩ : ∃ i, plV O.1.1 c = some i := by
      cases hq : plV O.1.1 c with
      | none => exact absurd c10 (by rw [qOf_n hq]; show ¬ nI 1 = 0; decide)
      | some i => exact ⟨i, rfl⟩
    have hil := (plV_lt hi).1
    rw [qOf_s hi] at h0 hV2 hw9
    have hw9 : w = nI (cAt O.1.1 i 2) := hw9 rfl
    subst hw9
    have hb := (hw.com hu hil).2.2.2.1
    refine r_iload_n hX dX8_tail_13 rfl ?_
    refine r_callS hX dX8_tail_14 (s_X8_tailOf E g m2 (nI (cAt O.1.1 i 2))) ml_X8_125 rfl rfl ⟨Nat.le_of_ble_eq_true rfl, Nat.le_of_ble_eq_true rfl⟩ ⟨Nat.le_of_ble_eq_true rfl, Nat.le_of_ble_eq_true rfl, rfl, Nat.le_of_ble_eq_true rfl⟩ (fun v14 g14 m14 hp => ?_)
    obtain ⟨hv, hg, hm⟩ := hp
    subst v14
    subst g14
    subst m14
    rw [show (1 : Int32) + nI (cAt O.1.1 i 2) / 5 = nI (1 + cAt O.1.1 i 2 / 5) by rw [show nI (cAt O.1.1 i 2) / (5 : Int32) = nI (cAt O.1.1 i 2 / 5) from pk_div (d := 5) (by omega) (by decide) (by decide)]; exact nI_add 1 _]
    refine r_goto (tgt := 21) hX dX8_tail_17 (by decide) ?_
    exact r_iret hX dX8_tail_21 (by rw [qOf_s hi]; exact ⟨⟨_, rfl, fun _ => rfl⟩, rfl, h0, hV2, hM2⟩) ⟨Nat.le_of_ble_eq_true rfl, Nat.le_of_ble_eq_true rfl⟩
set_option maxRecDepth 20000 in
set_option maxHeartbeats 4000000 in
theorem s_X8_lastPass (E : qE) (g : qG) (m : qM) (y : Nat) (O : kO) (hO : ModV g m y O) (u : Nat) (hw : WfO u O) (hu : u ≤ 6144) (c : Int32) : Sp E yX8_lastPass cX8_lastPass 2 (some .int) 3 0 0 [.ref y, .int c] g m (pU y g m (qOf O c (fun c => c 3 + (c 2 - 1) * c 1))) := by
  refine Sp.of (by decide) [some (.ref y), some (.int c)] rfl rfl (Nat.le_of_ble_eq_true rfl) (fun X hX => ?_)
  have hR := hO.2.2
  refine r_aload_n hX dX8_lastPass_0 rfl ?_
  refine r_aload_n hX dX8_lastPass_1 rfl ?_
  refine r_iload_n hX dX8_lastPass_2 rfl ?_
  refine r_callV hX dX8_lastPass_3 (s_X8_isThere E g m y hO.1.1 c O.1 hR hO.2.1) ml_X8_84 rfl rfl hO.1.1.1.1 rfl ⟨Nat.le_of_ble_eq_true rfl, Nat.le_of_ble_eq_true rfl⟩ ⟨Nat.le_of_ble_eq_true rfl, Nat.le_of_ble_eq_true rfl, rfl, Nat.le_of_ble_eq_true rfl⟩ (fun v3 g3 m3 hp => ?_)
  obtain ⟨hv, hg, hm⟩ := hp
  subst v3
  subst g3
  subst m3
  refine r_callV hX dX8_lastPass_6 (s_X8_isFine E g m y hO.1.1 (plV O.1.1 c).isSome) ml_X8_115 rfl rfl hO.1.1.1.1 rfl ⟨Nat.le_of_ble_eq_true rfl, Nat.le_of_ble_eq_true rfl⟩ ⟨Nat.le_of_ble_eq_true rfl, Nat.le_of_ble_eq_true rfl, rfl, Nat.le_of_ble_eq_true rfl⟩ (fun v6 g6 m6 hp => ?_)
  obtain ⟨hv, hg, hm⟩ := hp
  subst v6
  subst g6
  subst m6
  refine r_if_eq (tgt := 49) hX dX8_lastPass_9 (by decide) (fun c9 => ?_) (fun c9 => ?_)
  · have hq : plV O.1.1 c = none := by
      cases hq : plV O.1.1 c with
      | none => rfl
      | some i => exact absurd c9 (by rw [hq]; show ¬ (1 : Int32) = 0; decide)
    refine r_iconst (v := 0) hX dX8_lastPass_49 (by decide) ?_
    exact r_iret hX dX8_lastPass_50 (by rw [qOf_n hq]; exact hO.no (by decide) (by rw [hq]; rfl)) ⟨Nat.le_of_ble_eq_true rfl, Nat.le_of_ble_eq_true rfl⟩
  · obtain ⟨i, hi⟩ : ∃ i, plV O.1.1 c = some i := by
      cases hq : plV O.1.1 c with
      | none => exact absurd (show (if (none : Option Nat).isSome = true then (1 : Int32) else 0) = 0 from rfl) (by rw [← hq]; exact c9)
      | some i => exact ⟨i, rfl⟩
    have hil := (plV_lt hi).1
    have hl6 := hO.2.1
    have hf : (if (plV O.1.1 c).isSome = true then (0 : Int32) else 1) = 0 := by rw [hi]; rfl
    rw [hf]
    have hO1 := hO.thr 0
    have hcom := hw.com hu hil
    refine r_aload_n hX dX8_lastPass_12 rfl ?_
    refine r_aload_n hX dX8_lastPass_13 rfl ?_
    refine r_iload_n hX dX8_lastPass_14 rfl ?_
    refine r_callV hX dX8_lastPass_15 (s_X8_place E g _ y (by exact hO1.s) c O.1 (by exact hO1.2.2) hl6) ml_X8_53 rfl rfl hO.1.1.1.1 rfl ⟨Nat.le_of_ble_eq_true rfl, Nat.le_of_ble_eq_true rfl⟩ ⟨Nat.le_of_ble_eq_true rfl, Nat.le_of_ble_eq_true rfl, rfl, Nat.le_of_ble_eq_true rfl⟩ (fun v15 g15 m15 hp => ?_)
    obtain ⟨hv, hg, hm⟩ := hp
    subst v15
    subst g15
    subst m15
    rw [show plV _ c = some i from hi]
    refine r_iconst (v := 3) hX dX8_lastPass_18 (by decide) ?_
    refine r_callV hX dX8_lastPass_19 (s_X8_c E g _ y (by exact hO1.s) i 3 (by omega)) ml_X8_49 rfl rfl hO.1.1.1.1 rfl ⟨Nat.le_of_ble_eq_true rfl, Nat.le_of_ble_eq_true rfl⟩ ⟨Nat.le_of_ble_eq_true rfl, Nat.le_of_ble_eq_true rfl, rfl, Nat.le_of_ble_eq_true rfl⟩ (fun v19 g19 m19 hp => ?_)
    obtain ⟨hv, hg, hm⟩ := hp
    subst v19
    subst g19
    subst m19
    rw [hO1.2.2.rC hil (by omega)]
    refine r_aload_n hX dX8_lastPass_22 rfl ?_
    refine r_aload_n hX dX8_lastPass_23 rfl ?_
    refine r_iload_n hX dX8_lastPass_24 rfl ?_
    refine r_callV hX dX8_lastPass_25 (s_X8_place E g _ y (by exact hO1.s) c O.1 (by exact hO1.2.2) hl6) ml_X8_53 rfl rfl hO.1.1.1.1 rfl ⟨Nat.le_of_ble_eq_true rfl, Nat.le_of_ble_eq_true rfl⟩ ⟨Nat.le_of_ble_eq_true rfl, Nat.le_of_ble_eq_true rfl, rfl, Nat.le_of_ble_eq_true rfl⟩ (fun v25 g25 m25 hp => ?_)
    obtain ⟨hv, hg, hm⟩ := hp
    subst v25
    subst g25
    subst m25
    rw [show plV _ c = some i from hi]
    refine r_iconst (v := 2) hX dX8_lastPass_28 (by decide) ?_
    refine r_callV hX dX8_lastPass_29 (s_X8_c E g _ y (by exact hO1.s) i 2 (by omega)) ml_X8_49 rfl rfl hO.1.1.1.1 rfl ⟨Nat.le_of_ble_eq_true rfl, Nat.le_of_ble_eq_true rfl⟩ ⟨Nat.le_of_ble_eq_true rfl, Nat.le_of_ble_eq_true rfl, rfl, Nat.le_of_ble_eq_true rfl⟩ (fun v29 g29 m29 hp => ?_)
    obtain ⟨hv, hg, hm⟩ := hp
    subst v29
    subst g29
    subst m29
    rw [hO1.2.2.rC hil (by omega)]
    refine r_iconst (v := 1) hX dX8_lastPass_32 (by decide) ?_
    refine r_isub hX dX8_lastPass_33 ?_
    rw [show nI (cAt O.1.1 i 2) - (1 : Int32) = nI (cAt O.1.1 i 2 - 1) from pk_sub (b := 1) hcom.2.2.1]
    refine r_aload_n hX dX8_lastPass_34 rfl ?_
    refine r_aload_n hX dX8_lastPass_35 rfl ?_
    refine r_iload_n hX dX8_lastPass_36 rfl ?_
    refine r_callV hX dX8_lastPass_37 (s_X8_place E g _ y (by exact hO1.s) c O.1 (by exact hO1.2.2) hl6) ml_X8_53 rfl rfl hO.1.1.1.1 rfl ⟨Nat.le_of_ble_eq_true rfl, Nat.le_of_ble_eq_true rfl⟩ ⟨Nat.le_of_ble_eq_true rfl, Nat.le_of_ble_eq_true rfl, rfl, Nat.le_of_ble_eq_true rfl⟩ (fun v37 g37 m37 hp => ?_)
    obtain ⟨hv, hg, hm⟩ := hp
    subst v37
    subst g37
    subst m37
    rw [show plV _ c = some i from hi]
    refine r_iconst (v := 1) hX dX8_lastPass_40 (by decide) ?_
    refine r_callV hX dX8_lastPass_41 (s_X8_c E g _ y (by exact hO1.s) i 1 (by omega)) ml_X8_49 rfl rfl hO.1.1.1.1 rfl ⟨Nat.le_of_ble_eq_true rfl, Nat.le_of_ble_eq_true rfl⟩ ⟨Nat.le_of_ble_eq_true rfl, Nat.le_of_ble_eq_true rfl, rfl, Nat.le_of_ble_eq_true rfl⟩ (fun v41 g41 m41 hp => ?_)
    obtain ⟨hv, hg, hm⟩ := hp
    subst v41
    subst g41
    subst m41
    rw [hO1.2.2.rC hil (by omega)]
    refine r_imul hX dX8_lastPass_44 ?_
    rw [pk_mul]
    refine r_iadd hX dX8_lastPass_45 ?_
    rw [nI_add]
    refine r_goto (tgt := 50) hX dX8_lastPass_46 (by decide) ?_
    exact r_iret hX dX8_lastPass_50 (by rw [qOf_s hi]; exact hO.ok rfl) ⟨Nat.le_of_ble_eq_true rfl, Nat.le_of_ble_eq_true rfl⟩
