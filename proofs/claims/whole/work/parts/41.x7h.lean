/-! ===== CometObservatory: a program run ===== -/
/-- the text read: whether it is a program, the position, how many commands, the commands -/
def oCm (O : kO) : Bool × Nat × Nat × (Nat → kC) := pRs (fun j => nI (oTx O j)) (oTn O) 12 0 0 (fun _ => (0, fun _ => 0))
def cC (V : kV) (c : kC) : kA := cCmd V c.1 (c.2 0) (c.2 1) (c.2 2)
/-- n commands from the i-th on: the first that fails, the state -/
def goC (cs : Nat → kC) : Nat → Nat → kV → Option Nat × kV
  | 0, _, V => (none, V)
  | n + 1, i, V => if (cC V (cs i)).1 = 0 then goC cs n (i + 1) (cC V (cs i)).2.2 else (some i, V)
/-- the state with an empty text -/
def noTx (O : kO) : kO := (O.1, O.2.1, O.2.2.1, oEr O, oFa O, oTx O, 0, oLn O)
def setEr (O : kO) (n : Nat) : kO := (O.1, O.2.1, O.2.2.1, some n, oFa O, oTx O, oTn O, oLn O)
def setFa (O : kO) (n : Nat) : kO := (O.1, O.2.1, O.2.2.1, oEr O, some n, oTx O, oTn O, oLn O)
def runO (O : kO) : kR := if (oCm O).1 = true then (match goC (oCm O).2.2.2 (oCm O).2.2.1 0 O.1 with
  | (none, V') => (0, nI (oCm O).2.2.1, V', O.2.1, (O.1 :: O.2.2.1).take 8, (noTx O).2.2.2)
  | (some i, _) => (2, 0, setFa (noTx O) i)) else (1, 0, setEr (noTx O) (oCm O).2.1)
theorem cCmd_congr {V : kV} {k : Nat} (hk : k < 7) {a b c a' b' c' : Int32} (h0 : a = a') (h1 : 1 < nOf k → b = b') (h2 : 2 < nOf k → c = c') : cCmd V k a b c = cCmd V k a' b' c' := by
  subst h0
  obtain rfl | rfl | rfl | rfl | rfl | rfl | rfl : k = 0 ∨ k = 1 ∨ k = 2 ∨ k = 3 ∨ k = 4 ∨ k = 5 ∨ k = 6 := by omega
  · rw [h1 (by decide), h2 (by decide)]
  · rw [cCmd1, cCmd1]
  · rw [cCmd2, cCmd2, h1 (by decide)]
  · rw [cCmd3, cCmd3, h1 (by decide)]
  · rw [cCmd4, cCmd4]
  · rw [cCmd5, cCmd5, h1 (by decide)]
  · rw [cCmd6, cCmd6]
theorem ObsV.er {g : qG} {m : qM} {x : Nat} {O : kO} (h : ObsV g m x O) (n : Nat) : ObsV g (wI m x 8 (nI n)) x (setEr O n) := by
  have ho : OutP (fun a => a = x) m (wI m x 8 (nI n)) := outP_wI rfl
  have hn := fun (a k : Nat) (hP : a = x) => h.n2 (a := a) (n := k) (by omega) (by omega)
  obtain ⟨⟨c1, c2, c3, c4, c5⟩, b1, b2, ⟨S2, b3⟩, b4, b5, b6, b7⟩ := h
  exact ⟨⟨c1, c2, (qI_wI_k _ _ _ _ (by decide)).trans c3, qI_wI_s _ _ _ _, (qI_wI_k _ _ _ _ (by decide)).trans c5⟩, b1.out ho (by omega), b2.out ho (by omega), ⟨S2, b3.outP ho (by omega)⟩, b4.out ho (by omega), b5.out ho (by omega), b6.out ho (by omega), b7.outP ho (by omega) hn⟩
theorem ObsV.fa {g : qG} {m : qM} {x : Nat} {O : kO} (h : ObsV g m x O) (n : Nat) : ObsV g (wI m x 9 (nI n)) x (setFa O n) := by
  have ho : OutP (fun a => a = x) m (wI m x 9 (nI n)) := outP_wI rfl
  have hn := fun (a k : Nat) (hP : a = x) => h.n2 (a := a) (n := k) (by omega) (by omega)
  obtain ⟨⟨c1, c2, c3, c4, c5⟩, b1, b2, ⟨S2, b3⟩, b4, b5, b6, b7⟩ := h
  exact ⟨⟨c1, c2, (qI_wI_k _ _ _ _ (by decide)).trans c3, (qI_wI_k _ _ _ _ (by decide)).trans c4, qI_wI_s _ _ _ _⟩, b1.out ho (by omega), b2.out ho (by omega), ⟨S2, b3.outP ho (by omega)⟩, b4.out ho (by omega), b5.out ho (by omega), b6.out ho (by omega), b7.outP ho (by omega) hn⟩
theorem ObsV.bef {g : qG} {m m' : qM} {x : Nat} {O : kO} {S : kS} (h : ObsV g m x O) (hS : SkyIs g m' (x + 21) S) (ho : OutP (fun a => x + 21 ≤ a ∧ a < x + 31) m m') : ObsV g m' x O := by
  have hn := fun (a k : Nat) (hP : x + 21 ≤ a ∧ a < x + 31) => h.n2 (a := a) (n := k) (by omega) (by omega)
  obtain ⟨b0, b1, b2, -, b4, b5, b6, b7⟩ := h
  exact ⟨b0.out ho (by omega), b1.out ho (by omega), b2.out ho (by omega), ⟨S, hS⟩, b4.out ho (by omega), b5.out ho (by omega), b6.out ho (by omega), b7.outP ho (by omega) hn⟩
theorem ObsV.par {g : qG} {m m4 : qM} {x : Nat} {O : kO} (h : ObsV g m x O) (hG : PG (x + 120) m m4) : ObsV g (wI m4 (x + 120) 3 0) x (noTx O) ∧ FrP (fun a => x ≤ a ∧ a < x + 137) g m g (wI m4 (x + 120) 3 0) := by
  have ho1 : OutP (fun a => x + 120 ≤ a ∧ a < x + 136) m m4 := OutP.ofI (fun a j ha => hG.1 a j (by omega) (by omega) (by omega)) hG.2
  have ho : OutP (fun a => x + 120 ≤ a ∧ a < x + 136) m (wI m4 (x + 120) 3 0) := ho1.tr (outP_wI (by omega))
  have hn := fun (a k : Nat) (hP : x + 120 ≤ a ∧ a < x + 136) => h.n2 (a := a) (n := k) (by omega) (by omega)
  obtain ⟨b0, b1, b2, ⟨S2, b3⟩, b4, b5, ⟨b6, -, b6t⟩, b7⟩ := h
  exact ⟨⟨b0.out ho (by omega), b1.out ho (by omega), b2.out ho (by omega), ⟨S2, b3.outP ho (by omega)⟩, b4.out ho (by omega), b5.out ho (by omega), ⟨b6.to hG.2, qI_wI_s _ _ _ _, fun j => (qI_wI_a _ _ _ _ (by omega)).trans ((hG.1 _ _ (by omega) (by omega) (by omega)).trans (b6t j))⟩, b7.outP ho (by omega) hn⟩, FrP.of ho (by omega)⟩
set_option maxRecDepth 20000 in
set_option maxHeartbeats 4000000 in
theorem s_X7_run_l {E : qE} {X : qX} {Q : State → Prop} {g : qG} {m : qM} (hX : MC E yX7_run cX7_run 3 (some .int) 10 2 12 [] X) {x cnt u : Nat} {O1 : kO} {S : kS} {cs : Nat → kC} {v1 : Int32} (b0 : ObH g m x O1) (hp : ProS g m (x + 120)) (hcn : qI m (x + 120) 5 = nI cnt) (hc12 : cnt ≤ 12) (hcm : CmIs m (x + 120) cnt cs) (hu : u ≤ 6144) : ∀ (k i : Nat) (Vi : kV) (mi : qM), i + k = cnt → (SkyQ g mi (x + 1) Vi ∧ SkyIs g mi (x + 21) S ∧ OutP (fun a => x + 1 ≤ a ∧ a < x + 11) m mi) → WfV (u + i) Vi → (∀ (V2 : kV) (m2 : qM), goC cs k i Vi = (none, V2) → (SkyQ g m2 (x + 1) V2 ∧ SkyIs g m2 (x + 21) S ∧ OutP (fun a => x + 1 ≤ a ∧ a < x + 11) m m2) → WS E X 0 0 Q g m2 148 [some (.ref x), some (.int v1), some (.int (nI cnt))] []) → (∀ (i2 : Nat) (V2 : kV) (m2 : qM), (goC cs k i Vi).1 = some i2 → i2 < 12 → (SkyQ g m2 (x + 1) V2 ∧ SkyIs g m2 (x + 21) S ∧ OutP (fun a => x + 1 ≤ a ∧ a < x + 11) m m2) → WS E X 0 0 Q g m2 115 [some (.ref x), some (.int v1), some (.int (nI i2))] []) → WS E X 0 0 Q g mi 55 [some (.ref x), some (.int v1), some (.int (nI i))] [] := by
  intro k
  induction k with
  | zero =>
    intro i Vi mi hi hI hwi K1 K2
    have hib : i = cnt := by omega
    subst hib
    have bi : ObH g mi x O1 := b0.out hI.2.2 (by omega)
    have hpi : ProS g mi (x + 120) := hp.out hI.2.2 (by omega) (by omega)
    have hcni : qI mi (x + 120) 5 = nI i := (hI.2.2.1 _ _ (by omega)).1.trans hcn
    refine r_iload_n hX dX7_run_55 rfl ?_
    refine r_aload_n hX dX7_run_56 rfl ?_
    refine r_getR hX dX7_run_57 bi.1 fl_X7_39 bi.2.1.2.2.2.2.2.1 ?_
    refine r_getI hX dX7_run_60 hpi.1.1 fl_X7_341 ?_
    rw [hcni]
    refine r_icmp_ge (tgt := 148) hX dX7_run_63 (by decide) (fun c63 => ?_) (fun c63 => ?_)
    · exact K1 Vi mi rfl hI
    · exact absurd (Int32.le_refl _) c63
  | succ k ih =>
    intro i Vi mi hi hI hwi K1 K2
    have hi12 : i < 12 := by omega
    have hil : i < cnt := by omega
    have bi : ObH g mi x O1 := b0.out hI.2.2 (by omega)
    have hpi : ProS g mi (x + 120) := hp.out hI.2.2 (by omega) (by omega)
    have hcni : qI mi (x + 120) 5 = nI cnt := (hI.2.2.1 _ _ (by omega)).1.trans hcn
    obtain ⟨hk0, hk7, hk3⟩ := hcm i hil
    have hki : qI mi (x + 120 + 2) i = nI (cs i).1 := (hI.2.2.1 _ _ (by omega)).1.trans hk0
    have hn3 : ∀ j, j < nOf (cs i).1 → qI mi (x + 120 + 4 + i) j = (cs i).2 j := fun j hj => (hI.2.2.1 _ _ (by omega)).1.trans (hk3 j hj)
    have hn0 : 0 < nOf (cs i).1 := by unfold nOf; split <;> (try split) <;> omega
    have hcg : cCmd Vi (cs i).1 (qI mi (x + 120 + 4 + i) 0) (qI mi (x + 120 + 4 + i) 1) (qI mi (x + 120 + 4 + i) 2) = cC Vi (cs i) := cCmd_congr hk7 (hn3 0 hn0) (hn3 1) (hn3 2)
    have hS2 := hI.2.1
    have hI3 := hI.2.2
    refine r_iload_n hX dX7_run_55 rfl ?_
    refine r_aload_n hX dX7_run_56 rfl ?_
    refine r_getR hX dX7_run_57 bi.1 fl_X7_39 bi.2.1.2.2.2.2.2.1 ?_
    refine r_getI hX dX7_run_60 hpi.1.1 fl_X7_341 ?_
    rw [hcni]
    refine r_icmp_ge (tgt := 148) hX dX7_run_63 (by decide) (fun c63 => ?_) (fun c63 => ?_)
    · exact absurd c63 (nI_ge (by omega) (by omega))
    · refine r_aload_n hX dX7_run_66 rfl ?_
      refine r_aload_n hX dX7_run_67 rfl ?_
      refine r_getR hX dX7_run_68 bi.1 fl_X7_39 bi.2.1.2.2.2.2.2.1 ?_
      refine r_getR hX dX7_run_71 hpi.1.1 fl_X7_342 hpi.2.2.1 ?_
      refine r_iload_n hX dX7_run_74 rfl ?_
      refine r_ialoadN hX dX7_run_75 hpi.1.2.2.1 hi12 (by decide) ?_
      rw [hki]
      refine r_aload_n hX dX7_run_76 rfl ?_
      refine r_getR hX dX7_run_77 bi.1 fl_X7_39 bi.2.1.2.2.2.2.2.1 ?_
      refine r_getR hX dX7_run_80 hpi.1.1 fl_X7_345 hpi.2.2.2.1 ?_
      refine r_iload_n hX dX7_run_83 rfl ?_
      refine r_aaload7N hX dX7_run_84 hpi.1.2.2.2.1 hi12 (by decide) (hpi.2.2.2.2 i hi12) ?_
      refine r_iconst (v := 0) hX dX7_run_85 (by decide) ?_
      refine r_ialoadN hX dX7_run_86 (hpi.1.2.2.2.2 i hi12) (show 0 < 3 by decide) (by decide) ?_
      refine r_aload_n hX dX7_run_87 rfl ?_
      refine r_getR hX dX7_run_88 bi.1 fl_X7_39 bi.2.1.2.2.2.2.2.1 ?_
      refine r_getR hX dX7_run_91 hpi.1.1 fl_X7_345 hpi.2.2.2.1 ?_
      refine r_iload_n hX dX7_run_94 rfl ?_
      refine r_aaload7N hX dX7_run_95 hpi.1.2.2.2.1 hi12 (by decide) (hpi.2.2.2.2 i hi12) ?_
      refine r_iconst (v := 1) hX dX7_run_96 (by decide) ?_
      refine r_ialoadN hX dX7_run_97 (hpi.1.2.2.2.2 i hi12) (show 1 < 3 by decide) (by decide) ?_
      refine r_aload_n hX dX7_run_98 rfl ?_
      refine r_getR hX dX7_run_99 bi.1 fl_X7_39 bi.2.1.2.2.2.2.2.1 ?_
      refine r_getR hX dX7_run_102 hpi.1.1 fl_X7_345 hpi.2.2.2.1 ?_
      refine r_iload_n hX dX7_run_105 rfl ?_
      refine r_aaload7N hX dX7_run_106 hpi.1.2.2.2.1 hi12 (by decide) (hpi.2.2.2.2 i hi12) ?_
      refine r_iconst (v := 2) hX dX7_run_107 (by decide) ?_
      refine r_ialoadN hX dX7_run_108 (hpi.1.2.2.2.2 i hi12) (show 2 < 3 by decide) (by decide) ?_
      refine r_callV hX dX7_run_109 (s_X7_carryOut E g mi x Vi bi.1 bi.2.1.1 hI.1 (u + i) hwi (by omega) (cs i).1 hk7 (qI mi (x + 120 + 4 + i) 0) (qI mi (x + 120 + 4 + i) 1) (qI mi (x + 120 + 4 + i) 2)) ml_X7_349 rfl rfl bi.1 rfl ⟨Nat.le_of_ble_eq_true rfl, Nat.le_of_ble_eq_true rfl⟩ ⟨Nat.le_of_ble_eq_true rfl, Nat.le_of_ble_eq_true rfl, rfl, Nat.le_of_ble_eq_true rfl⟩ (fun v109 g109 m109 hp => ?_)
      rw [hcg] at hp
      obtain ⟨hv, hg, hq2, ho2⟩ := hp
      subst v109
      subst g109
      refine r_if_ne (tgt := 142) hX dX7_run_112 (by decide) (fun c112 => ?_) (fun c112 => ?_)
      · have h0 : (cC Vi (cs i)).1 = 0 := Classical.byContradiction (fun h => c112 (by rw [if_neg h]))
        have hgo : goC cs (k + 1) i Vi = goC cs k (i + 1) (cC Vi (cs i)).2.2 := if_pos h0
        rw [hgo] at K1 K2
        have hwf : WfV (u + (i + 1)) (cC Vi (cs i)).2.2 := cCmd_wf hwi _ _ _ _
        refine r_iinc (v := nI (i + 1)) hX dX7_run_142 rfl (ii1 i) rfl ?_
        refine r_goto (tgt := 55) hX dX7_run_145 (by decide) ?_
        exact ih (i + 1) _ _ (by omega) ⟨hq2, hS2.outP (OutP.of ho2) (by omega), hI3.tr ((OutP.of ho2).mono (by omega))⟩ hwf K1 K2
      · have hne : ¬ (cC Vi (cs i)).1 = 0 := fun h => absurd c112 (by rw [if_pos h]; decide)
        rw [show goC cs (k + 1) i Vi = (some i, Vi) from if_neg hne] at K2
        exact K2 i _ _ rfl (by omega) ⟨hq2, hS2.outP (OutP.of ho2) (by omega), hI3.tr ((OutP.of ho2).mono (by omega))⟩
set_option maxRecDepth 20000 in
set_option maxHeartbeats 4000000 in
theorem s_X7_run (E : qE) (g : qG) (m : qM) (x : Nat) (O : kO) (hO : ObsV g m x O) (u : Nat) (hw : WfO u O) (hu : u ≤ 6144) : SpX E yX7_run cX7_run 3 (some .int) 10 2 12 [.ref x] g m (pO x g m (runO O)) (pX x g m ["java/lang/IllegalArgumentException", "java/lang/UnsupportedOperationException"] (runO O)) := by
  refine SpX.of (by decide) [some (.ref x), none, none] rfl rfl (Nat.le_of_ble_eq_true rfl) (fun X hX => ?_)
  obtain ⟨b0, -, -, -, -, -, b6, -⟩ := id hO
  refine r_aload_n hX dX7_run_0 rfl ?_
  refine r_getR hX dX7_run_1 b0.1 fl_X7_39 b0.2.1.2.2.2.2.2.1 ?_
  refine r_callV hX dX7_run_4 (s_X3_parse E g m (x + 120) (oTn O) b6.1 ⟨b6.2.1, hw.2.2.2.2.1⟩) ml_X7_330 rfl rfl b6.1.1.1 rfl ⟨Nat.le_of_ble_eq_true rfl, Nat.le_of_ble_eq_true rfl⟩ ⟨Nat.le_of_ble_eq_true rfl, Nat.le_of_ble_eq_true rfl, rfl, Nat.le_of_ble_eq_true rfl⟩ (fun v4 g4 m4 hp => ?_)
  have hTX : (fun j => qI m (x + 120 + 1) j) = fun j => nI (oTx O j) := funext b6.2.2
  rw [hTX] at hp
  have hp : v4 = some (.int (if (oCm O).1 = true then 1 else 0)) ∧ g4 = g ∧ PosIs m4 (x + 120) (oTn O) (oCm O).2.1 ∧ PG (x + 120) m m4 ∧ ((oCm O).1 = true → qI m4 (x + 120) 5 = nI (oCm O).2.2.1 ∧ (oCm O).2.2.1 ≤ 12 ∧ CmIs m4 (x + 120) (oCm O).2.2.1 (oCm O).2.2.2) := hp
  obtain ⟨hv, hg, hpos, hG, hcmd⟩ := hp
  subst v4
  subst g4
  obtain ⟨hO13, hF13⟩ := hO.par hG
  obtain ⟨d0, ⟨S, ⟨hs, ad, hr, hV⟩, hR⟩, d2, ⟨Sb, hsb⟩, d4, d5, d6, d7⟩ := id hO13
  have b04 : ObH g m4 x O := b0.out (OutP.ofI (P := fun a => x + 120 ≤ a ∧ a < x + 136) (fun a j ha => hG.1 a j (by omega) (by omega) (by omega)) hG.2) (by omega)
  refine r_istore_n hX dX7_run_7 (Nat.le_of_ble_eq_true rfl) rfl ?_
  refine r_aload_n hX dX7_run_8 rfl ?_
  refine r_getR hX dX7_run_9 b04.1 fl_X7_39 b04.2.1.2.2.2.2.2.1 ?_
  refine r_iconst (v := 0) hX dX7_run_12 (by decide) ?_
  refine r_putI hX dX7_run_13 b6.1.1.1 fl_X7_327 ?_
  skip
  refine r_iload_n hX dX7_run_16 rfl ?_
  refine r_if_ne (tgt := 42) hX dX7_run_17 (by decide) (fun c17 => ?_) (fun c17 => ?_)
  · have hok : (oCm O).1 = true := Classical.byContradiction (fun h => c17 (by rw [if_neg h]))
    obtain ⟨hcn4, hc12, hcm4⟩ := hcmd hok
    refine r_aload_n hX dX7_run_42 rfl ?_
    refine r_getR hX dX7_run_43 d0.1 fl_X7_19 d0.2.1.2.2.1 ?_
    refine r_aload_n hX dX7_run_46 rfl ?_
    refine r_getR hX dX7_run_47 d0.1 fl_X7_10 d0.2.1.1 ?_
    refine r_callV hX dX7_run_50 (s_X5_copyFrom E g (wI m4 (x + 120) 3 0) (x + 21) (x + 1) Sb S hsb ⟨hs, ad, hr, hV⟩ (by omega)) ml_X7_338 rfl rfl hsb.1.1 rfl ⟨Nat.le_of_ble_eq_true rfl, Nat.le_of_ble_eq_true rfl⟩ ⟨Nat.le_of_ble_eq_true rfl, Nat.le_of_ble_eq_true rfl, rfl, Nat.le_of_ble_eq_true rfl⟩ (fun v50 g50 m50 hp => ?_)
    obtain ⟨hv, hg, hS50, ho50⟩ := hp
    subst v50
    subst g50
    have hO50 : ObsV g m50 x (noTx O) := hO13.bef hS50 (OutP.of ho50)
    obtain ⟨e0, -, -, -, ⟨T, hT, hTl⟩, -, e6, -⟩ := id hO50
    have hsk50 : SkyQ g m50 (x + 1) O.1 := hO50.2.1
    have hcn50 : qI m50 (x + 120) 5 = nI (oCm O).2.2.1 := (ho50.1 _ _ (by omega)).1.trans ((qI_wI_k _ _ _ _ (by decide)).trans hcn4)
    have hcm50 : CmIs m50 (x + 120) (oCm O).2.2.1 (oCm O).2.2.2 := fun i hi => by
      obtain ⟨z1, z2, z3⟩ := hcm4 i hi
      exact ⟨(ho50.1 _ _ (by omega)).1.trans ((qI_wI_a _ _ _ _ (by omega)).trans z1), z2, fun j hj => (ho50.1 _ _ (by omega)).1.trans ((qI_wI_a _ _ _ _ (by omega)).trans (z3 j hj))⟩
    refine r_iconst (v := 0) hX dX7_run_53 (by decide) ?_
    refine r_istore_n hX dX7_run_54 (Nat.le_of_ble_eq_true rfl) rfl ?_
    refine s_X7_run_l (g := g) (m := m50) (u := u) hX e0 e6.1 hcn50 hc12 hcm50 hu (oCm O).2.2.1 0 O.1 m50 (by omega) ⟨hsk50, hS50, OutP.rf _ _⟩ hw.1 (fun V2 m2 hgo hI => ?_) (fun i2 V2 m2 hgo hi2 hI => ?_)
    · have f0 : ObH g m2 x (noTx O) := e0.out hI.2.2 (by omega)
      have hT2 : HisIs g m2 (x + 31) T := hT.outP hI.2.2 (by omega)
      refine r_aload_n hX dX7_run_148 rfl ?_
      refine r_getR hX dX7_run_149 f0.1 fl_X7_25 f0.2.1.2.2.2.1 ?_
      refine r_aload_n hX dX7_run_152 rfl ?_
      refine r_getR hX dX7_run_153 f0.1 fl_X7_19 f0.2.1.2.2.1 ?_
      refine r_callV hX dX7_run_156 (s_X1_push E g m2 (x + 31) (x + 21) T S hT2 hI.2.1 (by omega)) ml_X7_81 rfl rfl hT2.1 rfl ⟨Nat.le_of_ble_eq_true rfl, Nat.le_of_ble_eq_true rfl⟩ ⟨Nat.le_of_ble_eq_true rfl, Nat.le_of_ble_eq_true rfl, rfl, Nat.le_of_ble_eq_true rfl⟩ (fun v156 g156 m156 hp => ?_)
      obtain ⟨hv, hg, hP1, hO1⟩ := hp
      subst v156
      subst g156
      have ho : OutP (fun a => (x + 1 ≤ a ∧ a < x + 11) ∨ (x + 31 ≤ a ∧ a < x + 113)) m50 m156 := (hI.2.2.mono (by omega)).tr ((OutP.of hO1).mono (by omega))
      have hfin := hO50.ch (hI.1.out (OutP.of hO1) (by omega)) ⟨_, hP1, hTl.push hR hT.2.2.2.2.2.2.1 hT.2.2.2.2.2.2.2⟩ ho
      have hfr : FrP (fun a => x ≤ a ∧ a < x + 137) g m g m156 := hF13.tr ((FrP.of (OutP.of ho50) (by omega)).tr (FrP.of ho (by omega)))
      have f01 : ObH g m156 x (noTx O) := f0.out (OutP.of hO1) (by omega)
      have hcn1 : qI m156 (x + 120) 5 = nI (oCm O).2.2.1 := (ho.1 _ _ (by omega)).1.trans hcn50
      have eR : runO O = (0, nI (oCm O).2.2.1, V2, O.2.1, (O.1 :: O.2.2.1).take 8, (noTx O).2.2.2) := by unfold runO; rw [if_pos hok, hgo]
      have hbf : gAt g (x + 120) (.inl 6) := e6.1.1.1
      refine r_aload_n hX dX7_run_159 rfl ?_
      refine r_getR hX dX7_run_160 f01.1 fl_X7_39 f01.2.1.2.2.2.2.2.1 ?_
      refine r_getI hX dX7_run_163 hbf fl_X7_341 ?_
      rw [hcn1]
      exact r_x (r_iret hX dX7_run_166 (by rw [eR]; exact ⟨rfl, rfl, hfin, hfr⟩) ⟨Nat.le_of_ble_eq_true rfl, Nat.le_of_ble_eq_true rfl⟩)
    · have f0 : ObH g m2 x (noTx O) := e0.out hI.2.2 (by omega)
      have hT2 : HisIs g m2 (x + 31) T := hT.outP hI.2.2 (by omega)
      obtain ⟨S3, hS3, -⟩ := hI.1
      refine r_aload_n hX dX7_run_115 rfl ?_
      refine r_getR hX dX7_run_116 f0.1 fl_X7_10 f0.2.1.1 ?_
      refine r_aload_n hX dX7_run_119 rfl ?_
      refine r_getR hX dX7_run_120 f0.1 fl_X7_19 f0.2.1.2.2.1 ?_
      refine r_callV hX dX7_run_123 (s_X5_copyFrom E g m2 (x + 1) (x + 21) S3 S hS3 hI.2.1 (by omega)) ml_X7_338 rfl rfl hS3.1.1 rfl ⟨Nat.le_of_ble_eq_true rfl, Nat.le_of_ble_eq_true rfl⟩ ⟨Nat.le_of_ble_eq_true rfl, Nat.le_of_ble_eq_true rfl, rfl, Nat.le_of_ble_eq_true rfl⟩ (fun v123 g123 m123 hp => ?_)
      obtain ⟨hv, hg, hS4, ho4⟩ := hp
      subst v123
      subst g123
      have ho : OutP (fun a => (x + 1 ≤ a ∧ a < x + 11) ∨ (x + 31 ≤ a ∧ a < x + 113)) m50 m123 := (hI.2.2.mono (by omega)).tr ((OutP.of ho4).mono (by omega))
      have hfin : ObsV g m123 x (noTx O) := hO50.ch (V := O.1) (l := O.2.2.1) ⟨S, hS4, hR⟩ ⟨T, hT2.outP (OutP.of ho4) (by omega), hTl⟩ ho
      have hfr : FrP (fun a => x ≤ a ∧ a < x + 137) g m g m123 := hF13.tr ((FrP.of (OutP.of ho50) (by omega)).tr (FrP.of ho (by omega)))
      have f01 : ObH g m123 x (noTx O) := f0.out (OutP.of ho4) (by omega)
      have eR : runO O = (2, 0, setFa (noTx O) i2) := by
        unfold runO
        rw [if_pos hok]
        generalize goC (oCm O).2.2.2 (oCm O).2.2.1 0 O.1 = r at hgo
        obtain ⟨r1, r2⟩ := r
        cases hgo
        rfl
      refine r_aload_n hX dX7_run_126 rfl ?_
      refine r_iload_n hX dX7_run_127 rfl ?_
      refine r_putI hX dX7_run_128 f01.1 fl_X7_58 ?_
      exact r_throwSW hX dX7_run_131 dX7_run_134 dX7_run_135 dX7_run_138 dX7_run_141 th_UnsupportedOperation_353 ⟨Nat.le_of_ble_eq_true rfl, rfl, Nat.le_of_ble_eq_true rfl⟩ ⟨Nat.le_of_ble_eq_true rfl, Nat.le_of_ble_eq_true rfl⟩ (fun n hn => by rw [eR]; exact ⟨⟨1, rfl, rfl⟩, hfin.fa _, (hfr.tr ((FrP.rf _ _ _).wI (Or.inl (by omega)))).up hn⟩)
  · refine r_aload_n hX dX7_run_20 rfl ?_
    refine r_aload_n hX dX7_run_21 rfl ?_
    refine r_getR hX dX7_run_22 d0.1 fl_X7_39 d0.2.1.2.2.2.2.2.1 ?_
    refine r_getI hX dX7_run_25 d6.1.1.1 fl_X7_333 ?_
    rw [show qI (wI m4 (x + 120) 3 0) (x + 120) 4 = nI (oCm O).2.1 from (qI_wI_k _ _ _ _ (by decide)).trans hpos.2.2.1]
    refine r_putI hX dX7_run_28 d0.1 fl_X7_54 ?_
    have eR : runO O = (1, 0, setEr (noTx O) (oCm O).2.1) := if_neg (fun h => absurd c17 (by rw [if_pos h]; decide))
    exact r_throwSW hX dX7_run_31 dX7_run_34 dX7_run_35 dX7_run_38 dX7_run_41 th_IllegalArgument_336 ⟨Nat.le_of_ble_eq_true rfl, rfl, Nat.le_of_ble_eq_true rfl⟩ ⟨Nat.le_of_ble_eq_true rfl, Nat.le_of_ble_eq_true rfl⟩ (fun n hn => by rw [eR]; exact ⟨⟨0, rfl, rfl⟩, hO13.er _, (hF13.tr ((FrP.rf _ _ _).wI (Or.inl (by omega)))).up hn⟩)
