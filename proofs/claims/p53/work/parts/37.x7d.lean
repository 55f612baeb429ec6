/-! ===== CometObservatory: changes ===== -/
theorem sky2 {g : qG} {m m' : qM} {q : Nat} {ad : Nat → Nat} {S : kS} {P : Nat → Prop} (hr : SkyR m q ad) (hV : SkyV m q ad S) (ho : OutP P m m') (hd : ∀ a, q ≤ a → a < q + 10 → ¬ P a) : SkyR m' q ad ∧ SkyV m' q ad S := by
  obtain ⟨r1, r2, r3, r4, r5, r6⟩ := hr
  obtain ⟨h1, h2, h3, h4, h5⟩ := hV
  have e : ∀ a j, q ≤ a → a < q + 10 → qI m' a j = qI m a j ∧ qR m' a j = qR m a j := fun a j a1 a2 => ho.1 a j (hd a a1 a2)
  refine ⟨⟨?_, ?_, ?_, fun i hi => ?_, r5, r6⟩, fun k hk => ?_, fun i k hi hk => ?_, fun j hj => ?_, ?_, ?_⟩
  · rw [(e q 0 (by omega) (by omega)).2]; exact r1
  · rw [(e q 1 (by omega) (by omega)).2]; exact r2
  · rw [(e (q + 8) 0 (by omega) (by omega)).2]; exact r3
  · rw [(e (q + 1) i (by omega) (by omega)).2]; exact r4 i hi
  · rw [(e q (k + 2) (by omega) (by omega)).1]; exact h1 k hk
  · have := r5 i hi
    rw [(e (ad i) k (by omega) (by omega)).1]; exact h2 i k hi hk
  · rw [(e (q + 9) j (by omega) (by omega)).1]; exact h3 j hj
  · rw [(e (q + 8) 1 (by omega) (by omega)).1]; exact h4
  · rw [(e (q + 8) 2 (by omega) (by omega)).1]; exact h5
theorem ObsV.chg {g : qG} {m m1 m' : qM} {x : Nat} {O : kO} (h : ObsV g m x O) {T : kH} {S S' : kS} {V' : kV} (hT : HisIs g m (x + 31) T) (hTl : RepH T (oHi O)) (hS : RepS S O.1) (h1 : HisIs g m1 (x + 31) (pushH T S)) (o1 : Outs (x + 31) 82 m m1) (h2 : SkyIs g m' (x + 1) S') (o2 : Outs (x + 1) 10 m1 m') (hR' : RepS S' V') : ObsV g m' x (V', O.2.1, (O.1 :: O.2.2.1).take 8, O.2.2.2) ∧ FrP (fun a => x ≤ a ∧ a < x + 137) g m g m' := by
  have ho : OutP (fun a => (x + 1 ≤ a ∧ a < x + 11) ∨ (x + 31 ≤ a ∧ a < x + 113)) m m' := ((OutP.of o1).mono (by omega)).tr ((OutP.of o2).mono (by omega))
  refine ⟨h.ch ⟨S', h2, hR'⟩ ⟨_, h1.outP (OutP.of o2) (by omega), hTl.push hS hT.2.2.2.2.2.2.1 hT.2.2.2.2.2.2.2⟩ ho, FrP.of ho (by omega)⟩
/-- one field of a comet, one number of the sky, written -/
def setS (S : kS) (i k : Nat) (v : Int32) : kS := (S.1, fun j l => if j = i ∧ l = k then v else S.2.1 j l, S.2.2)
def hdS (S : kS) (k : Nat) (v : Int32) : kS := (fun j => if j = k then v else S.1 j, S.2)
theorem sky_wC {g : qG} {m : qM} {q i k : Nat} {ad : Nat → Nat} {S : kS} {v : Int32} (hs : SkySh g q) (hr : SkyR m q ad) (hV : SkyV m q ad S) (hi : i < 6) : SkyIs g (wI m (ad i) k v) q (setS S i k v) ∧ SkyR (wI m (ad i) k v) q ad ∧ SkyV (wI m (ad i) k v) q ad (setS S i k v) ∧ Outs q 10 m (wI m (ad i) k v) := by
  obtain ⟨r1, r2, r3, r4, r5, r6⟩ := hr
  have hai := r5 i hi
  have hr' : SkyR (wI m (ad i) k v) q ad := ⟨r1, r2, r3, r4, r5, r6⟩
  obtain ⟨h1, h2, h3, h4, h5⟩ := hV
  have hV' : SkyV (wI m (ad i) k v) q ad (setS S i k v) := by
    refine ⟨fun l hl => ?_, fun j l hj hl => ?_, fun j hj => ?_, ?_, ?_⟩
    · rw [qI_wI_a _ _ _ _ (by omega)]; exact h1 l hl
    · rw [qI_wI]
      show _ = if j = i ∧ l = k then v else S.2.1 j l
      by_cases e : j = i ∧ l = k
      · obtain ⟨rfl, rfl⟩ := e
        rw [if_pos ⟨rfl, rfl⟩, if_pos ⟨rfl, rfl⟩]
      · rw [if_neg e, if_neg (fun q => e ⟨r6 j i hj hi q.1, q.2⟩)]; exact h2 j l hj hl
    · rw [qI_wI_a _ _ _ _ (by omega)]; exact h3 j hj
    · rw [qI_wI_a _ _ _ _ (by omega)]; exact h4
    · rw [qI_wI_a _ _ _ _ (by omega)]; exact h5
  exact ⟨⟨hs, ad, hr', hV'⟩, hr', hV', (Outs.rf q 10 m).wI (by omega)⟩
theorem sky_wH {g : qG} {m : qM} {q k : Nat} {ad : Nat → Nat} {S : kS} {v : Int32} (hs : SkySh g q) (hr : SkyR m q ad) (hV : SkyV m q ad S) : SkyIs g (wI m q (k + 2) v) q (hdS S k v) ∧ SkyR (wI m q (k + 2) v) q ad ∧ SkyV (wI m q (k + 2) v) q ad (hdS S k v) ∧ Outs q 10 m (wI m q (k + 2) v) := by
  obtain ⟨r1, r2, r3, r4, r5, r6⟩ := hr
  have hr' : SkyR (wI m q (k + 2) v) q ad := ⟨r1, r2, r3, r4, r5, r6⟩
  obtain ⟨h1, h2, h3, h4, h5⟩ := hV
  have hV' : SkyV (wI m q (k + 2) v) q ad (hdS S k v) := by
    refine ⟨fun l hl => ?_, fun j l hj hl => ?_, fun j hj => ?_, ?_, ?_⟩
    · rw [qI_wI]
      show _ = if l = k then v else S.1 l
      by_cases e : l = k
      · subst e; rw [if_pos ⟨rfl, rfl⟩, if_pos rfl]
      · rw [if_neg e, if_neg (by omega)]; exact h1 l hl
    · have := r5 j hj
      rw [qI_wI_a _ _ _ _ (by omega)]; exact h2 j l hj hl
    · rw [qI_wI_a _ _ _ _ (by omega)]; exact h3 j hj
    · rw [qI_wI_a _ _ _ _ (by omega)]; exact h4
    · rw [qI_wI_a _ _ _ _ (by omega)]; exact h5
  exact ⟨⟨hs, ad, hr', hV'⟩, hr', hV', (Outs.rf q 10 m).wI (by omega)⟩
theorem RepS.set {S : kS} {V : kV} (h : RepS S V) {i k v : Nat} (hi : i < V.1.length) : RepS (setS S i k (nI v)) (V.1.set i (updH (cAt V.1 i) k v), V.2) := by
  obtain ⟨h0, h1, h2, h3, h4⟩ := h
  refine ⟨by show S.1 0 = nI (V.1.set i _).length; rw [List.length_set]; exact h0, h1, fun j l hj hl => ?_, h3, h4⟩
  have hj : j < (V.1.set i (updH (cAt V.1 i) k v)).length := hj
  rw [List.length_set] at hj
  show (if j = i ∧ l = k then nI v else S.2.1 j l) = nI (cAt (V.1.set i (updH (cAt V.1 i) k v)) j l)
  rw [cAt_set hi]
  by_cases e : j = i
  · rw [if_pos e]
    unfold updH
    by_cases e2 : l = k
    · rw [if_pos ⟨e, e2⟩, if_pos e2]
    · rw [if_neg (fun q => e2 q.2), if_neg e2, ← e]; exact h2 j l hj hl
  · rw [if_neg (fun q => e q.1), if_neg e]; exact h2 j l hj hl
theorem RepS.hdE {S : kS} {V : kV} (h : RepS S V) {j v : Nat} (hj : 1 ≤ j ∧ j < 7) : RepS (hdS S j (nI v)) (V.1, updH V.2.1 j v, V.2.2) := h.hd hj
theorem daysV_5 : ∀ (n : Nat) (V : kV), V.2.1 5 ≤ (daysV n V).2.1 5
  | 0, V => Nat.le_refl _
  | n + 1, V => by
    have h1 := daysV_5 n (dayV V)
    have h2 : (dayV V).2.1 5 = V.2.1 5 + pcnt (V.2.1 2 + 1) V.1 := rfl
    show _ ≤ (daysV n (dayV V)).2.1 5
    omega
def addO (O : kO) (p d b : Int32) : kR := chg O (cAdd O.1 p d b) 0 1 2 0
def dropO (O : kO) (c : Int32) : kR := chg O (cDrop O.1 c) 1 0 0 0
def turnO (O : kO) (c p : Int32) : kR := chg O (cTurn O.1 c p) 1 2 0 0
def shineO (O : kO) (c a : Int32) : kR := chg O (cShine O.1 c a) 1 2 3 4
def dayO (O : kO) (d : Int32) : kR := chg O (cDay O.1 d) 0 1 0 0
def vacO (O : kO) (a n : Int32) : kR := chg O (cVac O.1 a n) 1 2 3 0
def rateO (O : kO) (r : Int32) : kR := chg O (cRate O.1 r) 0 1 0 0
theorem cDrop_s {V : kV} {c : Int32} {i : Nat} (h : plV V.1 c = some i) : cDrop V c = (0, nI (V.2.1 3 + cAt V.1 i 2), dropV V i) := by unfold cDrop; rw [h]
theorem cDrop_n {V : kV} {c : Int32} (h : plV V.1 c = none) : cDrop V c = (1, 0, V) := by unfold cDrop; rw [h]
theorem cTurn_n {V : kV} {c p : Int32} (h : plV V.1 c = none) : cTurn V c p = (1, 0, V) := by unfold cTurn; rw [h]
theorem cTurn_s {V : kV} {c p : Int32} {i : Nat} (h : plV V.1 c = some i) : cTurn V c p = if ¬ rng p 2 60 then (2, 0, V) else (0, nI (cAt V.1 i 1), turnV V i p.toNatClampNeg) := by unfold cTurn; rw [h]
theorem cShine_n {V : kV} {c p : Int32} (h : plV V.1 c = none) : cShine V c p = (1, 0, V) := by unfold cShine; rw [h]
theorem cShine_s {V : kV} {c a : Int32} {i : Nat} (h : plV V.1 c = some i) : cShine V c a = if ¬ rng a 1 19 then (2, 0, V) else if 20 < cAt V.1 i 2 + a.toNatClampNeg then (3, 0, V) else if V.2.1 3 < 3 * a.toNatClampNeg then (4, 0, V) else (0, nI (cAt V.1 i 2 + a.toNatClampNeg), shineV V i a.toNatClampNeg) := by unfold cShine; rw [h]
theorem dropO_n {O : kO} {c : Int32} (h : plV O.1.1 c = none) : dropO O c = (1, 0, O) := by unfold dropO; rw [cDrop_n h]; rfl
theorem turnO_n {O : kO} {c p : Int32} (h : plV O.1.1 c = none) : turnO O c p = (1, 0, O) := by unfold turnO; rw [cTurn_n h]; rfl
theorem shineO_n {O : kO} {c p : Int32} (h : plV O.1.1 c = none) : shineO O c p = (1, 0, O) := by unfold shineO; rw [cShine_n h]; rfl
theorem chg_ok {O : kO} {r : kA} {v : Int32} {V : kV} {a b c d : Nat} (e : r = (0, v, V)) : chg O r a b c d = (0, v, V, O.2.1, (O.1 :: O.2.2.1).take 8, O.2.2.2) := by subst e; rfl
set_option maxRecDepth 20000 in
set_option maxHeartbeats 4000000 in
theorem s_X7_addComet (E : qE) (g : qG) (m : qM) (x : Nat) (O : kO) (hO : ObsV g m x O) (u : Nat) (hw : WfO u O) (hu : u ≤ 6144) (p d b : Int32) : SpX E yX7_addComet cX7_addComet 4 (some .int) 8 1 6 [.ref x, .int p, .int d, .int b] g m (pO x g m (addO O p d b)) (pX x g m ["java/lang/IllegalArgumentException", "java/lang/IllegalStateException"] (addO O p d b)) := by
  refine SpX.of (by decide) [some (.ref x), some (.int p), some (.int d), some (.int b)] rfl rfl (Nat.le_of_ble_eq_true rfl) (fun X hX => ?_)
  obtain ⟨b0, ⟨S, ⟨hs, ad, hr, hV⟩, hR⟩, b2, b3, ⟨T, hT, hTl⟩, b5, b6, b7⟩ := id hO
  have hN : qI m (x + 1) 2 = nI O.1.1.length := (hV.1 0 (by decide)).trans hR.1
  refine r_iload_n hX dX7_addComet_0 rfl ?_
  refine r_iload_n hX dX7_addComet_1 rfl ?_
  refine r_iload_n hX dX7_addComet_2 rfl ?_
  refine r_callS hX dX7_addComet_3 (s_X7_isNewComet E g m p d b) ml_X7_61 rfl rfl ⟨Nat.le_of_ble_eq_true rfl, Nat.le_of_ble_eq_true rfl⟩ ⟨Nat.le_of_ble_eq_true rfl, Nat.le_of_ble_eq_true rfl, rfl, Nat.le_of_ble_eq_true rfl⟩ (fun v3 g3 m3 hp => ?_)
  obtain ⟨hv, hg, hm⟩ := hp
  subst v3
  subst g3
  subst m3
  refine r_if_ne (tgt := 19) hX dX7_addComet_6 (by decide) (fun c6 => ?_) (fun c6 => ?_)
  · have hnc : (rng p 2 60 ∧ rng d 1 60 ∧ rng b 1 20) := Classical.byContradiction (fun h => c6 (by rw [if_neg h]))
    have hl := hw.len
    refine r_aload_n hX dX7_addComet_19 rfl ?_
    refine r_getR hX dX7_addComet_20 b0.1 fl_X7_10 b0.2.1.1 ?_
    refine r_callV hX dX7_addComet_23 (s_X5_hasRoom E g m (x + 1) hs) ml_X7_72 rfl rfl hs.1 rfl ⟨Nat.le_of_ble_eq_true rfl, Nat.le_of_ble_eq_true rfl⟩ ⟨Nat.le_of_ble_eq_true rfl, Nat.le_of_ble_eq_true rfl, rfl, Nat.le_of_ble_eq_true rfl⟩ (fun v23 g23 m23 hp => ?_)
    obtain ⟨hv, hg, hm⟩ := hp
    subst v23
    subst g23
    subst m23
    rw [hN]
    refine r_if_ne (tgt := 39) hX dX7_addComet_26 (by decide) (fun c26 => ?_) (fun c26 => ?_)
    · have h6 : O.1.1.length < 6 := Nat.lt_of_not_le (fun h => c26 (by rw [if_pos (show (6 : Int32) ≤ nI O.1.1.length from nI_le (a := 6) (by omega) (by omega))]))
      obtain ⟨p9, -, -, rfl, hp9⟩ := rng_to hnc.1 (by decide) (by decide)
      obtain ⟨d9, -, -, rfl, hd9⟩ := rng_to hnc.2.1 (by decide) (by decide)
      obtain ⟨b9, -, -, rfl, hb9⟩ := rng_to hnc.2.2 (by decide) (by decide)
      have eR : addO O (nI p9) (nI d9) (nI b9) = (0, S.1 1, addV O.1 p9 d9 b9, O.2.1, (O.1 :: O.2.2.1).take 8, O.2.2.2) := by
        refine chg_ok ?_
        unfold cAdd
        rw [if_neg (not_not_intro hnc), if_neg (by omega), hp9, hd9, hb9, hR.2.1 1 (by decide) (by decide)]
      refine r_aload_n hX dX7_addComet_39 rfl ?_
      refine r_getR hX dX7_addComet_40 b0.1 fl_X7_25 b0.2.1.2.2.2.1 ?_
      refine r_aload_n hX dX7_addComet_43 rfl ?_
      refine r_getR hX dX7_addComet_44 b0.1 fl_X7_10 b0.2.1.1 ?_
      refine r_callV hX dX7_addComet_47 (s_X1_push E g m (x + 31) (x + 1) T S hT ⟨hs, ad, hr, hV⟩ (by omega)) ml_X7_81 rfl rfl hT.1 rfl ⟨Nat.le_of_ble_eq_true rfl, Nat.le_of_ble_eq_true rfl⟩ ⟨Nat.le_of_ble_eq_true rfl, Nat.le_of_ble_eq_true rfl, rfl, Nat.le_of_ble_eq_true rfl⟩ (fun v47 g47 m47 hp => ?_)
      obtain ⟨hv, hg, hP1, hO1⟩ := hp
      subst v47
      subst g47
      obtain ⟨hr1, hV1⟩ := sky2 (g := g) hr hV (OutP.of hO1) (by omega)
      have b01 : ObH g m47 x O := b0.out (OutP.of hO1) (by omega)
      refine r_aload_n hX dX7_addComet_50 rfl ?_
      refine r_getR hX dX7_addComet_51 b01.1 fl_X7_10 b01.2.1.1 ?_
      refine r_iload_n hX dX7_addComet_54 rfl ?_
      refine r_iload_n hX dX7_addComet_55 rfl ?_
      refine r_iload_n hX dX7_addComet_56 rfl ?_
      refine r_callV hX dX7_addComet_57 (s_X5_add E g m47 (x + 1) (nI p9) (nI d9) (nI b9) S ⟨hs, ad, hr1, hV1⟩ O.1.1.length hR.1 h6) ml_X7_85 rfl rfl hs.1 rfl ⟨Nat.le_of_ble_eq_true rfl, Nat.le_of_ble_eq_true rfl⟩ ⟨Nat.le_of_ble_eq_true rfl, Nat.le_of_ble_eq_true rfl, rfl, Nat.le_of_ble_eq_true rfl⟩ (fun v57 g57 m57 hp => ?_)
      obtain ⟨hv, hg, hS2, hO2⟩ := hp
      subst v57
      subst g57
      exact r_x (r_iret hX dX7_addComet_60 (by rw [eR]; exact ⟨rfl, rfl, hO.chg hT hTl hR hP1 hO1 hS2 hO2 (hR.add rfl)⟩) ⟨Nat.le_of_ble_eq_true rfl, Nat.le_of_ble_eq_true rfl⟩)
    · have h6 : O.1.1.length = 6 := Classical.byContradiction (fun h => absurd c26 (by rw [if_neg (show ¬ (6 : Int32) ≤ nI O.1.1.length from nI_ge (b := 6) (by omega) (by decide))]; decide))
      have eR : addO O p d b = (2, 0, O) := by
        have e : cAdd O.1 p d b = (3, 0, O.1) := by unfold cAdd; rw [if_neg (not_not_intro hnc), if_pos h6]
        unfold addO; rw [e]; rfl
      exact r_throwS hX dX7_addComet_29 dX7_addComet_32 dX7_addComet_33 dX7_addComet_35 dX7_addComet_38 th_IllegalState_78 ⟨Nat.le_of_ble_eq_true rfl, rfl, Nat.le_of_ble_eq_true rfl⟩ ⟨Nat.le_of_ble_eq_true rfl, Nat.le_of_ble_eq_true rfl⟩ (fun n hn => by rw [eR]; exact hO.thr hn rfl)
  · have eR : addO O p d b = (1, 0, O) := by
      have e : cAdd O.1 p d b = (2, 0, O.1) := if_pos (fun h => absurd c6 (by rw [if_pos h]; decide))
      unfold addO; rw [e]; rfl
    exact r_throwS hX dX7_addComet_9 dX7_addComet_12 dX7_addComet_13 dX7_addComet_15 dX7_addComet_18 th_IllegalArgument_67 ⟨Nat.le_of_ble_eq_true rfl, rfl, Nat.le_of_ble_eq_true rfl⟩ ⟨Nat.le_of_ble_eq_true rfl, Nat.le_of_ble_eq_true rfl⟩ (fun n hn => by rw [eR]; exact hO.thr hn rfl)
set_option maxRecDepth 20000 in
set_option maxHeartbeats 4000000 in
theorem s_X7_remove (E : qE) (g : qG) (m : qM) (x : Nat) (O : kO) (hO : ObsV g m x O) (u : Nat) (hw : WfO u O) (hu : u ≤ 6144) (c : Int32) : SpX E yX7_remove cX7_remove 3 (some .int) 9 1 6 [.ref x, .int c] g m (pO x g m (dropO O c)) (pX x g m ["java/util/NoSuchElementException"] (dropO O c)) := by
  refine SpX.of (by decide) [some (.ref x), some (.int c), none] rfl rfl (Nat.le_of_ble_eq_true rfl) (fun X hX => ?_)
  obtain ⟨b0, ⟨S, ⟨hs, ad, hr, hV⟩, hR⟩, b2, b3, ⟨T, hT, hTl⟩, b5, b6, b7⟩ := id hO
  refine r_aload_n hX dX7_remove_0 rfl ?_
  refine r_iload_n hX dX7_remove_1 rfl ?_
  refine r_callVX hX dX7_remove_2 (s_X7_existing E g m x c O S ad b0 hs hr hV hR hw.len) ml_X7_89 mk_X7_89 rfl rfl b0.1 rfl ⟨Nat.le_of_ble_eq_true rfl, Nat.le_of_ble_eq_true rfl⟩ ⟨Nat.le_of_ble_eq_true rfl, Nat.le_of_ble_eq_true rfl, rfl, Nat.le_of_ble_eq_true rfl⟩ (fun v2 g2 m2 hp => ?_) (fun nm gx mx hp => ?_)
  rotate_left
  · obtain ⟨hnone, rfl, ⟨n9, hn9, rfl⟩, rfl⟩ := hp
    exact r_out hX ⟨⟨0, congrArg Prod.fst (dropO_n hnone), rfl⟩, by rw [dropO_n hnone]; exact hO, (FrP.rf _ _ _).up hn9⟩ ⟨Nat.le_of_ble_eq_true rfl, Nat.le_of_ble_eq_true rfl⟩
  obtain ⟨i, hi, hv, hg, hm⟩ := hp
  subst v2
  subst g2
  subst m2
  have hil := (plV_lt hi).1
  have hi6 := hw.len
  refine r_astore_n hX dX7_remove_5 (Nat.le_of_ble_eq_true rfl) rfl ?_
  refine r_aload_n hX dX7_remove_6 rfl ?_
  refine r_getR hX dX7_remove_7 b0.1 fl_X7_25 b0.2.1.2.2.2.1 ?_
  refine r_aload_n hX dX7_remove_10 rfl ?_
  refine r_getR hX dX7_remove_11 b0.1 fl_X7_10 b0.2.1.1 ?_
  refine r_callV hX dX7_remove_14 (s_X1_push E g m (x + 31) (x + 1) T S hT ⟨hs, ad, hr, hV⟩ (by omega)) ml_X7_81 rfl rfl hT.1 rfl ⟨Nat.le_of_ble_eq_true rfl, Nat.le_of_ble_eq_true rfl⟩ ⟨Nat.le_of_ble_eq_true rfl, Nat.le_of_ble_eq_true rfl, rfl, Nat.le_of_ble_eq_true rfl⟩ (fun v14 g14 m14 hp => ?_)
  obtain ⟨hv, hg, hP1, hO1⟩ := hp
  subst v14
  subst g14
  obtain ⟨hr1, hV1⟩ := sky2 (g := g) hr hV (OutP.of hO1) (by omega)
  have b01 : ObH g m14 x O := b0.out (OutP.of hO1) (by omega)
  refine r_aload_n hX dX7_remove_17 rfl ?_
  refine r_getR hX dX7_remove_18 b01.1 fl_X7_10 b01.2.1.1 ?_
  refine r_aload_n hX dX7_remove_21 rfl ?_
  refine r_getI hX dX7_remove_22 (adAt hs hr1 (by omega)) fl_X7_93 ?_
  rw [show qI m14 (ad i) 0 = c from (hV1.2.1 i 0 (by omega) (by decide)).trans ((hR.2.2.1 i 0 hil (by decide)).trans (plV_lt hi).2)]
  refine r_callV hX dX7_remove_25 (s_X5_sell1 E g m14 (x + 1) c S ⟨hs, ad, hr1, hV1⟩ O.1.1.length ⟨hR.1, hw.len⟩ i ((hR.plc c rfl).trans hi)) ml_X7_98 rfl rfl hs.1 rfl ⟨Nat.le_of_ble_eq_true rfl, Nat.le_of_ble_eq_true rfl⟩ ⟨Nat.le_of_ble_eq_true rfl, Nat.le_of_ble_eq_true rfl, rfl, Nat.le_of_ble_eq_true rfl⟩ (fun v25 g25 m25 hp => ?_)
  obtain ⟨hv, hg, hS2, hO2⟩ := hp
  subst v25
  subst g25
  have hS3 := hS2
  obtain ⟨hs3, ad3, hr3, hV3⟩ := hS3
  have b02 : ObH g m25 x O := b01.out (OutP.of hO2) (by omega)
  have eR : dropO O c = (0, nI (O.1.2.1 3 + cAt O.1.1 i 2), dropV O.1 i, O.2.1, (O.1 :: O.2.2.1).take 8, O.2.2.2) := chg_ok (cDrop_s hi)
  have hRs := hR.sell rfl hil
  refine r_pop hX dX7_remove_28 rfl ?_
  refine r_aload_n hX dX7_remove_29 rfl ?_
  refine r_getR hX dX7_remove_30 b02.1 fl_X7_10 b02.2.1.1 ?_
  refine r_getI hX dX7_remove_33 hs.1 fl_X7_102 ?_
  rw [show qI m25 (x + 1) 5 = nI (O.1.2.1 3 + cAt O.1.1 i 2) from (hV3.1 3 (by decide)).trans (hRs.2.1 3 (by decide) (by decide))]
  exact r_x (r_iret hX dX7_remove_36 (by rw [eR]; exact ⟨rfl, rfl, hO.chg hT hTl hR hP1 hO1 hS2 hO2 hRs⟩) ⟨Nat.le_of_ble_eq_true rfl, Nat.le_of_ble_eq_true rfl⟩)
set_option maxRecDepth 20000 in
set_option maxHeartbeats 4000000 in
theorem s_X7_setPeriod (E : qE) (g : qG) (m : qM) (x : Nat) (O : kO) (hO : ObsV g m x O) (u : Nat) (hw : WfO u O) (hu : u ≤ 6144) (c p : Int32) : SpX E yX7_setPeriod cX7_setPeriod 5 (some .int) 9 2 12 [.ref x, .int c, .int p] g m (pO x g m (turnO O c p)) (pX x g m ["java/util/NoSuchElementException", "java/lang/IllegalArgumentException"] (turnO O c p)) := by
  refine SpX.of (by decide) [some (.ref x), some (.int c), some (.int p), none, none] rfl rfl (Nat.le_of_ble_eq_true rfl) (fun X hX => ?_)
  obtain ⟨b0, ⟨S, ⟨hs, ad, hr, hV⟩, hR⟩, b2, b3, ⟨T, hT, hTl⟩, b5, b6, b7⟩ := id hO
  refine r_aload_n hX dX7_setPeriod_0 rfl ?_
  refine r_iload_n hX dX7_setPeriod_1 rfl ?_
  refine r_callVX hX dX7_setPeriod_2 (s_X7_existing E g m x c O S ad b0 hs hr hV hR hw.len) ml_X7_89 mk_X7_89 rfl rfl b0.1 rfl ⟨Nat.le_of_ble_eq_true rfl, Nat.le_of_ble_eq_true rfl⟩ ⟨Nat.le_of_ble_eq_true rfl, Nat.le_of_ble_eq_true rfl, rfl, Nat.le_of_ble_eq_true rfl⟩ (fun v2 g2 m2 hp => ?_) (fun nm gx mx hp => ?_)
  rotate_left
  · obtain ⟨hnone, rfl, ⟨n9, hn9, rfl⟩, rfl⟩ := hp
    exact r_out hX ⟨⟨0, congrArg Prod.fst (turnO_n hnone), rfl⟩, by rw [turnO_n hnone]; exact hO, (FrP.rf _ _ _).up hn9⟩ ⟨Nat.le_of_ble_eq_true rfl, Nat.le_of_ble_eq_true rfl⟩
  obtain ⟨i, hi, hv, hg, hm⟩ := hp
  subst v2
  subst g2
  subst m2
  have hil := (plV_lt hi).1
  have hi6 := hw.len
  refine r_astore_n hX dX7_setPeriod_5 (Nat.le_of_ble_eq_true rfl) rfl ?_
  refine r_iload_n hX dX7_setPeriod_6 rfl ?_
  refine r_callS hX dX7_setPeriod_7 (s_X7_isPeriod E g m p) ml_X7_105 rfl rfl ⟨Nat.le_of_ble_eq_true rfl, Nat.le_of_ble_eq_true rfl⟩ ⟨Nat.le_of_ble_eq_true rfl, Nat.le_of_ble_eq_true rfl, rfl, Nat.le_of_ble_eq_true rfl⟩ (fun v7 g7 m7 hp => ?_)
  obtain ⟨hv, hg, hm⟩ := hp
  subst v7
  subst g7
  subst m7
  refine r_if_ne (tgt := 23) hX dX7_setPeriod_10 (by decide) (fun c10 => ?_) (fun c10 => ?_)
  · have hrg : rng p 2 60 := Classical.byContradiction (fun h => c10 (by rw [if_neg h]))
    obtain ⟨p9, -, -, rfl, hp9⟩ := rng_to hrg (by decide) (by decide)
    have eR : turnO O c (nI p9) = (0, nI (cAt O.1.1 i 1), turnV O.1 i p9, O.2.1, (O.1 :: O.2.2.1).take 8, O.2.2.2) := chg_ok (by rw [cTurn_s hi, if_neg (not_not_intro hrg), hp9])
    refine r_aload_n hX dX7_setPeriod_23 rfl ?_
    refine r_getR hX dX7_setPeriod_24 b0.1 fl_X7_25 b0.2.1.2.2.2.1 ?_
    refine r_aload_n hX dX7_setPeriod_27 rfl ?_
    refine r_getR hX dX7_setPeriod_28 b0.1 fl_X7_10 b0.2.1.1 ?_
    refine r_callV hX dX7_setPeriod_31 (s_X1_push E g m (x + 31) (x + 1) T S hT ⟨hs, ad, hr, hV⟩ (by omega)) ml_X7_81 rfl rfl hT.1 rfl ⟨Nat.le_of_ble_eq_true rfl, Nat.le_of_ble_eq_true rfl⟩ ⟨Nat.le_of_ble_eq_true rfl, Nat.le_of_ble_eq_true rfl, rfl, Nat.le_of_ble_eq_true rfl⟩ (fun v31 g31 m31 hp => ?_)
    obtain ⟨hv, hg, hP1, hO1⟩ := hp
    subst v31
    subst g31
    obtain ⟨hr1, hV1⟩ := sky2 (g := g) hr hV (OutP.of hO1) (by omega)
    have b01 : ObH g m31 x O := b0.out (OutP.of hO1) (by omega)
    refine r_aload_n hX dX7_setPeriod_34 rfl ?_
    refine r_getI hX dX7_setPeriod_35 (adAt hs hr1 (by omega)) fl_X7_110 ?_
    rw [show qI m31 (ad i) 1 = nI (cAt O.1.1 i 1) from (hV1.2.1 i 1 (by omega) (by decide)).trans (hR.2.2.1 i 1 hil (by decide))]
    refine r_istore hX dX7_setPeriod_38 (Nat.le_of_ble_eq_true rfl) rfl ?_
    refine r_aload_n hX dX7_setPeriod_40 rfl ?_
    refine r_iload_n hX dX7_setPeriod_41 rfl ?_
    refine r_putI hX dX7_setPeriod_42 (adAt hs hr1 (by omega)) fl_X7_110 ?_
    obtain ⟨hS2, -, -, hO2⟩ := sky_wC (g := g) (k := 1) (v := nI p9) hs hr1 hV1 (show i < 6 by omega)
    refine r_iload hX dX7_setPeriod_45 rfl ?_
    exact r_x (r_iret hX dX7_setPeriod_47 (by rw [eR]; exact ⟨rfl, rfl, hO.chg hT hTl hR hP1 hO1 hS2 hO2 (hR.set hil)⟩) ⟨Nat.le_of_ble_eq_true rfl, Nat.le_of_ble_eq_true rfl⟩)
  · have eR : turnO O c p = (2, 0, O) := by
      have e : cTurn O.1 c p = (2, 0, O.1) := by rw [cTurn_s hi, if_pos (fun h => absurd c10 (by rw [if_pos h]; decide))]
      unfold turnO; rw [e]; rfl
    exact r_throwS hX dX7_setPeriod_13 dX7_setPeriod_16 dX7_setPeriod_17 dX7_setPeriod_19 dX7_setPeriod_22 th_IllegalArgument_108 ⟨Nat.le_of_ble_eq_true rfl, rfl, Nat.le_of_ble_eq_true rfl⟩ ⟨Nat.le_of_ble_eq_true rfl, Nat.le_of_ble_eq_true rfl⟩ (fun n hn => by rw [eR]; exact hO.thr hn rfl)
set_option maxRecDepth 20000 in
set_option maxHeartbeats 4000000 in
theorem s_X7_brighten (E : qE) (g : qG) (m : qM) (x : Nat) (O : kO) (hO : ObsV g m x O) (u : Nat) (hw : WfO u O) (hu : u ≤ 6144) (c a : Int32) : SpX E yX7_brighten cX7_brighten 4 (some .int) 9 2 12 [.ref x, .int c, .int a] g m (pO x g m (shineO O c a)) (pX x g m ["java/util/NoSuchElementException", "java/lang/IllegalArgumentException", "java/lang/IllegalStateException", "java/lang/UnsupportedOperationException"] (shineO O c a)) := by
  refine SpX.of (by decide) [some (.ref x), some (.int c), some (.int a), none] rfl rfl (Nat.le_of_ble_eq_true rfl) (fun X hX => ?_)
  obtain ⟨b0, ⟨S, ⟨hs, ad, hr, hV⟩, hR⟩, b2, b3, ⟨T, hT, hTl⟩, b5, b6, b7⟩ := id hO
  have hC : ∀ i k, i < O.1.1.length → i < 6 → k < 5 → qI m (ad i) k = nI (cAt O.1.1 i k) := fun i k h1 h6 h2 => (hV.2.1 i k h6 h2).trans (hR.2.2.1 i k h1 h2)
  have hH : ∀ k, 1 ≤ k → k < 7 → qI m (x + 1) (k + 2) = nI (O.1.2.1 k) := fun k h1 h2 => (hV.1 k h2).trans (hR.2.1 k h1 h2)
  refine r_aload_n hX dX7_brighten_0 rfl ?_
  refine r_iload_n hX dX7_brighten_1 rfl ?_
  refine r_callVX hX dX7_brighten_2 (s_X7_existing E g m x c O S ad b0 hs hr hV hR hw.len) ml_X7_89 mk_X7_89 rfl rfl b0.1 rfl ⟨Nat.le_of_ble_eq_true rfl, Nat.le_of_ble_eq_true rfl⟩ ⟨Nat.le_of_ble_eq_true rfl, Nat.le_of_ble_eq_true rfl, rfl, Nat.le_of_ble_eq_true rfl⟩ (fun v2 g2 m2 hp => ?_) (fun nm gx mx hp => ?_)
  rotate_left
  · obtain ⟨hnone, rfl, ⟨n9, hn9, rfl⟩, rfl⟩ := hp
    exact r_out hX ⟨⟨0, congrArg Prod.fst (shineO_n hnone), rfl⟩, by rw [shineO_n hnone]; exact hO, (FrP.rf _ _ _).up hn9⟩ ⟨Nat.le_of_ble_eq_true rfl, Nat.le_of_ble_eq_true rfl⟩
  obtain ⟨i, hi, hv, hg, hm⟩ := hp
  subst v2
  subst g2
  subst m2
  have hil := (plV_lt hi).1
  have hi6 := hw.len
  refine r_astore_n hX dX7_brighten_5 (Nat.le_of_ble_eq_true rfl) rfl ?_
  refine r_iload_n hX dX7_brighten_6 rfl ?_
  refine r_callS hX dX7_brighten_7 (s_X7_isAmount E g m a) ml_X7_113 rfl rfl ⟨Nat.le_of_ble_eq_true rfl, Nat.le_of_ble_eq_true rfl⟩ ⟨Nat.le_of_ble_eq_true rfl, Nat.le_of_ble_eq_true rfl, rfl, Nat.le_of_ble_eq_true rfl⟩ (fun v7 g7 m7 hp => ?_)
  obtain ⟨hv, hg, hm⟩ := hp
  subst v7
  subst g7
  subst m7
  refine r_if_ne (tgt := 23) hX dX7_brighten_10 (by decide) (fun c10 => ?_) (fun c10 => ?_)
  · have hrg : rng a 1 19 := Classical.byContradiction (fun h => c10 (by rw [if_neg h]))
    obtain ⟨a9, ha1, ha19, rfl, ha9⟩ := rng_to hrg (by decide) (by decide)
    have hcb := hw.com hu hil
    have hdu := hw.dus hu
    refine r_aload_n hX dX7_brighten_23 rfl ?_
    refine r_iload_n hX dX7_brighten_24 rfl ?_
    refine r_callV hX dX7_brighten_25 (s_X0_canTake E g m (ad i) (nI a9) (adAt hs hr (by omega))) ml_X7_118 rfl rfl (adAt hs hr (by omega)) rfl ⟨Nat.le_of_ble_eq_true rfl, Nat.le_of_ble_eq_true rfl⟩ ⟨Nat.le_of_ble_eq_true rfl, Nat.le_of_ble_eq_true rfl, rfl, Nat.le_of_ble_eq_true rfl⟩ (fun v25 g25 m25 hp => ?_)
    obtain ⟨hv, hg, hm⟩ := hp
    subst v25
    subst g25
    subst m25
    rw [hC i 2 hil (by omega) (by decide), nI_add]
    refine r_if_ne (tgt := 41) hX dX7_brighten_28 (by decide) (fun c28 => ?_) (fun c28 => ?_)
    · have h20 : cAt O.1.1 i 2 + a9 ≤ 20 := Nat.le_of_not_lt (fun h => c28 (if_pos (nI_lt (a := 20) h (by omega))))
      refine r_aload_n hX dX7_brighten_41 rfl ?_
      refine r_getR hX dX7_brighten_42 b0.1 fl_X7_10 b0.2.1.1 ?_
      refine r_iload_n hX dX7_brighten_45 rfl ?_
      refine r_callV hX dX7_brighten_46 (s_X5_canBuy E g m (x + 1) (nI a9) hs) ml_X7_123 rfl rfl hs.1 rfl ⟨Nat.le_of_ble_eq_true rfl, Nat.le_of_ble_eq_true rfl⟩ ⟨Nat.le_of_ble_eq_true rfl, Nat.le_of_ble_eq_true rfl, rfl, Nat.le_of_ble_eq_true rfl⟩ (fun v46 g46 m46 hp => ?_)
      obtain ⟨hv, hg, hm⟩ := hp
      subst v46
      subst g46
      subst m46
      rw [hH 3 (by decide) (by decide), show (3 : Int32) * nI a9 = nI (3 * a9) from pk_mul 3 a9]
      refine r_if_ne (tgt := 62) hX dX7_brighten_49 (by decide) (fun c49 => ?_) (fun c49 => ?_)
      · have h3 : 3 * a9 ≤ O.1.2.1 3 := Nat.le_of_not_lt (fun h => c49 (if_pos (nI_lt h (by omega))))
        have eR : shineO O c (nI a9) = (0, nI (cAt O.1.1 i 2 + a9), shineV O.1 i a9, O.2.1, (O.1 :: O.2.2.1).take 8, O.2.2.2) := chg_ok (by rw [cShine_s hi, if_neg (not_not_intro hrg), ha9, if_neg (by omega), if_neg (by omega)])
        refine r_aload_n hX dX7_brighten_62 rfl ?_
        refine r_getR hX dX7_brighten_63 b0.1 fl_X7_25 b0.2.1.2.2.2.1 ?_
        refine r_aload_n hX dX7_brighten_66 rfl ?_
        refine r_getR hX dX7_brighten_67 b0.1 fl_X7_10 b0.2.1.1 ?_
        refine r_callV hX dX7_brighten_70 (s_X1_push E g m (x + 31) (x + 1) T S hT ⟨hs, ad, hr, hV⟩ (by omega)) ml_X7_81 rfl rfl hT.1 rfl ⟨Nat.le_of_ble_eq_true rfl, Nat.le_of_ble_eq_true rfl⟩ ⟨Nat.le_of_ble_eq_true rfl, Nat.le_of_ble_eq_true rfl, rfl, Nat.le_of_ble_eq_true rfl⟩ (fun v70 g70 m70 hp => ?_)
        obtain ⟨hv, hg, hP1, hO1⟩ := hp
        subst v70
        subst g70
        obtain ⟨hr1, hV1⟩ := sky2 (g := g) hr hV (OutP.of hO1) (by omega)
        have b01 : ObH g m70 x O := b0.out (OutP.of hO1) (by omega)
        refine r_aload_n hX dX7_brighten_73 rfl ?_
        refine r_getR hX dX7_brighten_74 b01.1 fl_X7_10 b01.2.1.1 ?_
        refine r_aload_n hX dX7_brighten_77 rfl ?_
        refine r_iload_n hX dX7_brighten_78 rfl ?_
        refine r_callV hX dX7_brighten_79 (s_X5_buy E g m70 (x + 1) (ad i) (nI a9) hs (adAt hs hr1 (by omega))) ml_X7_131 rfl rfl hs.1 rfl ⟨Nat.le_of_ble_eq_true rfl, Nat.le_of_ble_eq_true rfl⟩ ⟨Nat.le_of_ble_eq_true rfl, Nat.le_of_ble_eq_true rfl, rfl, Nat.le_of_ble_eq_true rfl⟩ (fun v79 g79 m79 hp => ?_)
        obtain ⟨hv, hg, hm⟩ := hp
        subst v79
        subst g79
        subst m79
        obtain ⟨hS2, hr2, hV2, hO2⟩ := sky_wH (g := g) (k := 3) (v := nI (O.1.2.1 3 - 3 * a9)) hs hr1 hV1
        obtain ⟨hS4, -, -, hO4⟩ := sky_wC (g := g) (i := i) (k := 2) (v := nI (cAt O.1.1 i 2 + a9)) hs hr2 hV2 (by omega)
        rw [show qI m70 (x + 1) 5 - 3 * nI a9 = nI (O.1.2.1 3 - 3 * a9) by rw [show qI m70 (x + 1) 5 = nI (O.1.2.1 3) from (hV1.1 3 (by decide)).trans (hR.2.1 3 (by decide) (by decide)), show (3 : Int32) * nI a9 = nI (3 * a9) from pk_mul 3 a9, pk_sub h3], show qI m70 (ad i) 2 + nI a9 = nI (cAt O.1.1 i 2 + a9) by rw [show qI m70 (ad i) 2 = nI (cAt O.1.1 i 2) from (hV1.2.1 i 2 (by omega) (by decide)).trans (hR.2.2.1 i 2 hil (by decide)), nI_add]]
        have hR9 : RepS (setS (hdS S 3 (nI (O.1.2.1 3 - 3 * a9))) i 2 (nI (cAt O.1.1 i 2 + a9))) (shineV O.1 i a9) := (hR.hdE (j := 3) (v := O.1.2.1 3 - 3 * a9) (by decide)).set (V := (O.1.1, updH O.1.2.1 3 (O.1.2.1 3 - 3 * a9), O.1.2.2)) (k := 2) (v := cAt O.1.1 i 2 + a9) hil
        refine r_aload_n hX dX7_brighten_82 rfl ?_
        refine r_getI hX dX7_brighten_83 (adAt hs hr1 (by omega)) fl_X7_135 ?_
        rw [qI_wI_s]
        exact r_x (r_iret hX dX7_brighten_86 (by rw [eR]; exact ⟨rfl, rfl, hO.chg hT hTl hR hP1 hO1 hS4 (hO2.tr hO4) hR9⟩) ⟨Nat.le_of_ble_eq_true rfl, Nat.le_of_ble_eq_true rfl⟩)
      · have h3 : O.1.2.1 3 < 3 * a9 := Nat.lt_of_not_le (fun h => absurd c49 (by rw [if_neg (nI_nlt h (by omega))]; decide))
        have eR : shineO O c (nI a9) = (4, 0, O) := by
          have e : cShine O.1 c (nI a9) = (4, 0, O.1) := by rw [cShine_s hi, if_neg (not_not_intro hrg), ha9, if_neg (by omega), if_pos h3]
          unfold shineO; rw [e]; rfl
        exact r_throwS hX dX7_brighten_52 dX7_brighten_55 dX7_brighten_56 dX7_brighten_58 dX7_brighten_61 th_UnsupportedOperation_128 ⟨Nat.le_of_ble_eq_true rfl, rfl, Nat.le_of_ble_eq_true rfl⟩ ⟨Nat.le_of_ble_eq_true rfl, Nat.le_of_ble_eq_true rfl⟩ (fun n hn => by rw [eR]; exact hO.thr hn rfl)
    · have h20 : 20 < cAt O.1.1 i 2 + a9 := Nat.lt_of_not_le (fun h => absurd c28 (by rw [if_neg (show ¬ (20 : Int32) < nI (cAt O.1.1 i 2 + a9) from nI_nlt (b := cAt O.1.1 i 2 + a9) (a := 20) h (by decide))]; decide))
      have eR : shineO O c (nI a9) = (3, 0, O) := by
        have e : cShine O.1 c (nI a9) = (3, 0, O.1) := by rw [cShine_s hi, if_neg (not_not_intro hrg), ha9, if_pos h20]
        unfold shineO; rw [e]; rfl
      exact r_throwS hX dX7_brighten_31 dX7_brighten_34 dX7_brighten_35 dX7_brighten_37 dX7_brighten_40 th_IllegalState_121 ⟨Nat.le_of_ble_eq_true rfl, rfl, Nat.le_of_ble_eq_true rfl⟩ ⟨Nat.le_of_ble_eq_true rfl, Nat.le_of_ble_eq_true rfl⟩ (fun n hn => by rw [eR]; exact hO.thr hn rfl)
  · have eR : shineO O c a = (2, 0, O) := by
      have e : cShine O.1 c a = (2, 0, O.1) := by rw [cShine_s hi, if_pos (fun h => absurd c10 (by rw [if_pos h]; decide))]
      unfold shineO; rw [e]; rfl
    exact r_throwS hX dX7_brighten_13 dX7_brighten_16 dX7_brighten_17 dX7_brighten_19 dX7_brighten_22 th_IllegalArgument_116 ⟨Nat.le_of_ble_eq_true rfl, rfl, Nat.le_of_ble_eq_true rfl⟩ ⟨Nat.le_of_ble_eq_true rfl, Nat.le_of_ble_eq_true rfl⟩ (fun n hn => by rw [eR]; exact hO.thr hn rfl)
set_option maxRecDepth 20000 in
set_option maxHeartbeats 4000000 in
theorem s_X7_passDays (E : qE) (g : qG) (m : qM) (x : Nat) (O : kO) (hO : ObsV g m x O) (u : Nat) (hw : WfO u O) (hu : u ≤ 6144) (d : Int32) : SpX E yX7_passDays cX7_passDays 2 (some .int) 8 1 6 [.ref x, .int d] g m (pO x g m (dayO O d)) (pX x g m ["java/lang/IllegalArgumentException"] (dayO O d)) := by
  refine SpX.of (by decide) [some (.ref x), some (.int d)] rfl rfl (Nat.le_of_ble_eq_true rfl) (fun X hX => ?_)
  obtain ⟨b0, ⟨S, ⟨hs, ad, hr, hV⟩, hR⟩, b2, b3, ⟨T, hT, hTl⟩, b5, b6, b7⟩ := id hO
  refine r_iload_n hX dX7_passDays_0 rfl ?_
  refine r_callS hX dX7_passDays_1 (s_X7_isSpanOfDays E g m d) ml_X7_138 rfl rfl ⟨Nat.le_of_ble_eq_true rfl, Nat.le_of_ble_eq_true rfl⟩ ⟨Nat.le_of_ble_eq_true rfl, Nat.le_of_ble_eq_true rfl, rfl, Nat.le_of_ble_eq_true rfl⟩ (fun v1 g1 m1 hp => ?_)
  obtain ⟨hv, hg, hm⟩ := hp
  subst v1
  subst g1
  subst m1
  refine r_if_ne (tgt := 17) hX dX7_passDays_4 (by decide) (fun c4 => ?_) (fun c4 => ?_)
  · have hrg : rng d 1 60 := Classical.byContradiction (fun h => c4 (by rw [if_neg h]))
    obtain ⟨d9, -, hd60, rfl, hd9⟩ := rng_to hrg (by decide) (by decide)
    have hday := hw.day hu
    have hRd : RepS (itS d9 S) (daysV d9 O.1) := hR.days d9 hw.1 (by omega)
    have hm5 := daysV_5 d9 O.1
    have eR : dayO O (nI d9) = (0, nI ((daysV d9 O.1).2.1 5 - O.1.2.1 5), daysV d9 O.1, O.2.1, (O.1 :: O.2.2.1).take 8, O.2.2.2) := chg_ok (by unfold cDay; rw [if_neg (not_not_intro hrg), hd9])
    refine r_aload_n hX dX7_passDays_17 rfl ?_
    refine r_getR hX dX7_passDays_18 b0.1 fl_X7_25 b0.2.1.2.2.2.1 ?_
    refine r_aload_n hX dX7_passDays_21 rfl ?_
    refine r_getR hX dX7_passDays_22 b0.1 fl_X7_10 b0.2.1.1 ?_
    refine r_callV hX dX7_passDays_25 (s_X1_push E g m (x + 31) (x + 1) T S hT ⟨hs, ad, hr, hV⟩ (by omega)) ml_X7_81 rfl rfl hT.1 rfl ⟨Nat.le_of_ble_eq_true rfl, Nat.le_of_ble_eq_true rfl⟩ ⟨Nat.le_of_ble_eq_true rfl, Nat.le_of_ble_eq_true rfl, rfl, Nat.le_of_ble_eq_true rfl⟩ (fun v25 g25 m25 hp => ?_)
    obtain ⟨hv, hg, hP1, hO1⟩ := hp
    subst v25
    subst g25
    obtain ⟨hr1, hV1⟩ := sky2 (g := g) hr hV (OutP.of hO1) (by omega)
    have b01 : ObH g m25 x O := b0.out (OutP.of hO1) (by omega)
    refine r_aload_n hX dX7_passDays_28 rfl ?_
    refine r_getR hX dX7_passDays_29 b01.1 fl_X7_10 b01.2.1.1 ?_
    refine r_iload_n hX dX7_passDays_32 rfl ?_
    refine r_callV hX dX7_passDays_33 (s_X5_letPass E g m25 (x + 1) S ⟨hs, ad, hr1, hV1⟩ O.1.1.length (O.1.2.1 2) d9 ⟨hR.1, hw.len⟩ ⟨hR.2.1 2 (by decide) (by decide), by omega⟩) ml_X7_143 rfl rfl hs.1 rfl ⟨Nat.le_of_ble_eq_true rfl, Nat.le_of_ble_eq_true rfl⟩ ⟨Nat.le_of_ble_eq_true rfl, Nat.le_of_ble_eq_true rfl, rfl, Nat.le_of_ble_eq_true rfl⟩ (fun v33 g33 m33 hp => ?_)
    obtain ⟨hv, hg, hS2, hO2⟩ := hp
    subst v33
    subst g33
    rw [show (itS d9 S).1 5 - S.1 5 = nI ((daysV d9 O.1).2.1 5 - O.1.2.1 5) by rw [hRd.2.1 5 (by decide) (by decide), hR.2.1 5 (by decide) (by decide), pk_sub hm5]]
    exact r_x (r_iret hX dX7_passDays_36 (by rw [eR]; exact ⟨rfl, rfl, hO.chg hT hTl hR hP1 hO1 hS2 hO2 hRd⟩) ⟨Nat.le_of_ble_eq_true rfl, Nat.le_of_ble_eq_true rfl⟩)
  · have eR : dayO O d = (1, 0, O) := by
      have e : cDay O.1 d = (2, 0, O.1) := if_pos (fun h => absurd c4 (by rw [if_pos h]; decide))
      unfold dayO; rw [e]; rfl
    exact r_throwS hX dX7_passDays_7 dX7_passDays_10 dX7_passDays_11 dX7_passDays_13 dX7_passDays_16 th_IllegalArgument_141 ⟨Nat.le_of_ble_eq_true rfl, rfl, Nat.le_of_ble_eq_true rfl⟩ ⟨Nat.le_of_ble_eq_true rfl, Nat.le_of_ble_eq_true rfl⟩ (fun n hn => by rw [eR]; exact hO.thr hn rfl)
set_option maxRecDepth 20000 in
set_option maxHeartbeats 4000000 in
theorem s_X7_clean (E : qE) (g : qG) (m : qM) (x : Nat) (O : kO) (hO : ObsV g m x O) (u : Nat) (hw : WfO u O) (hu : u ≤ 6144) (a n : Int32) : SpX E yX7_clean cX7_clean 3 (some .int) 8 1 6 [.ref x, .int a, .int n] g m (pO x g m (vacO O a n)) (pX x g m ["java/lang/IndexOutOfBoundsException", "java/lang/IllegalArgumentException", "java/lang/IllegalStateException"] (vacO O a n)) := by
  refine SpX.of (by decide) [some (.ref x), some (.int a), some (.int n)] rfl rfl (Nat.le_of_ble_eq_true rfl) (fun X hX => ?_)
  obtain ⟨b0, ⟨S, ⟨hs, ad, hr, hV⟩, hR⟩, b2, b3, ⟨T, hT, hTl⟩, b5, b6, b7⟩ := id hO
  refine r_iload_n hX dX7_clean_0 rfl ?_
  refine r_callS hX dX7_clean_1 (s_X7_isPlace E g m a) ml_X7_147 rfl rfl ⟨Nat.le_of_ble_eq_true rfl, Nat.le_of_ble_eq_true rfl⟩ ⟨Nat.le_of_ble_eq_true rfl, Nat.le_of_ble_eq_true rfl, rfl, Nat.le_of_ble_eq_true rfl⟩ (fun v1 g1 m1 hp => ?_)
  obtain ⟨hv, hg, hm⟩ := hp
  subst v1
  subst g1
  subst m1
  refine r_if_ne (tgt := 17) hX dX7_clean_4 (by decide) (fun c4 => ?_) (fun c4 => ?_)
  · have hr9 : rng a 0 11 := Classical.byContradiction (fun h => c4 (by rw [if_neg h]))
    refine r_iload_n hX dX7_clean_17 rfl ?_
    refine r_callS hX dX7_clean_18 (s_X7_isLengthOfArc E g m n) ml_X7_155 rfl rfl ⟨Nat.le_of_ble_eq_true rfl, Nat.le_of_ble_eq_true rfl⟩ ⟨Nat.le_of_ble_eq_true rfl, Nat.le_of_ble_eq_true rfl, rfl, Nat.le_of_ble_eq_true rfl⟩ (fun v18 g18 m18 hp => ?_)
    obtain ⟨hv, hg, hm⟩ := hp
    subst v18
    subst g18
    subst m18
    refine r_if_ne (tgt := 34) hX dX7_clean_21 (by decide) (fun c21 => ?_) (fun c21 => ?_)
    · have hr8 : rng n 1 12 := Classical.byContradiction (fun h => c21 (by rw [if_neg h]))
      obtain ⟨a9, -, ha11, rfl, ha9⟩ := rng_to hr9 (by decide) (by decide)
      obtain ⟨n9, -, hn12, rfl, hn9⟩ := rng_to hr8 (by decide) (by decide)
      have hrt : O.1.2.1 4 * n9 < 2 ^ 30 := by
        have := Nat.mul_le_mul hw.1.2.2.2.2.2.2.1 hn12
        omega
      refine r_aload_n hX dX7_clean_34 rfl ?_
      refine r_getR hX dX7_clean_35 b0.1 fl_X7_10 b0.2.1.1 ?_
      refine r_iload_n hX dX7_clean_38 rfl ?_
      refine r_iload_n hX dX7_clean_39 rfl ?_
      refine r_callV hX dX7_clean_40 (s_X5_canSweep E g m (x + 1) S ⟨hs, ad, hr, hV⟩ a9 n9 (by omega) hn12) ml_X7_160 rfl rfl hs.1 rfl ⟨Nat.le_of_ble_eq_true rfl, Nat.le_of_ble_eq_true rfl⟩ ⟨Nat.le_of_ble_eq_true rfl, Nat.le_of_ble_eq_true rfl, rfl, Nat.le_of_ble_eq_true rfl⟩ (fun v40 g40 m40 hp => ?_)
      obtain ⟨hv, hg, hm⟩ := hp
      subst v40
      subst g40
      subst m40
      refine r_if_ne (tgt := 56) hX dX7_clean_43 (by decide) (fun c43 => ?_) (fun c43 => ?_)
      · have hc : O.1.2.1 4 * n9 ≤ O.1.2.1 3 + ds O.1.2.2 a9 n9 := Classical.byContradiction (fun h => c43 (if_pos (hR.gain_f h hrt)))
        have eR : vacO O (nI a9) (nI n9) = (0, nI (ds O.1.2.2 a9 n9), vacV O.1 a9 n9, O.2.1, (O.1 :: O.2.2.1).take 8, O.2.2.2) := chg_ok (by unfold cVac; rw [if_neg (not_not_intro hr9), if_neg (not_not_intro hr8), ha9, hn9, if_neg (by omega)])
        refine r_aload_n hX dX7_clean_56 rfl ?_
        refine r_getR hX dX7_clean_57 b0.1 fl_X7_25 b0.2.1.2.2.2.1 ?_
        refine r_aload_n hX dX7_clean_60 rfl ?_
        refine r_getR hX dX7_clean_61 b0.1 fl_X7_10 b0.2.1.1 ?_
        refine r_callV hX dX7_clean_64 (s_X1_push E g m (x + 31) (x + 1) T S hT ⟨hs, ad, hr, hV⟩ (by omega)) ml_X7_81 rfl rfl hT.1 rfl ⟨Nat.le_of_ble_eq_true rfl, Nat.le_of_ble_eq_true rfl⟩ ⟨Nat.le_of_ble_eq_true rfl, Nat.le_of_ble_eq_true rfl, rfl, Nat.le_of_ble_eq_true rfl⟩ (fun v64 g64 m64 hp => ?_)
        obtain ⟨hv, hg, hP1, hO1⟩ := hp
        subst v64
        subst g64
        obtain ⟨hr1, hV1⟩ := sky2 (g := g) hr hV (OutP.of hO1) (by omega)
        have b01 : ObH g m64 x O := b0.out (OutP.of hO1) (by omega)
        refine r_aload_n hX dX7_clean_67 rfl ?_
        refine r_getR hX dX7_clean_68 b01.1 fl_X7_10 b01.2.1.1 ?_
        refine r_iload_n hX dX7_clean_71 rfl ?_
        refine r_iload_n hX dX7_clean_72 rfl ?_
        refine r_callV hX dX7_clean_73 (s_X5_sweep E g m64 (x + 1) S ⟨hs, ad, hr1, hV1⟩ a9 n9 (by omega) hn12) ml_X7_164 rfl rfl hs.1 rfl ⟨Nat.le_of_ble_eq_true rfl, Nat.le_of_ble_eq_true rfl⟩ ⟨Nat.le_of_ble_eq_true rfl, Nat.le_of_ble_eq_true rfl, rfl, Nat.le_of_ble_eq_true rfl⟩ (fun v73 g73 m73 hp => ?_)
        obtain ⟨hv, hg, hS2, hO2⟩ := hp
        subst v73
        subst g73
        rw [ds_nI hR.2.2.2.1]
        exact r_x (r_iret hX dX7_clean_76 (by rw [eR]; exact ⟨rfl, rfl, hO.chg hT hTl hR hP1 hO1 hS2 hO2 (hR.sweep hn12 hc)⟩) ⟨Nat.le_of_ble_eq_true rfl, Nat.le_of_ble_eq_true rfl⟩)
      · have hc : O.1.2.1 3 + ds O.1.2.2 a9 n9 < O.1.2.1 4 * n9 := Nat.lt_of_not_le (fun h => absurd c43 (by
          have hdu := hw.dus hu
          have hds := ds_le O.1.2.2 a9 n9 hn12
          rw [if_neg (by rw [hR.gain_t h]; exact nI_pos (by omega))]; decide))
        have eR : vacO O (nI a9) (nI n9) = (3, 0, O) := by
          have e : cVac O.1 (nI a9) (nI n9) = (3, 0, O.1) := by unfold cVac; rw [if_neg (not_not_intro hr9), if_neg (not_not_intro hr8), ha9, hn9, if_pos hc]
          unfold vacO; rw [e]; rfl
        exact r_throwS hX dX7_clean_46 dX7_clean_49 dX7_clean_50 dX7_clean_52 dX7_clean_55 th_IllegalState_128 ⟨Nat.le_of_ble_eq_true rfl, rfl, Nat.le_of_ble_eq_true rfl⟩ ⟨Nat.le_of_ble_eq_true rfl, Nat.le_of_ble_eq_true rfl⟩ (fun n hn => by rw [eR]; exact hO.thr hn rfl)
    · have eR : vacO O a n = (2, 0, O) := by
        have e : cVac O.1 a n = (2, 0, O.1) := by unfold cVac; rw [if_neg (not_not_intro hr9), if_pos (fun h => absurd c21 (by rw [if_pos h]; decide))]
        unfold vacO; rw [e]; rfl
      exact r_throwS hX dX7_clean_24 dX7_clean_27 dX7_clean_28 dX7_clean_30 dX7_clean_33 th_IllegalArgument_158 ⟨Nat.le_of_ble_eq_true rfl, rfl, Nat.le_of_ble_eq_true rfl⟩ ⟨Nat.le_of_ble_eq_true rfl, Nat.le_of_ble_eq_true rfl⟩ (fun n hn => by rw [eR]; exact hO.thr hn rfl)
  · have eR : vacO O a n = (1, 0, O) := by
      have e : cVac O.1 a n = (1, 0, O.1) := if_pos (fun h => absurd c4 (by rw [if_pos h]; decide))
      unfold vacO; rw [e]; rfl
    exact r_throwS hX dX7_clean_7 dX7_clean_10 dX7_clean_11 dX7_clean_13 dX7_clean_16 th_IndexOutOfBounds_152 ⟨Nat.le_of_ble_eq_true rfl, rfl, Nat.le_of_ble_eq_true rfl⟩ ⟨Nat.le_of_ble_eq_true rfl, Nat.le_of_ble_eq_true rfl⟩ (fun n hn => by rw [eR]; exact hO.thr hn rfl)
set_option maxRecDepth 20000 in
set_option maxHeartbeats 4000000 in
theorem s_X7_setRate (E : qE) (g : qG) (m : qM) (x : Nat) (O : kO) (hO : ObsV g m x O) (u : Nat) (hw : WfO u O) (hu : u ≤ 6144) (r : Int32) : SpX E yX7_setRate cX7_setRate 3 (some .int) 8 1 6 [.ref x, .int r] g m (pO x g m (rateO O r)) (pX x g m ["java/lang/IllegalArgumentException"] (rateO O r)) := by
  refine SpX.of (by decide) [some (.ref x), some (.int r), none] rfl rfl (Nat.le_of_ble_eq_true rfl) (fun X hX => ?_)
  obtain ⟨b0, ⟨S, ⟨hs, ad, hr, hV⟩, hR⟩, b2, b3, ⟨T, hT, hTl⟩, b5, b6, b7⟩ := id hO
  refine r_iload_n hX dX7_setRate_0 rfl ?_
  refine r_callS hX dX7_setRate_1 (s_X7_isRate E g m r) ml_X7_168 rfl rfl ⟨Nat.le_of_ble_eq_true rfl, Nat.le_of_ble_eq_true rfl⟩ ⟨Nat.le_of_ble_eq_true rfl, Nat.le_of_ble_eq_true rfl, rfl, Nat.le_of_ble_eq_true rfl⟩ (fun v1 g1 m1 hp => ?_)
  obtain ⟨hv, hg, hm⟩ := hp
  subst v1
  subst g1
  subst m1
  refine r_if_ne (tgt := 17) hX dX7_setRate_4 (by decide) (fun c4 => ?_) (fun c4 => ?_)
  · have hrg : rng r 0 9 := Classical.byContradiction (fun h => c4 (by rw [if_neg h]))
    obtain ⟨r9, -, -, rfl, hr9⟩ := rng_to hrg (by decide) (by decide)
    have eR : rateO O (nI r9) = (0, nI (O.1.2.1 4), rateV O.1 r9, O.2.1, (O.1 :: O.2.2.1).take 8, O.2.2.2) := chg_ok (by unfold cRate; rw [if_neg (not_not_intro hrg), hr9])
    refine r_aload_n hX dX7_setRate_17 rfl ?_
    refine r_getR hX dX7_setRate_18 b0.1 fl_X7_25 b0.2.1.2.2.2.1 ?_
    refine r_aload_n hX dX7_setRate_21 rfl ?_
    refine r_getR hX dX7_setRate_22 b0.1 fl_X7_10 b0.2.1.1 ?_
    refine r_callV hX dX7_setRate_25 (s_X1_push E g m (x + 31) (x + 1) T S hT ⟨hs, ad, hr, hV⟩ (by omega)) ml_X7_81 rfl rfl hT.1 rfl ⟨Nat.le_of_ble_eq_true rfl, Nat.le_of_ble_eq_true rfl⟩ ⟨Nat.le_of_ble_eq_true rfl, Nat.le_of_ble_eq_true rfl, rfl, Nat.le_of_ble_eq_true rfl⟩ (fun v25 g25 m25 hp => ?_)
    obtain ⟨hv, hg, hP1, hO1⟩ := hp
    subst v25
    subst g25
    obtain ⟨hr1, hV1⟩ := sky2 (g := g) hr hV (OutP.of hO1) (by omega)
    have b01 : ObH g m25 x O := b0.out (OutP.of hO1) (by omega)
    refine r_aload_n hX dX7_setRate_28 rfl ?_
    refine r_getR hX dX7_setRate_29 b01.1 fl_X7_10 b01.2.1.1 ?_
    refine r_getI hX dX7_setRate_32 hs.1 fl_X7_173 ?_
    rw [show qI m25 (x + 1) 6 = nI (O.1.2.1 4) from (hV1.1 4 (by decide)).trans (hR.2.1 4 (by decide) (by decide))]
    refine r_istore_n hX dX7_setRate_35 (Nat.le_of_ble_eq_true rfl) rfl ?_
    refine r_aload_n hX dX7_setRate_36 rfl ?_
    refine r_getR hX dX7_setRate_37 b01.1 fl_X7_10 b01.2.1.1 ?_
    refine r_iload_n hX dX7_setRate_40 rfl ?_
    refine r_putI hX dX7_setRate_41 hs.1 fl_X7_173 ?_
    obtain ⟨hS2, -, -, hO2⟩ := sky_wH (g := g) (k := 4) (v := nI r9) hs hr1 hV1
    refine r_iload_n hX dX7_setRate_44 rfl ?_
    exact r_x (r_iret hX dX7_setRate_45 (by rw [eR]; exact ⟨rfl, rfl, hO.chg hT hTl hR hP1 hO1 hS2 hO2 (hR.hdE (by decide))⟩) ⟨Nat.le_of_ble_eq_true rfl, Nat.le_of_ble_eq_true rfl⟩)
  · have eR : rateO O r = (1, 0, O) := by
      have e : cRate O.1 r = (2, 0, O.1) := if_pos (fun h => absurd c4 (by rw [if_pos h]; decide))
      unfold rateO; rw [e]; rfl
    exact r_throwS hX dX7_setRate_7 dX7_setRate_10 dX7_setRate_11 dX7_setRate_13 dX7_setRate_16 th_IllegalArgument_171 ⟨Nat.le_of_ble_eq_true rfl, rfl, Nat.le_of_ble_eq_true rfl⟩ ⟨Nat.le_of_ble_eq_true rfl, Nat.le_of_ble_eq_true rfl⟩ (fun n hn => by rw [eR]; exact hO.thr hn rfl)
