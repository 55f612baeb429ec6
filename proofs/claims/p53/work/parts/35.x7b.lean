/-! ===== CometObservatory: questions about comets and the ring ===== -/
abbrev inN (i : Int32) (n : Nat) : Prop := 0 ≤ i ∧ i < nI n
def qNum (O : kO) (k : Nat) : kR := (0, nI (O.1.2.1 k), O)
def qCnt (O : kO) : kR := (0, nI O.1.1.length, O)
def qAt (O : kO) (i : Int32) : kR := if inN i O.1.1.length then (0, nI (cAt O.1.1 i.toNatClampNeg 0), O) else (1, 0, O)
def qEx (O : kO) (c : Int32) : kR := (0, if (plV O.1.1 c).isSome = true then 1 else 0, O)
def qOf (O : kO) (c : Int32) (f : (Nat → Nat) → Nat) : kR := match plV O.1.1 c with
  | none => (1, 0, O)
  | some i => (0, nI (f (cAt O.1.1 i)), O)
theorem qOf_n {O : kO} {c : Int32} {f : (Nat → Nat) → Nat} (h : plV O.1.1 c = none) : qOf O c f = (1, 0, O) := by unfold qOf; rw [h]
theorem qOf_s {O : kO} {c : Int32} {f : (Nat → Nat) → Nat} {i : Nat} (h : plV O.1.1 c = some i) : qOf O c f = (0, nI (f (cAt O.1.1 i)), O) := by unfold qOf; rw [h]
def qDust (O : kO) (p : Int32) : kR := if rng p 0 11 then (0, nI (O.1.2.2 p.toNatClampNeg), O) else (1, 0, O)
def qGain (O : kO) (a n : Int32) : kR := if rng a 0 11 then (if rng n 1 12 then (0, nI (ds O.1.2.2 a.toNatClampNeg n.toNatClampNeg) - nI (O.1.2.1 4 * n.toNatClampNeg), O) else (2, 0, O)) else (1, 0, O)
def qTot (O : kO) : kR := (0, nI (ds O.1.2.2 0 12), O)
/-- a ranks before b -/
def rkB (a b : Nat → Nat) : Bool := decide (b 2 < a 2) || (decide (a 2 = b 2) && (decide (a 3 < b 3) || (decide (a 3 = b 3) && decide (a 0 < b 0))))
/-- how many of the first n rank before c -/
def rkF (L : List (Nat → Nat)) (c : Nat → Nat) : Nat → Nat
  | 0 => 0
  | i + 1 => rkF L c i + if rkB (cAt L i) c = true then 1 else 0
def qRank (O : kO) (r : Int32) : kR := if inN r O.1.1.length then (0, (match slotF (fun i => nI (rkF O.1.1 (cAt O.1.1 i) O.1.1.length)) r 0 O.1.1.length with
  | some i => nI (cAt O.1.1 i 0)
  | none => -1), O) else (1, 0, O)
/-- how often a comet passes up to a day -/
def upTo (c : Nat → Nat) (d : Nat) : Nat := if d < c 3 then 0 else min (c 2) (1 + (d - c 3) / c 1)
def pAhV (L : List (Nat → Nat)) (d : Nat) : Nat → Nat
  | 0 => 0
  | i + 1 => pAhV L d i + upTo (cAt L i) d
def qIn (O : kO) (d : Int32) : kR := if rng d 0 60 then (0, nI (pAhV O.1.1 (O.1.2.1 2 + d.toNatClampNeg) O.1.1.length), O) else (1, 0, O)
theorem WfO.len {u : Nat} {O : kO} (h : WfO u O) : O.1.1.length ≤ 6 := h.1.1
theorem WfO.day {u : Nat} {O : kO} (h : WfO u O) (hu : u ≤ 6144) : O.1.2.1 2 ≤ 368640 := by have := h.1.2.2.2.2.1; omega
theorem WfO.com {u : Nat} {O : kO} (h : WfO u O) (hu : u ≤ 6144) {i : Nat} (hi : i < O.1.1.length) : 2 ≤ cAt O.1.1 i 1 ∧ cAt O.1.1 i 1 ≤ 60 ∧ 1 ≤ cAt O.1.1 i 2 ∧ cAt O.1.1 i 2 ≤ 20 ∧ O.1.2.1 2 < cAt O.1.1 i 3 ∧ cAt O.1.1 i 3 ≤ O.1.2.1 2 + 60 ∧ cAt O.1.1 i 4 ≤ 2211840 ∧ cAt O.1.1 i 0 < 6144 := by
  obtain ⟨b1, b2, b3, b4, b5, b6, b7, b8⟩ := h.1.at hi
  have h1 := h.1.2.2.2.1
  have h5 := h.1.2.2.2.2.2.2.2.1
  exact ⟨b1, b2, b3, b4, b5, b6, by omega, by omega⟩
theorem cRk {u : Nat} {O : kO} (h : WfO u O) (hu : u ≤ 6144) {i j : Nat} (hi : i < O.1.1.length) (hj : j < O.1.1.length) : (cRanks (nI (cAt O.1.1 i 2)) (nI (cAt O.1.1 i 3)) (nI (cAt O.1.1 i 0)) (nI (cAt O.1.1 j 2)) (nI (cAt O.1.1 j 3)) (nI (cAt O.1.1 j 0)) = 0) ↔ ¬ rkB (cAt O.1.1 i) (cAt O.1.1 j) = true := by
  obtain ⟨a1, a2, a3, a4, a5, a6, a7, a8⟩ := h.com hu hi
  obtain ⟨b1, b2, b3, b4, b5, b6, b7, b8⟩ := h.com hu hj
  have hd := h.day hu
  unfold cRanks rkB
  simp only [Bool.or_eq_true, Bool.and_eq_true, decide_eq_true_eq]
  by_cases e1 : cAt O.1.1 i 2 = cAt O.1.1 j 2
  · rw [if_pos (by rw [e1])]
    by_cases e2 : cAt O.1.1 i 3 = cAt O.1.1 j 3
    · rw [if_pos (by rw [e2])]
      by_cases e3 : cAt O.1.1 j 0 ≤ cAt O.1.1 i 0
      · rw [if_pos ((nI_leI (by omega) (by omega)).mpr e3)]
        constructor
        · intro _; omega
        · intro _; rfl
      · rw [if_neg (fun q => e3 ((nI_leI (by omega) (by omega)).mp q))]
        constructor
        · intro q; exact absurd q (by decide)
        · intro q; exact absurd (Or.inr ⟨e1, Or.inr ⟨e2, by omega⟩⟩) q
    · rw [if_neg (fun q => e2 ((nI_eq (by omega) (by omega)).mp q))]
      by_cases e3 : cAt O.1.1 j 3 ≤ cAt O.1.1 i 3
      · rw [if_pos ((nI_leI (by omega) (by omega)).mpr e3)]
        constructor
        · intro _; omega
        · intro _; rfl
      · rw [if_neg (fun q => e3 ((nI_leI (by omega) (by omega)).mp q))]
        constructor
        · intro q; exact absurd q (by decide)
        · intro q; exact absurd (Or.inr ⟨e1, Or.inl (by omega)⟩) q
  · rw [if_neg (fun q => e1 ((nI_eq (by omega) (by omega)).mp q))]
    by_cases e3 : cAt O.1.1 i 2 ≤ cAt O.1.1 j 2
    · rw [if_pos ((nI_leI (by omega) (by omega)).mpr e3)]
      constructor
      · intro _; omega
      · intro _; rfl
    · rw [if_neg (fun q => e3 ((nI_leI (by omega) (by omega)).mp q))]
      constructor
      · intro q; exact absurd q (by decide)
      · intro q; exact absurd (Or.inl (by omega)) q
theorem rkF_S {u : Nat} {O : kO} (h : WfO u O) (hu : u ≤ 6144) {S : kS} (hR : RepS S O.1) {j : Nat} (hj : j < O.1.1.length) : ∀ n, n ≤ O.1.1.length → rkN S (S.2.1 j 2) (S.2.1 j 3) (S.2.1 j 0) n = rkF O.1.1 (cAt O.1.1 j) n
  | 0, _ => rfl
  | n + 1, hn => by
    have ih := rkF_S h hu hR hj n (by omega)
    have e := cRk h hu (i := n) (j := j) (by omega) hj
    unfold rkN rkF
    rw [ih, hR.2.2.1 n 2 (by omega) (by decide), hR.2.2.1 n 3 (by omega) (by decide), hR.2.2.1 n 0 (by omega) (by decide), hR.2.2.1 j 2 hj (by decide), hR.2.2.1 j 3 hj (by decide), hR.2.2.1 j 0 hj (by decide)]
    by_cases e1 : rkB (cAt O.1.1 n) (cAt O.1.1 j) = true
    · rw [if_neg (fun q => (e.mp q) e1), if_pos e1]
    · rw [if_pos (e.mpr e1), if_neg e1]
theorem idRk_V {u : Nat} {O : kO} (h : WfO u O) (hu : u ≤ 6144) {S : kS} (hR : RepS S O.1) (r : Int32) : idRk S O.1.1.length r = (match slotF (fun i => nI (rkF O.1.1 (cAt O.1.1 i) O.1.1.length)) r 0 O.1.1.length with
  | some i => nI (cAt O.1.1 i 0)
  | none => -1) := by
  unfold idRk
  have e : slotF (rkI S O.1.1.length) r 0 O.1.1.length = slotF (fun i => nI (rkF O.1.1 (cAt O.1.1 i) O.1.1.length)) r 0 O.1.1.length := slotF_congr _ 0 (fun j _ hj => congrArg nI (rkF_S h hu hR (by omega) _ (Nat.le_refl _)))
  rw [e]
  rcases hq : slotF (fun i => nI (rkF O.1.1 (cAt O.1.1 i) O.1.1.length)) r 0 O.1.1.length with _ | i
  · rfl
  · exact hR.2.2.1 i 0 (by have := slotF_some hq; omega) (by decide)
theorem cPas {b n p x : Nat} (hb : b ≤ 20) (hp : 1 ≤ p ∧ p ≤ 60) (hn : n < 2 ^ 30) (hx : x < 2 ^ 29) (hxn : x - n ≤ 1000000) : cPassesUpTo (nI b) (nI n) (nI p) (nI x) = nI (if x < n then 0 else min b (1 + (x - n) / p)) := by
  unfold cPassesUpTo
  by_cases e1 : x < n
  · rw [if_pos (nI_lt e1 (by omega)), if_pos e1]; rfl
  · have hq : (x - n) / p ≤ 1000000 := Nat.le_trans (Nat.div_le_self _ _) hxn
    rw [if_neg (nI_nlt (by omega) (by omega)), if_pos (show (1 : Int32) ≤ nI p from nI_le (a := 1) (by omega) (by omega)), if_neg e1, pk_sub (by omega), pk_div (by omega) (by omega) (by omega), show (1 : Int32) = nI 1 from rfl, nI_add]
    exact mnN (by omega) (by omega)
theorem pAh_V {u : Nat} {O : kO} (h : WfO u O) (hu : u ≤ 6144) {S : kS} (hR : RepS S O.1) {d : Nat} (hd : d ≤ 60) : ∀ n, n ≤ O.1.1.length → pAh S (nI d) n = nI (pAhV O.1.1 (O.1.2.1 2 + d) n)
  | 0, _ => rfl
  | n + 1, hn => by
    have ih := pAh_V h hu hR hd n (by omega)
    obtain ⟨a1, a2, a3, a4, a5, a6, a7, a8⟩ := h.com hu (i := n) (by omega)
    have hdd := h.day hu
    have e := cPas (b := cAt O.1.1 n 2) (n := cAt O.1.1 n 3) (p := cAt O.1.1 n 1) (x := O.1.2.1 2 + d) a4 ⟨by omega, a2⟩ (by omega) (by omega) (by omega)
    unfold pAh pAhV
    rw [ih, hR.2.2.1 n 2 (by omega) (by decide), hR.2.2.1 n 3 (by omega) (by decide), hR.2.2.1 n 1 (by omega) (by decide), hR.2.1 2 (by decide) (by decide), nI_add (O.1.2.1 2) d, e]
    exact nI_add _ _
set_option maxRecDepth 20000 in
set_option maxHeartbeats 4000000 in
theorem s_X7_day (E : qE) (g : qG) (m : qM) (x : Nat) (O : kO) (hO : ObsV g m x O) (u : Nat) (hw : WfO u O) (hu : u ≤ 6144) : Sp E yX7_day cX7_day 1 (some .int) 0 0 0 [.ref x] g m (pO x g m (qNum O 2)) := by
  refine Sp.of (by decide) [some (.ref x)] rfl rfl (Nat.le_of_ble_eq_true rfl) (fun X hX => ?_)
  obtain ⟨b0, ⟨S, ⟨hs, ad, hr, hV⟩, hR⟩, b2, b3, b4, b5, b6, b7⟩ := id hO
  have hH : ∀ k, 1 ≤ k → k < 7 → qI m (x + 1) (k + 2) = nI (O.1.2.1 k) := fun k h1 h2 => (hV.1 k h2).trans (hR.2.1 k h1 h2)
  refine r_aload_n hX dX7_day_0 rfl ?_
  refine r_getR hX dX7_day_1 b0.1 fl_X7_10 b0.2.1.1 ?_
  refine r_getI hX dX7_day_4 hs.1 fl_X7_276 ?_
  rw [hH 2 (by decide) (by decide)]
  exact r_iret hX dX7_day_7 hO.same ⟨Nat.le_of_ble_eq_true rfl, Nat.le_of_ble_eq_true rfl⟩
set_option maxRecDepth 20000 in
set_option maxHeartbeats 4000000 in
theorem s_X7_coins (E : qE) (g : qG) (m : qM) (x : Nat) (O : kO) (hO : ObsV g m x O) (u : Nat) (hw : WfO u O) (hu : u ≤ 6144) : Sp E yX7_coins cX7_coins 1 (some .int) 0 0 0 [.ref x] g m (pO x g m (qNum O 3)) := by
  refine Sp.of (by decide) [some (.ref x)] rfl rfl (Nat.le_of_ble_eq_true rfl) (fun X hX => ?_)
  obtain ⟨b0, ⟨S, ⟨hs, ad, hr, hV⟩, hR⟩, b2, b3, b4, b5, b6, b7⟩ := id hO
  have hH : ∀ k, 1 ≤ k → k < 7 → qI m (x + 1) (k + 2) = nI (O.1.2.1 k) := fun k h1 h2 => (hV.1 k h2).trans (hR.2.1 k h1 h2)
  refine r_aload_n hX dX7_coins_0 rfl ?_
  refine r_getR hX dX7_coins_1 b0.1 fl_X7_10 b0.2.1.1 ?_
  refine r_getI hX dX7_coins_4 hs.1 fl_X7_102 ?_
  rw [hH 3 (by decide) (by decide)]
  exact r_iret hX dX7_coins_7 hO.same ⟨Nat.le_of_ble_eq_true rfl, Nat.le_of_ble_eq_true rfl⟩
set_option maxRecDepth 20000 in
set_option maxHeartbeats 4000000 in
theorem s_X7_rate (E : qE) (g : qG) (m : qM) (x : Nat) (O : kO) (hO : ObsV g m x O) (u : Nat) (hw : WfO u O) (hu : u ≤ 6144) : Sp E yX7_rate cX7_rate 1 (some .int) 0 0 0 [.ref x] g m (pO x g m (qNum O 4)) := by
  refine Sp.of (by decide) [some (.ref x)] rfl rfl (Nat.le_of_ble_eq_true rfl) (fun X hX => ?_)
  obtain ⟨b0, ⟨S, ⟨hs, ad, hr, hV⟩, hR⟩, b2, b3, b4, b5, b6, b7⟩ := id hO
  have hH : ∀ k, 1 ≤ k → k < 7 → qI m (x + 1) (k + 2) = nI (O.1.2.1 k) := fun k h1 h2 => (hV.1 k h2).trans (hR.2.1 k h1 h2)
  refine r_aload_n hX dX7_rate_0 rfl ?_
  refine r_getR hX dX7_rate_1 b0.1 fl_X7_10 b0.2.1.1 ?_
  refine r_getI hX dX7_rate_4 hs.1 fl_X7_173 ?_
  rw [hH 4 (by decide) (by decide)]
  exact r_iret hX dX7_rate_7 hO.same ⟨Nat.le_of_ble_eq_true rfl, Nat.le_of_ble_eq_true rfl⟩
set_option maxRecDepth 20000 in
set_option maxHeartbeats 4000000 in
theorem s_X7_cometCount (E : qE) (g : qG) (m : qM) (x : Nat) (O : kO) (hO : ObsV g m x O) (u : Nat) (hw : WfO u O) (hu : u ≤ 6144) : Sp E yX7_cometCount cX7_cometCount 1 (some .int) 0 0 0 [.ref x] g m (pO x g m (qCnt O)) := by
  refine Sp.of (by decide) [some (.ref x)] rfl rfl (Nat.le_of_ble_eq_true rfl) (fun X hX => ?_)
  obtain ⟨b0, ⟨S, ⟨hs, ad, hr, hV⟩, hR⟩, b2, b3, b4, b5, b6, b7⟩ := id hO
  have hN : qI m (x + 1) 2 = nI O.1.1.length := (hV.1 0 (by decide)).trans hR.1
  refine r_aload_n hX dX7_cometCount_0 rfl ?_
  refine r_getR hX dX7_cometCount_1 b0.1 fl_X7_10 b0.2.1.1 ?_
  refine r_getI hX dX7_cometCount_4 hs.1 fl_X7_176 ?_
  rw [hN]
  exact r_iret hX dX7_cometCount_7 hO.same ⟨Nat.le_of_ble_eq_true rfl, Nat.le_of_ble_eq_true rfl⟩
set_option maxRecDepth 20000 in
set_option maxHeartbeats 4000000 in
theorem s_X7_cometAt (E : qE) (g : qG) (m : qM) (x : Nat) (O : kO) (hO : ObsV g m x O) (u : Nat) (hw : WfO u O) (hu : u ≤ 6144) (i : Int32) : SpX E yX7_cometAt cX7_cometAt 2 (some .int) 8 1 6 [.ref x, .int i] g m (pO x g m (qAt O i)) (pX x g m ["java/lang/IndexOutOfBoundsException"] (qAt O i)) := by
  refine SpX.of (by decide) [some (.ref x), some (.int i)] rfl rfl (Nat.le_of_ble_eq_true rfl) (fun X hX => ?_)
  obtain ⟨b0, ⟨S, ⟨hs, ad, hr, hV⟩, hR⟩, b2, b3, b4, b5, b6, b7⟩ := id hO
  have hN : qI m (x + 1) 2 = nI O.1.1.length := (hV.1 0 (by decide)).trans hR.1
  have hC : ∀ i k, i < O.1.1.length → i < 6 → k < 5 → qI m (ad i) k = nI (cAt O.1.1 i k) := fun i k h1 h6 h2 => (hV.2.1 i k h6 h2).trans (hR.2.2.1 i k h1 h2)
  refine r_iload_n hX dX7_cometAt_0 rfl ?_
  refine r_if_lt (tgt := 15) hX dX7_cometAt_1 (by decide) (fun c1 => ?_) (fun c1 => ?_)
  · have eR : qAt O i = (1, 0, O) := if_neg (fun h => absurd c1 (Int32.not_lt.mpr h.1))
    exact r_throwS hX dX7_cometAt_15 dX7_cometAt_18 dX7_cometAt_19 dX7_cometAt_21 dX7_cometAt_24 th_IndexOutOfBounds_179 ⟨Nat.le_of_ble_eq_true rfl, rfl, Nat.le_of_ble_eq_true rfl⟩ ⟨Nat.le_of_ble_eq_true rfl, Nat.le_of_ble_eq_true rfl⟩ (fun n hn => by rw [eR]; exact hO.thr hn rfl)
  · refine r_iload_n hX dX7_cometAt_4 rfl ?_
    refine r_aload_n hX dX7_cometAt_5 rfl ?_
    refine r_getR hX dX7_cometAt_6 b0.1 fl_X7_10 b0.2.1.1 ?_
    refine r_getI hX dX7_cometAt_9 hs.1 fl_X7_176 ?_
    rw [hN]
    refine r_icmp_lt (tgt := 25) hX dX7_cometAt_12 (by decide) (fun c12 => ?_) (fun c12 => ?_)
    · have hin : inN i O.1.1.length := ⟨Int32.not_lt.mp c1, c12⟩
      obtain ⟨j, hj, rfl⟩ := nI_of c1
      have hj6 := hw.len
      have hjl : j < O.1.1.length := (nI_ltI hj (by omega)).mp c12
      have hcl : (nI j).toNatClampNeg = j := nI_clamp hj
      refine r_aload_n hX dX7_cometAt_25 rfl ?_
      refine r_getR hX dX7_cometAt_26 b0.1 fl_X7_10 b0.2.1.1 ?_
      refine r_getR hX dX7_cometAt_29 hs.1 fl_X7_181 hr.1 ?_
      refine r_iload_n hX dX7_cometAt_32 rfl ?_
      refine r_aaload5N hX dX7_cometAt_33 hs.2.1 (show j < 6 by omega) (by decide) (hr.2.2.2.1 j (by omega)) ?_
      refine r_getI hX dX7_cometAt_34 (adAt hs hr (by omega)) fl_X7_93 ?_
      rw [hC j 0 hjl (by omega) (by decide)]
      exact r_x (r_iret hX dX7_cometAt_37 (by rw [show qAt O (nI j) = (0, nI (cAt O.1.1 j 0), O) from by unfold qAt; rw [if_pos hin, hcl]]; exact hO.same) ⟨Nat.le_of_ble_eq_true rfl, Nat.le_of_ble_eq_true rfl⟩)
    · have eR : qAt O i = (1, 0, O) := if_neg (fun h => c12 h.2)
      exact r_throwS hX dX7_cometAt_15 dX7_cometAt_18 dX7_cometAt_19 dX7_cometAt_21 dX7_cometAt_24 th_IndexOutOfBounds_179 ⟨Nat.le_of_ble_eq_true rfl, rfl, Nat.le_of_ble_eq_true rfl⟩ ⟨Nat.le_of_ble_eq_true rfl, Nat.le_of_ble_eq_true rfl⟩ (fun n hn => by rw [eR]; exact hO.thr hn rfl)
set_option maxRecDepth 20000 in
set_option maxHeartbeats 4000000 in
theorem s_X7_cometAtRank (E : qE) (g : qG) (m : qM) (x : Nat) (O : kO) (hO : ObsV g m x O) (u : Nat) (hw : WfO u O) (hu : u ≤ 6144) (i : Int32) : SpX E yX7_cometAtRank cX7_cometAtRank 2 (some .int) 8 1 6 [.ref x, .int i] g m (pO x g m (qRank O i)) (pX x g m ["java/lang/IndexOutOfBoundsException"] (qRank O i)) := by
  refine SpX.of (by decide) [some (.ref x), some (.int i)] rfl rfl (Nat.le_of_ble_eq_true rfl) (fun X hX => ?_)
  obtain ⟨b0, ⟨S, ⟨hs, ad, hr, hV⟩, hR⟩, b2, b3, b4, b5, b6, b7⟩ := id hO
  have hN : qI m (x + 1) 2 = nI O.1.1.length := (hV.1 0 (by decide)).trans hR.1
  have hC : ∀ i k, i < O.1.1.length → i < 6 → k < 5 → qI m (ad i) k = nI (cAt O.1.1 i k) := fun i k h1 h6 h2 => (hV.2.1 i k h6 h2).trans (hR.2.2.1 i k h1 h2)
  refine r_iload_n hX dX7_cometAtRank_0 rfl ?_
  refine r_if_lt (tgt := 15) hX dX7_cometAtRank_1 (by decide) (fun c1 => ?_) (fun c1 => ?_)
  · have eR : qRank O i = (1, 0, O) := if_neg (fun h => absurd c1 (Int32.not_lt.mpr h.1))
    exact r_throwS hX dX7_cometAtRank_15 dX7_cometAtRank_18 dX7_cometAtRank_19 dX7_cometAtRank_21 dX7_cometAtRank_24 th_IndexOutOfBounds_197 ⟨Nat.le_of_ble_eq_true rfl, rfl, Nat.le_of_ble_eq_true rfl⟩ ⟨Nat.le_of_ble_eq_true rfl, Nat.le_of_ble_eq_true rfl⟩ (fun n hn => by rw [eR]; exact hO.thr hn rfl)
  · refine r_iload_n hX dX7_cometAtRank_4 rfl ?_
    refine r_aload_n hX dX7_cometAtRank_5 rfl ?_
    refine r_getR hX dX7_cometAtRank_6 b0.1 fl_X7_10 b0.2.1.1 ?_
    refine r_getI hX dX7_cometAtRank_9 hs.1 fl_X7_176 ?_
    rw [hN]
    refine r_icmp_lt (tgt := 25) hX dX7_cometAtRank_12 (by decide) (fun c12 => ?_) (fun c12 => ?_)
    · have hin : inN i O.1.1.length := ⟨Int32.not_lt.mp c1, c12⟩
      obtain ⟨j, hj, rfl⟩ := nI_of c1
      have hj6 := hw.len
      have hjl : j < O.1.1.length := (nI_ltI hj (by omega)).mp c12
      have hcl : (nI j).toNatClampNeg = j := nI_clamp hj
      refine r_aload_n hX dX7_cometAtRank_25 rfl ?_
      refine r_getR hX dX7_cometAtRank_26 b0.1 fl_X7_10 b0.2.1.1 ?_
      refine r_iload_n hX dX7_cometAtRank_29 rfl ?_
      refine r_callV hX dX7_cometAtRank_30 (s_X5_idAtRank E g m (x + 1) (nI j) S ⟨hs, ad, hr, hV⟩ O.1.1.length ⟨hR.1, hw.len⟩) ml_X7_199 rfl rfl hs.1 rfl ⟨Nat.le_of_ble_eq_true rfl, Nat.le_of_ble_eq_true rfl⟩ ⟨Nat.le_of_ble_eq_true rfl, Nat.le_of_ble_eq_true rfl, rfl, Nat.le_of_ble_eq_true rfl⟩ (fun v30 g30 m30 hp => ?_)
      obtain ⟨hv, hg, hm⟩ := hp
      subst v30
      subst g30
      subst m30
      rw [idRk_V hw hu hR]
      exact r_x (r_iret hX dX7_cometAtRank_33 (by rw [show qRank O (nI j) = (0, _, O) from if_pos hin]; exact hO.same) ⟨Nat.le_of_ble_eq_true rfl, Nat.le_of_ble_eq_true rfl⟩)
    · have eR : qRank O i = (1, 0, O) := if_neg (fun h => c12 h.2)
      exact r_throwS hX dX7_cometAtRank_15 dX7_cometAtRank_18 dX7_cometAtRank_19 dX7_cometAtRank_21 dX7_cometAtRank_24 th_IndexOutOfBounds_197 ⟨Nat.le_of_ble_eq_true rfl, rfl, Nat.le_of_ble_eq_true rfl⟩ ⟨Nat.le_of_ble_eq_true rfl, Nat.le_of_ble_eq_true rfl⟩ (fun n hn => by rw [eR]; exact hO.thr hn rfl)
set_option maxRecDepth 20000 in
set_option maxHeartbeats 4000000 in
theorem s_X7_exists (E : qE) (g : qG) (m : qM) (x : Nat) (O : kO) (hO : ObsV g m x O) (u : Nat) (hw : WfO u O) (hu : u ≤ 6144) (c : Int32) : Sp E yX7_exists cX7_exists 2 (some .boolean) 1 0 0 [.ref x, .int c] g m (pO x g m (qEx O c)) := by
  refine Sp.of (by decide) [some (.ref x), some (.int c)] rfl rfl (Nat.le_of_ble_eq_true rfl) (fun X hX => ?_)
  obtain ⟨b0, ⟨S, ⟨hs, ad, hr, hV⟩, hR⟩, b2, b3, b4, b5, b6, b7⟩ := id hO
  refine r_aload_n hX dX7_exists_0 rfl ?_
  refine r_getR hX dX7_exists_1 b0.1 fl_X7_10 b0.2.1.1 ?_
  refine r_iload_n hX dX7_exists_4 rfl ?_
  refine r_callV hX dX7_exists_5 (s_X5_slotV E g m (x + 1) c S ⟨hs, ad, hr, hV⟩ O.1.1.length ⟨hR.1, hw.len⟩) ml_X7_185 rfl rfl hs.1 rfl ⟨Nat.le_of_ble_eq_true rfl, Nat.le_of_ble_eq_true rfl⟩ ⟨Nat.le_of_ble_eq_true rfl, Nat.le_of_ble_eq_true rfl, rfl, Nat.le_of_ble_eq_true rfl⟩ (fun v5 g5 m5 hp => ?_)
  obtain ⟨hv, hg, hm⟩ := hp
  subst v5
  subst g5
  subst m5
  rw [hR.plc c rfl]
  refine r_iconst (v := (-1)) hX dX7_exists_8 (by decide) ?_
  refine r_icmp_eq (tgt := 16) hX dX7_exists_9 (by decide) (fun c9 => ?_) (fun c9 => ?_)
  · have eR : qEx O c = (0, 0, O) := by
      unfold qEx
      rcases hq : plV O.1.1 c with _ | i
      · rfl
      · rw [hq] at c9
        exact absurd c9 (slotI_ne i (by have := plV_lt hq; have := hw.len; omega))
    refine r_iconst (v := 0) hX dX7_exists_16 (by decide) ?_
    exact r_zret hX dX7_exists_17 rfl (by rw [eR]; exact hO.same) ⟨Nat.le_of_ble_eq_true rfl, Nat.le_of_ble_eq_true rfl⟩
  · have eR : qEx O c = (0, 1, O) := by
      unfold qEx
      rcases hq : plV O.1.1 c with _ | i
      · rw [hq] at c9
        exact absurd rfl c9
      · rfl
    refine r_iconst (v := 1) hX dX7_exists_12 (by decide) ?_
    refine r_goto (tgt := 17) hX dX7_exists_13 (by decide) ?_
    exact r_zret hX dX7_exists_17 rfl (by rw [eR]; exact hO.same) ⟨Nat.le_of_ble_eq_true rfl, Nat.le_of_ble_eq_true rfl⟩
set_option maxRecDepth 20000 in
set_option maxHeartbeats 4000000 in
theorem s_X7_period (E : qE) (g : qG) (m : qM) (x : Nat) (O : kO) (hO : ObsV g m x O) (u : Nat) (hw : WfO u O) (hu : u ≤ 6144) (c : Int32) : SpX E yX7_period cX7_period 2 (some .int) 9 1 6 [.ref x, .int c] g m (pO x g m (qOf O c (fun c => c 1))) (pX x g m ["java/util/NoSuchElementException"] (qOf O c (fun c => c 1))) := by
  refine SpX.of (by decide) [some (.ref x), some (.int c)] rfl rfl (Nat.le_of_ble_eq_true rfl) (fun X hX => ?_)
  obtain ⟨b0, ⟨S, ⟨hs, ad, hr, hV⟩, hR⟩, b2, b3, b4, b5, b6, b7⟩ := id hO
  have hC : ∀ i k, i < O.1.1.length → i < 6 → k < 5 → qI m (ad i) k = nI (cAt O.1.1 i k) := fun i k h1 h6 h2 => (hV.2.1 i k h6 h2).trans (hR.2.2.1 i k h1 h2)
  refine r_aload_n hX dX7_period_0 rfl ?_
  refine r_iload_n hX dX7_period_1 rfl ?_
  refine r_callVX hX dX7_period_2 (s_X7_existing E g m x c O S ad b0 hs hr hV hR hw.len) ml_X7_89 mk_X7_89 rfl rfl b0.1 rfl ⟨Nat.le_of_ble_eq_true rfl, Nat.le_of_ble_eq_true rfl⟩ ⟨Nat.le_of_ble_eq_true rfl, Nat.le_of_ble_eq_true rfl, rfl, Nat.le_of_ble_eq_true rfl⟩ (fun v2 g2 m2 hp => ?_) (fun nm gx mx hp => ?_)
  rotate_left
  · obtain ⟨hnone, rfl, ⟨n9, hn9, rfl⟩, rfl⟩ := hp
    exact r_out hX ⟨⟨0, congrArg Prod.fst (qOf_n hnone), rfl⟩, by rw [qOf_n hnone]; exact hO, (FrP.rf _ _ _).up hn9⟩ ⟨Nat.le_of_ble_eq_true rfl, Nat.le_of_ble_eq_true rfl⟩
  obtain ⟨i, hi, hv, hg, hm⟩ := hp
  subst v2
  subst g2
  subst m2
  have hil := (plV_lt hi).1
  have hi6 := hw.len
  refine r_getI hX dX7_period_5 (adAt hs hr (by omega)) fl_X7_110 ?_
  rw [hC i 1 hil (by omega) (by decide)]
  exact r_x (r_iret hX dX7_period_8 (by rw [qOf_s hi]; exact hO.same) ⟨Nat.le_of_ble_eq_true rfl, Nat.le_of_ble_eq_true rfl⟩)
set_option maxRecDepth 20000 in
set_option maxHeartbeats 4000000 in
theorem s_X7_brightness (E : qE) (g : qG) (m : qM) (x : Nat) (O : kO) (hO : ObsV g m x O) (u : Nat) (hw : WfO u O) (hu : u ≤ 6144) (c : Int32) : SpX E yX7_brightness cX7_brightness 2 (some .int) 9 1 6 [.ref x, .int c] g m (pO x g m (qOf O c (fun c => c 2))) (pX x g m ["java/util/NoSuchElementException"] (qOf O c (fun c => c 2))) := by
  refine SpX.of (by decide) [some (.ref x), some (.int c)] rfl rfl (Nat.le_of_ble_eq_true rfl) (fun X hX => ?_)
  obtain ⟨b0, ⟨S, ⟨hs, ad, hr, hV⟩, hR⟩, b2, b3, b4, b5, b6, b7⟩ := id hO
  have hC : ∀ i k, i < O.1.1.length → i < 6 → k < 5 → qI m (ad i) k = nI (cAt O.1.1 i k) := fun i k h1 h6 h2 => (hV.2.1 i k h6 h2).trans (hR.2.2.1 i k h1 h2)
  refine r_aload_n hX dX7_brightness_0 rfl ?_
  refine r_iload_n hX dX7_brightness_1 rfl ?_
  refine r_callVX hX dX7_brightness_2 (s_X7_existing E g m x c O S ad b0 hs hr hV hR hw.len) ml_X7_89 mk_X7_89 rfl rfl b0.1 rfl ⟨Nat.le_of_ble_eq_true rfl, Nat.le_of_ble_eq_true rfl⟩ ⟨Nat.le_of_ble_eq_true rfl, Nat.le_of_ble_eq_true rfl, rfl, Nat.le_of_ble_eq_true rfl⟩ (fun v2 g2 m2 hp => ?_) (fun nm gx mx hp => ?_)
  rotate_left
  · obtain ⟨hnone, rfl, ⟨n9, hn9, rfl⟩, rfl⟩ := hp
    exact r_out hX ⟨⟨0, congrArg Prod.fst (qOf_n hnone), rfl⟩, by rw [qOf_n hnone]; exact hO, (FrP.rf _ _ _).up hn9⟩ ⟨Nat.le_of_ble_eq_true rfl, Nat.le_of_ble_eq_true rfl⟩
  obtain ⟨i, hi, hv, hg, hm⟩ := hp
  subst v2
  subst g2
  subst m2
  have hil := (plV_lt hi).1
  have hi6 := hw.len
  refine r_getI hX dX7_brightness_5 (adAt hs hr (by omega)) fl_X7_135 ?_
  rw [hC i 2 hil (by omega) (by decide)]
  exact r_x (r_iret hX dX7_brightness_8 (by rw [qOf_s hi]; exact hO.same) ⟨Nat.le_of_ble_eq_true rfl, Nat.le_of_ble_eq_true rfl⟩)
set_option maxRecDepth 20000 in
set_option maxHeartbeats 4000000 in
theorem s_X7_nextPass (E : qE) (g : qG) (m : qM) (x : Nat) (O : kO) (hO : ObsV g m x O) (u : Nat) (hw : WfO u O) (hu : u ≤ 6144) (c : Int32) : SpX E yX7_nextPass cX7_nextPass 2 (some .int) 9 1 6 [.ref x, .int c] g m (pO x g m (qOf O c (fun c => c 3))) (pX x g m ["java/util/NoSuchElementException"] (qOf O c (fun c => c 3))) := by
  refine SpX.of (by decide) [some (.ref x), some (.int c)] rfl rfl (Nat.le_of_ble_eq_true rfl) (fun X hX => ?_)
  obtain ⟨b0, ⟨S, ⟨hs, ad, hr, hV⟩, hR⟩, b2, b3, b4, b5, b6, b7⟩ := id hO
  have hC : ∀ i k, i < O.1.1.length → i < 6 → k < 5 → qI m (ad i) k = nI (cAt O.1.1 i k) := fun i k h1 h6 h2 => (hV.2.1 i k h6 h2).trans (hR.2.2.1 i k h1 h2)
  refine r_aload_n hX dX7_nextPass_0 rfl ?_
  refine r_iload_n hX dX7_nextPass_1 rfl ?_
  refine r_callVX hX dX7_nextPass_2 (s_X7_existing E g m x c O S ad b0 hs hr hV hR hw.len) ml_X7_89 mk_X7_89 rfl rfl b0.1 rfl ⟨Nat.le_of_ble_eq_true rfl, Nat.le_of_ble_eq_true rfl⟩ ⟨Nat.le_of_ble_eq_true rfl, Nat.le_of_ble_eq_true rfl, rfl, Nat.le_of_ble_eq_true rfl⟩ (fun v2 g2 m2 hp => ?_) (fun nm gx mx hp => ?_)
  rotate_left
  · obtain ⟨hnone, rfl, ⟨n9, hn9, rfl⟩, rfl⟩ := hp
    exact r_out hX ⟨⟨0, congrArg Prod.fst (qOf_n hnone), rfl⟩, by rw [qOf_n hnone]; exact hO, (FrP.rf _ _ _).up hn9⟩ ⟨Nat.le_of_ble_eq_true rfl, Nat.le_of_ble_eq_true rfl⟩
  obtain ⟨i, hi, hv, hg, hm⟩ := hp
  subst v2
  subst g2
  subst m2
  have hil := (plV_lt hi).1
  have hi6 := hw.len
  refine r_getI hX dX7_nextPass_5 (adAt hs hr (by omega)) fl_X7_191 ?_
  rw [hC i 3 hil (by omega) (by decide)]
  exact r_x (r_iret hX dX7_nextPass_8 (by rw [qOf_s hi]; exact hO.same) ⟨Nat.le_of_ble_eq_true rfl, Nat.le_of_ble_eq_true rfl⟩)
set_option maxRecDepth 20000 in
set_option maxHeartbeats 4000000 in
theorem s_X7_tail (E : qE) (g : qG) (m : qM) (x : Nat) (O : kO) (hO : ObsV g m x O) (u : Nat) (hw : WfO u O) (hu : u ≤ 6144) (c : Int32) : SpX E yX7_tail cX7_tail 2 (some .int) 9 1 6 [.ref x, .int c] g m (pO x g m (qOf O c (fun c => 1 + c 2 / 5))) (pX x g m ["java/util/NoSuchElementException"] (qOf O c (fun c => 1 + c 2 / 5))) := by
  refine SpX.of (by decide) [some (.ref x), some (.int c)] rfl rfl (Nat.le_of_ble_eq_true rfl) (fun X hX => ?_)
  obtain ⟨b0, ⟨S, ⟨hs, ad, hr, hV⟩, hR⟩, b2, b3, b4, b5, b6, b7⟩ := id hO
  have hC : ∀ i k, i < O.1.1.length → i < 6 → k < 5 → qI m (ad i) k = nI (cAt O.1.1 i k) := fun i k h1 h6 h2 => (hV.2.1 i k h6 h2).trans (hR.2.2.1 i k h1 h2)
  refine r_aload_n hX dX7_tail_0 rfl ?_
  refine r_iload_n hX dX7_tail_1 rfl ?_
  refine r_callVX hX dX7_tail_2 (s_X7_existing E g m x c O S ad b0 hs hr hV hR hw.len) ml_X7_89 mk_X7_89 rfl rfl b0.1 rfl ⟨Nat.le_of_ble_eq_true rfl, Nat.le_of_ble_eq_true rfl⟩ ⟨Nat.le_of_ble_eq_true rfl, Nat.le_of_ble_eq_true rfl, rfl, Nat.le_of_ble_eq_true rfl⟩ (fun v2 g2 m2 hp => ?_) (fun nm gx mx hp => ?_)
  rotate_left
  · obtain ⟨hnone, rfl, ⟨n9, hn9, rfl⟩, rfl⟩ := hp
    exact r_out hX ⟨⟨0, congrArg Prod.fst (qOf_n hnone), rfl⟩, by rw [qOf_n hnone]; exact hO, (FrP.rf _ _ _).up hn9⟩ ⟨Nat.le_of_ble_eq_true rfl, Nat.le_of_ble_eq_true rfl⟩
  obtain ⟨i, hi, hv, hg, hm⟩ := hp
  subst v2
  subst g2
  subst m2
  have hil := (plV_lt hi).1
  have hi6 := hw.len
  refine r_getI hX dX7_tail_5 (adAt hs hr (by omega)) fl_X7_135 ?_
  rw [hC i 2 hil (by omega) (by decide)]
  refine r_callS hX dX7_tail_8 (s_X7_tailAt E g m (nI (cAt O.1.1 i 2))) ml_X7_188 rfl rfl ⟨Nat.le_of_ble_eq_true rfl, Nat.le_of_ble_eq_true rfl⟩ ⟨Nat.le_of_ble_eq_true rfl, Nat.le_of_ble_eq_true rfl, rfl, Nat.le_of_ble_eq_true rfl⟩ (fun v8 g8 m8 hp => ?_)
  obtain ⟨hv, hg, hm⟩ := hp
  subst v8
  subst g8
  subst m8
  rw [show (1 : Int32) + nI (cAt O.1.1 i 2) / 5 = nI (1 + cAt O.1.1 i 2 / 5) by have := hw.com hu hil; rw [show nI (cAt O.1.1 i 2) / (5 : Int32) = nI (cAt O.1.1 i 2 / 5) from pk_div (d := 5) (by omega) (by decide) (by decide)]; exact nI_add 1 _]
  exact r_x (r_iret hX dX7_tail_11 (by rw [qOf_s hi]; exact hO.same) ⟨Nat.le_of_ble_eq_true rfl, Nat.le_of_ble_eq_true rfl⟩)
set_option maxRecDepth 20000 in
set_option maxHeartbeats 4000000 in
theorem s_X7_lastPass (E : qE) (g : qG) (m : qM) (x : Nat) (O : kO) (hO : ObsV g m x O) (u : Nat) (hw : WfO u O) (hu : u ≤ 6144) (c : Int32) : SpX E yX7_lastPass cX7_lastPass 3 (some .int) 9 1 6 [.ref x, .int c] g m (pO x g m (qOf O c (fun c => c 3 + (c 2 - 1) * c 1))) (pX x g m ["java/util/NoSuchElementException"] (qOf O c (fun c => c 3 + (c 2 - 1) * c 1))) := by
  refine SpX.of (by decide) [some (.ref x), some (.int c), none] rfl rfl (Nat.le_of_ble_eq_true rfl) (fun X hX => ?_)
  obtain ⟨b0, ⟨S, ⟨hs, ad, hr, hV⟩, hR⟩, b2, b3, b4, b5, b6, b7⟩ := id hO
  have hC : ∀ i k, i < O.1.1.length → i < 6 → k < 5 → qI m (ad i) k = nI (cAt O.1.1 i k) := fun i k h1 h6 h2 => (hV.2.1 i k h6 h2).trans (hR.2.2.1 i k h1 h2)
  refine r_aload_n hX dX7_lastPass_0 rfl ?_
  refine r_iload_n hX dX7_lastPass_1 rfl ?_
  refine r_callVX hX dX7_lastPass_2 (s_X7_existing E g m x c O S ad b0 hs hr hV hR hw.len) ml_X7_89 mk_X7_89 rfl rfl b0.1 rfl ⟨Nat.le_of_ble_eq_true rfl, Nat.le_of_ble_eq_true rfl⟩ ⟨Nat.le_of_ble_eq_true rfl, Nat.le_of_ble_eq_true rfl, rfl, Nat.le_of_ble_eq_true rfl⟩ (fun v2 g2 m2 hp => ?_) (fun nm gx mx hp => ?_)
  rotate_left
  · obtain ⟨hnone, rfl, ⟨n9, hn9, rfl⟩, rfl⟩ := hp
    exact r_out hX ⟨⟨0, congrArg Prod.fst (qOf_n hnone), rfl⟩, by rw [qOf_n hnone]; exact hO, (FrP.rf _ _ _).up hn9⟩ ⟨Nat.le_of_ble_eq_true rfl, Nat.le_of_ble_eq_true rfl⟩
  obtain ⟨i, hi, hv, hg, hm⟩ := hp
  subst v2
  subst g2
  subst m2
  have hil := (plV_lt hi).1
  have hi6 := hw.len
  refine r_astore_n hX dX7_lastPass_5 (Nat.le_of_ble_eq_true rfl) rfl ?_
  refine r_aload_n hX dX7_lastPass_6 rfl ?_
  refine r_getI hX dX7_lastPass_7 (adAt hs hr (by omega)) fl_X7_191 ?_
  rw [hC i 3 hil (by omega) (by decide)]
  refine r_aload_n hX dX7_lastPass_10 rfl ?_
  refine r_getI hX dX7_lastPass_11 (adAt hs hr (by omega)) fl_X7_135 ?_
  rw [hC i 2 hil (by omega) (by decide)]
  refine r_iconst (v := 1) hX dX7_lastPass_14 (by decide) ?_
  refine r_isub hX dX7_lastPass_15 ?_
  rw [show nI (cAt O.1.1 i 2) - (1 : Int32) = nI (cAt O.1.1 i 2 - 1) from pk_sub (b := 1) (by have := hw.com hu hil; omega)]
  refine r_aload_n hX dX7_lastPass_16 rfl ?_
  refine r_getI hX dX7_lastPass_17 (adAt hs hr (by omega)) fl_X7_110 ?_
  rw [hC i 1 hil (by omega) (by decide)]
  refine r_imul hX dX7_lastPass_20 ?_
  rw [pk_mul]
  refine r_iadd hX dX7_lastPass_21 ?_
  rw [nI_add]
  exact r_x (r_iret hX dX7_lastPass_22 (by rw [qOf_s hi]; exact hO.same) ⟨Nat.le_of_ble_eq_true rfl, Nat.le_of_ble_eq_true rfl⟩)
set_option maxRecDepth 20000 in
set_option maxHeartbeats 4000000 in
theorem s_X7_passesIn (E : qE) (g : qG) (m : qM) (x : Nat) (O : kO) (hO : ObsV g m x O) (u : Nat) (hw : WfO u O) (hu : u ≤ 6144) (d : Int32) : SpX E yX7_passesIn cX7_passesIn 2 (some .int) 8 1 6 [.ref x, .int d] g m (pO x g m (qIn O d)) (pX x g m ["java/lang/IllegalArgumentException"] (qIn O d)) := by
  refine SpX.of (by decide) [some (.ref x), some (.int d)] rfl rfl (Nat.le_of_ble_eq_true rfl) (fun X hX => ?_)
  obtain ⟨b0, ⟨S, ⟨hs, ad, hr, hV⟩, hR⟩, b2, b3, b4, b5, b6, b7⟩ := id hO
  refine r_iload_n hX dX7_passesIn_0 rfl ?_
  refine r_callS hX dX7_passesIn_1 (s_X7_isSpanToLookAt E g m d) ml_X7_202 rfl rfl ⟨Nat.le_of_ble_eq_true rfl, Nat.le_of_ble_eq_true rfl⟩ ⟨Nat.le_of_ble_eq_true rfl, Nat.le_of_ble_eq_true rfl, rfl, Nat.le_of_ble_eq_true rfl⟩ (fun v1 g1 m1 hp => ?_)
  obtain ⟨hv, hg, hm⟩ := hp
  subst v1
  subst g1
  subst m1
  refine r_if_ne (tgt := 17) hX dX7_passesIn_4 (by decide) (fun c4 => ?_) (fun c4 => ?_)
  · have hrg : rng d 0 60 := Classical.byContradiction (fun h => c4 (by rw [if_neg h]))
    obtain ⟨e, -, he, rfl, hcl⟩ := rng_to hrg (by decide) (by decide)
    refine r_aload_n hX dX7_passesIn_17 rfl ?_
    refine r_getR hX dX7_passesIn_18 b0.1 fl_X7_10 b0.2.1.1 ?_
    refine r_iload_n hX dX7_passesIn_21 rfl ?_
    refine r_callV hX dX7_passesIn_22 (s_X5_passesAhead E g m (x + 1) (nI e) S ⟨hs, ad, hr, hV⟩ O.1.1.length ⟨hR.1, hw.len⟩) ml_X7_205 rfl rfl hs.1 rfl ⟨Nat.le_of_ble_eq_true rfl, Nat.le_of_ble_eq_true rfl⟩ ⟨Nat.le_of_ble_eq_true rfl, Nat.le_of_ble_eq_true rfl, rfl, Nat.le_of_ble_eq_true rfl⟩ (fun v22 g22 m22 hp => ?_)
    obtain ⟨hv, hg, hm⟩ := hp
    subst v22
    subst g22
    subst m22
    rw [pAh_V hw hu hR he _ (Nat.le_refl _)]
    exact r_x (r_iret hX dX7_passesIn_25 (by rw [show qIn O (nI e) = (0, nI (pAhV O.1.1 (O.1.2.1 2 + e) O.1.1.length), O) from by unfold qIn; rw [if_pos hrg, hcl]]; exact hO.same) ⟨Nat.le_of_ble_eq_true rfl, Nat.le_of_ble_eq_true rfl⟩)
  · have eR : qIn O d = (1, 0, O) := if_neg (fun h => absurd c4 (by rw [if_pos h]; decide))
    exact r_throwS hX dX7_passesIn_7 dX7_passesIn_10 dX7_passesIn_11 dX7_passesIn_13 dX7_passesIn_16 th_IllegalArgument_141 ⟨Nat.le_of_ble_eq_true rfl, rfl, Nat.le_of_ble_eq_true rfl⟩ ⟨Nat.le_of_ble_eq_true rfl, Nat.le_of_ble_eq_true rfl⟩ (fun n hn => by rw [eR]; exact hO.thr hn rfl)
set_option maxRecDepth 20000 in
set_option maxHeartbeats 4000000 in
theorem s_X7_dust (E : qE) (g : qG) (m : qM) (x : Nat) (O : kO) (hO : ObsV g m x O) (u : Nat) (hw : WfO u O) (hu : u ≤ 6144) (p : Int32) : SpX E yX7_dust cX7_dust 2 (some .int) 8 1 6 [.ref x, .int p] g m (pO x g m (qDust O p)) (pX x g m ["java/lang/IndexOutOfBoundsException"] (qDust O p)) := by
  refine SpX.of (by decide) [some (.ref x), some (.int p)] rfl rfl (Nat.le_of_ble_eq_true rfl) (fun X hX => ?_)
  obtain ⟨b0, ⟨S, ⟨hs, ad, hr, hV⟩, hR⟩, b2, b3, b4, b5, b6, b7⟩ := id hO
  have hD : ∀ j, j < 12 → qI m (x + 1 + 9) j = nI (O.1.2.2 j) := fun j hj => (hV.2.2.1 j hj).trans (hR.2.2.2.1 j hj)
  refine r_iload_n hX dX7_dust_0 rfl ?_
  refine r_callS hX dX7_dust_1 (s_X7_isPlace E g m p) ml_X7_147 rfl rfl ⟨Nat.le_of_ble_eq_true rfl, Nat.le_of_ble_eq_true rfl⟩ ⟨Nat.le_of_ble_eq_true rfl, Nat.le_of_ble_eq_true rfl, rfl, Nat.le_of_ble_eq_true rfl⟩ (fun v1 g1 m1 hp => ?_)
  obtain ⟨hv, hg, hm⟩ := hp
  subst v1
  subst g1
  subst m1
  refine r_if_ne (tgt := 17) hX dX7_dust_4 (by decide) (fun c4 => ?_) (fun c4 => ?_)
  · have hrg : rng p 0 11 := Classical.byContradiction (fun h => c4 (by rw [if_neg h]))
    obtain ⟨e, -, he, rfl, hcl⟩ := rng_to hrg (by decide) (by decide)
    refine r_aload_n hX dX7_dust_17 rfl ?_
    refine r_getR hX dX7_dust_18 b0.1 fl_X7_10 b0.2.1.1 ?_
    refine r_getR hX dX7_dust_21 hs.1 fl_X7_249 hr.2.1 ?_
    refine r_getR hX dX7_dust_24 hs.2.2.2.1 fl_X7_253 hr.2.2.1 ?_
    refine r_iload_n hX dX7_dust_27 rfl ?_
    refine r_ialoadN hX dX7_dust_28 hs.2.2.2.2 (show e < 12 by omega) (by decide) ?_
    rw [hD e (by omega)]
    exact r_x (r_iret hX dX7_dust_29 (by rw [show qDust O (nI e) = (0, nI (O.1.2.2 e), O) from by unfold qDust; rw [if_pos hrg, hcl]]; exact hO.same) ⟨Nat.le_of_ble_eq_true rfl, Nat.le_of_ble_eq_true rfl⟩)
  · have eR : qDust O p = (1, 0, O) := if_neg (fun h => absurd c4 (by rw [if_pos h]; decide))
    exact r_throwS hX dX7_dust_7 dX7_dust_10 dX7_dust_11 dX7_dust_13 dX7_dust_16 th_IndexOutOfBounds_152 ⟨Nat.le_of_ble_eq_true rfl, rfl, Nat.le_of_ble_eq_true rfl⟩ ⟨Nat.le_of_ble_eq_true rfl, Nat.le_of_ble_eq_true rfl⟩ (fun n hn => by rw [eR]; exact hO.thr hn rfl)
set_option maxRecDepth 20000 in
set_option maxHeartbeats 4000000 in
theorem s_X7_gain (E : qE) (g : qG) (m : qM) (x : Nat) (O : kO) (hO : ObsV g m x O) (u : Nat) (hw : WfO u O) (hu : u ≤ 6144) (a n : Int32) : SpX E yX7_gain cX7_gain 3 (some .int) 8 1 6 [.ref x, .int a, .int n] g m (pO x g m (qGain O a n)) (pX x g m ["java/lang/IndexOutOfBoundsException", "java/lang/IllegalArgumentException"] (qGain O a n)) := by
  refine SpX.of (by decide) [some (.ref x), some (.int a), some (.int n)] rfl rfl (Nat.le_of_ble_eq_true rfl) (fun X hX => ?_)
  obtain ⟨b0, ⟨S, ⟨hs, ad, hr, hV⟩, hR⟩, b2, b3, b4, b5, b6, b7⟩ := id hO
  have hD : ∀ j, j < 12 → qI m (x + 1 + 9) j = nI (O.1.2.2 j) := fun j hj => (hV.2.2.1 j hj).trans (hR.2.2.2.1 j hj)
  have hH : ∀ k, 1 ≤ k → k < 7 → qI m (x + 1) (k + 2) = nI (O.1.2.1 k) := fun k h1 h2 => (hV.1 k h2).trans (hR.2.1 k h1 h2)
  refine r_iload_n hX dX7_gain_0 rfl ?_
  refine r_callS hX dX7_gain_1 (s_X7_isPlace E g m a) ml_X7_147 rfl rfl ⟨Nat.le_of_ble_eq_true rfl, Nat.le_of_ble_eq_true rfl⟩ ⟨Nat.le_of_ble_eq_true rfl, Nat.le_of_ble_eq_true rfl, rfl, Nat.le_of_ble_eq_true rfl⟩ (fun v1 g1 m1 hp => ?_)
  obtain ⟨hv, hg, hm⟩ := hp
  subst v1
  subst g1
  subst m1
  refine r_if_ne (tgt := 17) hX dX7_gain_4 (by decide) (fun c4 => ?_) (fun c4 => ?_)
  · have hr1 : rng a 0 11 := Classical.byContradiction (fun h => c4 (by rw [if_neg h]))
    refine r_iload_n hX dX7_gain_17 rfl ?_
    refine r_callS hX dX7_gain_18 (s_X7_isLengthOfArc E g m n) ml_X7_155 rfl rfl ⟨Nat.le_of_ble_eq_true rfl, Nat.le_of_ble_eq_true rfl⟩ ⟨Nat.le_of_ble_eq_true rfl, Nat.le_of_ble_eq_true rfl, rfl, Nat.le_of_ble_eq_true rfl⟩ (fun v18 g18 m18 hp => ?_)
    obtain ⟨hv, hg, hm⟩ := hp
    subst v18
    subst g18
    subst m18
    refine r_if_ne (tgt := 34) hX dX7_gain_21 (by decide) (fun c21 => ?_) (fun c21 => ?_)
    · have hr2 : rng n 1 12 := Classical.byContradiction (fun h => c21 (by rw [if_neg h]))
      obtain ⟨e, -, he, rfl, hcl⟩ := rng_to hr1 (by decide) (by decide)
      obtain ⟨k, hk1, hk, rfl, hcl2⟩ := rng_to hr2 (by decide) (by decide)
      refine r_aload_n hX dX7_gain_34 rfl ?_
      refine r_getR hX dX7_gain_35 b0.1 fl_X7_10 b0.2.1.1 ?_
      refine r_getR hX dX7_gain_38 hs.1 fl_X7_249 hr.2.1 ?_
      refine r_iload_n hX dX7_gain_41 rfl ?_
      refine r_iload_n hX dX7_gain_42 rfl ?_
      refine r_aload_n hX dX7_gain_43 rfl ?_
      refine r_getR hX dX7_gain_44 b0.1 fl_X7_10 b0.2.1.1 ?_
      refine r_getI hX dX7_gain_47 hs.1 fl_X7_173 ?_
      rw [hH 4 (by decide) (by decide)]
      refine r_callV hX dX7_gain_50 (s_X4_gainOf E g m (x + 1 + 8) (x + 1 + 9) e k (nI (O.1.2.1 4)) (SkyR.ring hs hr) (by omega) (by omega)) ml_X7_258 rfl rfl hs.2.2.2.1 rfl ⟨Nat.le_of_ble_eq_true rfl, Nat.le_of_ble_eq_true rfl⟩ ⟨Nat.le_of_ble_eq_true rfl, Nat.le_of_ble_eq_true rfl, rfl, Nat.le_of_ble_eq_true rfl⟩ (fun v50 g50 m50 hp => ?_)
      obtain ⟨hv, hg, hm⟩ := hp
      subst v50
      subst g50
      subst m50
      rw [ds_nI hD, pk_mul]
      exact r_x (r_iret hX dX7_gain_53 (by rw [show qGain O (nI e) (nI k) = (0, nI (ds O.1.2.2 e k) - nI (O.1.2.1 4 * k), O) from by unfold qGain; rw [if_pos hr1, if_pos hr2, hcl, hcl2]]; exact hO.same) ⟨Nat.le_of_ble_eq_true rfl, Nat.le_of_ble_eq_true rfl⟩)
    · have eR : qGain O a n = (2, 0, O) := by unfold qGain; rw [if_pos hr1, if_neg (fun h => absurd c21 (by rw [if_pos h]; decide))]
      exact r_throwS hX dX7_gain_24 dX7_gain_27 dX7_gain_28 dX7_gain_30 dX7_gain_33 th_IllegalArgument_158 ⟨Nat.le_of_ble_eq_true rfl, rfl, Nat.le_of_ble_eq_true rfl⟩ ⟨Nat.le_of_ble_eq_true rfl, Nat.le_of_ble_eq_true rfl⟩ (fun n hn => by rw [eR]; exact hO.thr hn rfl)
  · have eR : qGain O a n = (1, 0, O) := if_neg (fun h => absurd c4 (by rw [if_pos h]; decide))
    exact r_throwS hX dX7_gain_7 dX7_gain_10 dX7_gain_11 dX7_gain_13 dX7_gain_16 th_IndexOutOfBounds_152 ⟨Nat.le_of_ble_eq_true rfl, rfl, Nat.le_of_ble_eq_true rfl⟩ ⟨Nat.le_of_ble_eq_true rfl, Nat.le_of_ble_eq_true rfl⟩ (fun n hn => by rw [eR]; exact hO.thr hn rfl)
set_option maxRecDepth 20000 in
set_option maxHeartbeats 4000000 in
theorem s_X7_dustTotal (E : qE) (g : qG) (m : qM) (x : Nat) (O : kO) (hO : ObsV g m x O) (u : Nat) (hw : WfO u O) (hu : u ≤ 6144) : Sp E yX7_dustTotal cX7_dustTotal 1 (some .int) 2 0 0 [.ref x] g m (pO x g m (qTot O)) := by
  refine Sp.of (by decide) [some (.ref x)] rfl rfl (Nat.le_of_ble_eq_true rfl) (fun X hX => ?_)
  obtain ⟨b0, ⟨S, ⟨hs, ad, hr, hV⟩, hR⟩, b2, b3, b4, b5, b6, b7⟩ := id hO
  have hD : ∀ j, j < 12 → qI m (x + 1 + 9) j = nI (O.1.2.2 j) := fun j hj => (hV.2.2.1 j hj).trans (hR.2.2.2.1 j hj)
  refine r_aload_n hX dX7_dustTotal_0 rfl ?_
  refine r_getR hX dX7_dustTotal_1 b0.1 fl_X7_10 b0.2.1.1 ?_
  refine r_getR hX dX7_dustTotal_4 hs.1 fl_X7_249 hr.2.1 ?_
  refine r_iconst (v := 0) hX dX7_dustTotal_7 (by decide) ?_
  refine r_bipush (v := 12) hX dX7_dustTotal_8 (by decide) ?_
  refine r_callV hX dX7_dustTotal_10 (s_X4_dustOf E g m (x + 1 + 8) (x + 1 + 9) 0 12 (SkyR.ring hs hr) (by decide) (by decide)) ml_X7_279 rfl rfl hs.2.2.2.1 rfl ⟨Nat.le_of_ble_eq_true rfl, Nat.le_of_ble_eq_true rfl⟩ ⟨Nat.le_of_ble_eq_true rfl, Nat.le_of_ble_eq_true rfl, rfl, Nat.le_of_ble_eq_true rfl⟩ (fun v10 g10 m10 hp => ?_)
  obtain ⟨hv, hg, hm⟩ := hp
  subst v10
  subst g10
  subst m10
  rw [ds_nI hD]
  exact r_iret hX dX7_dustTotal_13 hO.same ⟨Nat.le_of_ble_eq_true rfl, Nat.le_of_ble_eq_true rfl⟩
set_option maxRecDepth 20000 in
set_option maxHeartbeats 4000000 in
theorem s_X7_dustByAccounts (E : qE) (g : qG) (m : qM) (x : Nat) (O : kO) (hO : ObsV g m x O) (u : Nat) (hw : WfO u O) (hu : u ≤ 6144) : Sp E yX7_dustByAccounts cX7_dustByAccounts 1 (some .int) 0 0 0 [.ref x] g m (pO x g m (qTot O)) := by
  refine Sp.of (by decide) [some (.ref x)] rfl rfl (Nat.le_of_ble_eq_true rfl) (fun X hX => ?_)
  obtain ⟨b0, ⟨S, ⟨hs, ad, hr, hV⟩, hR⟩, b2, b3, b4, b5, b6, b7⟩ := id hO
  refine r_aload_n hX dX7_dustByAccounts_0 rfl ?_
  refine r_getR hX dX7_dustByAccounts_1 b0.1 fl_X7_10 b0.2.1.1 ?_
  refine r_getR hX dX7_dustByAccounts_4 hs.1 fl_X7_249 hr.2.1 ?_
  refine r_getI hX dX7_dustByAccounts_7 hs.2.2.2.1 fl_X7_282 ?_
  rw [hV.2.2.2.1]
  refine r_aload_n hX dX7_dustByAccounts_10 rfl ?_
  refine r_getR hX dX7_dustByAccounts_11 b0.1 fl_X7_10 b0.2.1.1 ?_
  refine r_getR hX dX7_dustByAccounts_14 hs.1 fl_X7_249 hr.2.1 ?_
  refine r_getI hX dX7_dustByAccounts_17 hs.2.2.2.1 fl_X7_285 ?_
  rw [hV.2.2.2.2]
  refine r_isub hX dX7_dustByAccounts_20 ?_
  rw [show S.2.2.2.1 - S.2.2.2.2 = nI (ds O.1.2.2 0 12) by rw [hR.2.2.2.2, Int32.add_comm, Int32.add_sub_cancel]]
  exact r_iret hX dX7_dustByAccounts_21 hO.same ⟨Nat.le_of_ble_eq_true rfl, Nat.le_of_ble_eq_true rfl⟩
