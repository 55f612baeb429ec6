/-! ===== CometObservatory: undo, save, restore, the text, the line ===== -/
def undoO (O : kO) : kR := match O.2.2.1 with
  | [] => (1, 0, O)
  | V :: l => (0, nI l.length, V, O.2.1, l, O.2.2.2)
def saveO (O : kO) : kR := (0, 0, O.1, some O.1, O.2.2)
def restO (O : kO) : kR := match O.2.1 with
  | none => (1, 0, O)
  | some V => (0, 0, V, some V, [], O.2.2.2)
def appO (O : kO) (e : Nat) : kR := if oTn O < 60 then (0, nI (oTn O + 1), O.1, O.2.1, O.2.2.1, oEr O, oFa O, (fun j => if j = oTn O then e else oTx O j), oTn O + 1, oLn O) else (1, 0, O)
def qErr (O : kO) : kR := match oEr O with
  | none => (1, 0, O)
  | some n => (0, nI n, O)
def qFail (O : kO) : kR := match oFa O with
  | none => (1, 0, O)
  | some n => (0, nI n, O)
def qOut (O : kO) (i : Int32) : kR := if inN i (oLn O).length then (0, nI ((oLn O).getD i.toNatClampNeg 0), O) else (1, 0, O)
/-- a comet's line -/
def cLine (c : Nat → Nat) : List Nat := ((((((([] ++ decL (c 0)) ++ [42]) ++ decL (c 2)) ++ [47]) ++ decL (c 1)) ++ [64]) ++ decL (c 3))
def rLine (f : Nat → Nat) : Nat → List Nat
  | 0 => []
  | k + 1 => (if 0 < k then rLine f k ++ [44] else rLine f k) ++ decL (f k)
def setLn (O : kO) (l : List Nat) : kO := (O.1, O.2.1, O.2.2.1, oEr O, oFa O, oTx O, oTn O, l)
def wcO (O : kO) (c : Int32) : kR := match plV O.1.1 c with
  | none => (1, 0, O)
  | some i => (0, nI (cLine (cAt O.1.1 i)).length, setLn O (cLine (cAt O.1.1 i)))
def wrO (O : kO) : kR := (0, nI (rLine O.1.2.2 12).length, setLn O (rLine O.1.2.2 12))
/-- a call that answers nothing -/
def pV (x : Nat) (g : qG) (m : qM) (R : kR) : Option Value → qG → qM → Prop := fun v g' m' => R.1 = 0 ∧ v = none ∧ ObsV g' m' x R.2.2 ∧ FrP (fun a => x ≤ a ∧ a < x + 137) g m g' m'
theorem outP_wI {P : Nat → Prop} {m : qM} {a k : Nat} {v : Int32} (ha : P a) : OutP P m (wI m a k v) := (OutP.rf P m).wI ha
theorem RepH.nil (T : kH) : RepH (T.1, T.2.1, 0) [] := ⟨rfl, fun i V h => by simp at h⟩
theorem HisIs.size0 {g : qG} {m : qM} {h : Nat} {T : kH} (hh : HisIs g m h T) : HisIs g (wI m h 2 (nI 0)) h (T.1, T.2.1, 0) := by
  obtain ⟨h1, h2, h3, h4, h5, h6, h7, h8⟩ := hh
  exact ⟨h1, h2, h3, fun i hi => ⟨(h4 i hi).1, (h4 i hi).2.outP (outP_wI (P := fun a => a = h) rfl) (by omega)⟩, (qI_wI_k _ _ _ _ (by decide)).trans h5, qI_wI_s _ _ _ _, h7, Nat.zero_le 8⟩
theorem frp_I {P : Nat → Prop} {g g' : qG} {m m' : qM} (h : FrP P g m g' m') {a : Nat} {sh : qSh} (ha : gAt g a sh) (hl : a < g.2) (hp : ¬ P a) (hn : ∀ n, sh ≠ .inr (2, n)) (j : Nat) : qI m' a j = qI m a j ∧ qR m' a j = qR m a j := by
  have h9 := h.2.2 a hl hp (fun n e => hn n (Option.some.inj (ha.symm.trans e)))
  exact ⟨congrFun h9.1 j, congrFun h9.2.1 j⟩
theorem r_widen {E : qE} {X : qX} {cN sN cN' sN' : Nat} {Q : State → Prop} {g : qG} {m : qM} {pc : Nat} {l : List (Option Value)} {st : List Value} (h1 : cN ≤ cN') (h2 : sN ≤ sN') (kk : WS E X cN' sN' Q g m pc l st) : WS E X cN sN Q g m pc l st := fun H locs ls a b c => W.widen h1 h2 (kk H locs ls a b c)
theorem SkyIs.sameA {g g' : qG} {m m' : qM} {q : Nat} {S : kS} (h : SkyIs g m q S) (hg : ∀ a, q ≤ a → a < q + 10 → g'.1 a = g.1 a) (hs : ∀ a, q ≤ a → a < q + 10 → SameA m m' a) : SkyIs g' m' q S := by
  obtain ⟨⟨a1, a2, a3, a4, a5⟩, ad, ⟨r1, r2, r3, r4, r5, r6⟩, h1, h2, h3, h4, h5⟩ := h
  have eg : ∀ a sh, q ≤ a → a < q + 10 → gAt g a sh → gAt g' a sh := fun a sh b1 b2 b3 => (hg a b1 b2).trans b3
  have e : ∀ a j, q ≤ a → a < q + 10 → qI m' a j = qI m a j ∧ qR m' a j = qR m a j := fun a j b1 b2 => ⟨congrFun (hs a b1 b2).1 j, congrFun (hs a b1 b2).2.1 j⟩
  refine ⟨⟨eg _ _ (by omega) (by omega) a1, eg _ _ (by omega) (by omega) a2, fun i hi => eg _ _ (by omega) (by omega) (a3 i hi), eg _ _ (by omega) (by omega) a4, eg _ _ (by omega) (by omega) a5⟩, ad, ⟨?_, ?_, ?_, fun i hi => ?_, r5, r6⟩, fun k hk => ?_, fun i k hi hk => ?_, fun j hj => ?_, ?_, ?_⟩
  · rw [(e q 0 (by omega) (by omega)).2]; exact r1
  · rw [(e q 1 (by omega) (by omega)).2]; exact r2
  · rw [(e (q + 8) 0 (by omega) (by omega)).2]; exact r3
  · rw [(e (q + 1) i (by omega) (by omega)).2]; exact r4 i hi
  · rw [(e q (k + 2) (by omega) (by omega)).1]; exact h1 k hk
  · have := r5 i hi
    rw [(e (ad i) k (by omega) (by omega)).1]; exact h2 i k hi hk
  · rw [(e (q + 9) j (by omega) (by omega)).1]; exact h3 j hj
  · rw [(e (q + 8) 1 (by omega) (by omega)).1]; exact h4
  · rw [(e (q + 8) 2 (by omega) (by omega)).1]; exact h5
/-- nothing but the line is changed -/
theorem ObsV.line {g g' : qG} {m m' : qM} {x : Nat} {O : kO} (h : ObsV g m x O) (hk : ∀ a sh, gAt g a sh → a < g.2) (hF : FrP (fun a => a = x + 136) g m g' m') {l : List Nat} (hB : SbIs g' m' (x + 136) l) : ObsV g' m' x (setLn O l) ∧ FrP (fun a => x ≤ a ∧ a < x + 137) g m g' m' := by
  have hlt : x + 136 < g.2 := hk _ _ h.2.2.2.2.2.2.2.choose_spec.choose_spec.1.1
  have hg : ∀ a, x ≤ a → a < x + 136 → g'.1 a = g.1 a := fun a a1 a2 => hF.2.1 a (by omega)
  have hs : ∀ a, x ≤ a → a < x + 136 → SameA m m' a := fun a a1 a2 => hF.2.2 a (by omega) (by omega) (fun n => h.n2 a1 a2)
  have e : ∀ a j, x ≤ a → a < x + 136 → qI m' a j = qI m a j ∧ qR m' a j = qR m a j := fun a j b1 b2 => ⟨congrFun (hs a b1 b2).1 j, congrFun (hs a b1 b2).2.1 j⟩
  have eg : ∀ a sh, x ≤ a → a < x + 136 → gAt g a sh → gAt g' a sh := fun a sh b1 b2 b3 => (hg a b1 b2).trans b3
  obtain ⟨⟨c1, ⟨a0, a1, a2, a3, a4, a5, a6⟩, c2, c3, c4⟩, ⟨S, b1, hR⟩, ⟨S1, b2, hR1⟩, ⟨S2, b3⟩, ⟨T, ⟨d1, d2, d3, d4, d5, d6, d7, d8⟩, hTl⟩, ⟨⟨t0, t1, t2, t3, t4, t5, t6⟩, u0, u1, u2, u3, u4, u5⟩, ⟨⟨⟨p0, p1, p2, p3, p4⟩, w0, w1, w2, w3⟩, p5, p6⟩, b7⟩ := h
  refine ⟨⟨⟨eg _ _ (by omega) (by omega) c1, ⟨(e _ _ (by omega) (by omega)).2.trans a0, (e _ _ (by omega) (by omega)).2.trans a1, (e _ _ (by omega) (by omega)).2.trans a2, (e _ _ (by omega) (by omega)).2.trans a3, (e _ _ (by omega) (by omega)).2.trans a4, (e _ _ (by omega) (by omega)).2.trans a5, (e _ _ (by omega) (by omega)).2.trans a6⟩, (e _ _ (by omega) (by omega)).1.trans c2, (e _ _ (by omega) (by omega)).1.trans c3, (e _ _ (by omega) (by omega)).1.trans c4⟩,
    ⟨S, b1.sameA (fun a z1 z2 => hg a (by omega) (by omega)) (fun a z1 z2 => hs a (by omega) (by omega)), hR⟩, ⟨S1, b2.sameA (fun a z1 z2 => hg a (by omega) (by omega)) (fun a z1 z2 => hs a (by omega) (by omega)), hR1⟩, ⟨S2, b3.sameA (fun a z1 z2 => hg a (by omega) (by omega)) (fun a z1 z2 => hs a (by omega) (by omega))⟩,
    ⟨T, ⟨eg _ _ (by omega) (by omega) d1, (e _ _ (by omega) (by omega)).2.trans d2, eg _ _ (by omega) (by omega) d3, fun i hi => ⟨(e _ _ (by omega) (by omega)).2.trans (d4 i hi).1, (d4 i hi).2.sameA (fun a z1 z2 => hg a (by omega) (by omega)) (fun a z1 z2 => hs a (by omega) (by omega))⟩, (e _ _ (by omega) (by omega)).1.trans d5, (e _ _ (by omega) (by omega)).1.trans d6, d7, d8⟩, hTl⟩,
    ⟨⟨eg _ _ (by omega) (by omega) t0, eg _ _ (by omega) (by omega) t1, eg _ _ (by omega) (by omega) t2, eg _ _ (by omega) (by omega) t3, eg _ _ (by omega) (by omega) t4, eg _ _ (by omega) (by omega) t5, eg _ _ (by omega) (by omega) t6⟩, (e _ _ (by omega) (by omega)).2.trans u0, (e _ _ (by omega) (by omega)).2.trans u1, (e _ _ (by omega) (by omega)).2.trans u2, (e _ _ (by omega) (by omega)).2.trans u3, (e _ _ (by omega) (by omega)).2.trans u4, (e _ _ (by omega) (by omega)).2.trans u5⟩,
    ⟨⟨⟨eg _ _ (by omega) (by omega) p0, eg _ _ (by omega) (by omega) p1, eg _ _ (by omega) (by omega) p2, eg _ _ (by omega) (by omega) p3, fun i hi => eg _ _ (by omega) (by omega) (p4 i hi)⟩, (e _ _ (by omega) (by omega)).2.trans w0, (e _ _ (by omega) (by omega)).2.trans w1, (e _ _ (by omega) (by omega)).2.trans w2, fun i hi => (e _ _ (by omega) (by omega)).2.trans (w3 i hi)⟩, (e _ _ (by omega) (by omega)).1.trans p5, fun j => (e _ _ (by omega) (by omega)).1.trans (p6 j)⟩, hB⟩, hF.mono (by omega)⟩
set_option maxRecDepth 20000 in
set_option maxHeartbeats 4000000 in
theorem s_X7_outputAt (E : qE) (g : qG) (m : qM) (x : Nat) (O : kO) (hO : ObsV g m x O) (u : Nat) (hw : WfO u O) (hu : u ≤ 6144) (i : Int32) : SpX E yX7_outputAt cX7_outputAt 2 (some .char) 8 1 6 [.ref x, .int i] g m (pO x g m (qOut O i)) (pX x g m ["java/lang/IndexOutOfBoundsException"] (qOut O i)) := by
  refine SpX.of (by decide) [some (.ref x), some (.int i)] rfl rfl (Nat.le_of_ble_eq_true rfl) (fun X hX => ?_)
  obtain ⟨b0, ⟨S, ⟨hs, ad, hr, hV⟩, hR⟩, b2, b3, ⟨T, hT, hTl⟩, b5, b6, b7⟩ := id hO
  refine r_iload_n hX dX7_outputAt_0 rfl ?_
  refine r_if_lt (tgt := 15) hX dX7_outputAt_1 (by decide) (fun c1 => ?_) (fun c1 => ?_)
  · have eR : qOut O i = (1, 0, O) := if_neg (fun h => absurd c1 (Int32.not_lt.mpr h.1))
    exact r_throwSW hX dX7_outputAt_15 dX7_outputAt_18 dX7_outputAt_19 dX7_outputAt_22 dX7_outputAt_25 th_IndexOutOfBounds_374 ⟨Nat.le_of_ble_eq_true rfl, rfl, Nat.le_of_ble_eq_true rfl⟩ ⟨Nat.le_of_ble_eq_true rfl, Nat.le_of_ble_eq_true rfl⟩ (fun n hn => by rw [eR]; exact hO.thr hn rfl)
  · refine r_iload_n hX dX7_outputAt_4 rfl ?_
    refine r_aload_n hX dX7_outputAt_5 rfl ?_
    refine r_getR hX dX7_outputAt_6 b0.1 fl_X7_46 b0.2.1.2.2.2.2.2.2 ?_
    refine r_callV hX dX7_outputAt_9 (s_J4_length E g m (x + 136) (oLn O) b7) ml_X7_372 rfl rfl b7.choose_spec.choose_spec.1.1 rfl ⟨Nat.le_of_ble_eq_true rfl, Nat.le_of_ble_eq_true rfl⟩ ⟨Nat.le_of_ble_eq_true rfl, Nat.le_of_ble_eq_true rfl, rfl, Nat.le_of_ble_eq_true rfl⟩ (fun v9 g9 m9 hp => ?_)
    obtain ⟨hv, hg, hm⟩ := hp
    subst v9
    subst g9
    subst m9
    refine r_icmp_lt (tgt := 26) hX dX7_outputAt_12 (by decide) (fun c12 => ?_) (fun c12 => ?_)
    · have hin : inN i (oLn O).length := ⟨Int32.not_lt.mp c1, c12⟩
      obtain ⟨j, hj, rfl⟩ := nI_of c1
      have h110 := hw.2.2.2.2.2.2.1
      have hjl : j < (oLn O).length := (nI_ltI hj (by omega)).mp c12
      have hcl : (nI j).toNatClampNeg = j := nI_clamp hj
      have hch : (oLn O).getD j 0 < 128 := by
        rw [List.getD_eq_getElem?_getD, List.getElem?_eq_getElem hjl]
        exact hw.2.2.2.2.2.2.2.1 _ (List.getElem_mem hjl)
      refine r_aload_n hX dX7_outputAt_26 rfl ?_
      refine r_getR hX dX7_outputAt_27 b0.1 fl_X7_46 b0.2.1.2.2.2.2.2.2 ?_
      refine r_iload_n hX dX7_outputAt_30 rfl ?_
      refine r_callV hX dX7_outputAt_31 (s_J4_charAt E g m (x + 136) (oLn O) b7 j hjl) ml_X7_376 rfl rfl b7.choose_spec.choose_spec.1.1 rfl ⟨Nat.le_of_ble_eq_true rfl, Nat.le_of_ble_eq_true rfl⟩ ⟨Nat.le_of_ble_eq_true rfl, Nat.le_of_ble_eq_true rfl, rfl, Nat.le_of_ble_eq_true rfl⟩ (fun v31 g31 m31 hp => ?_)
      obtain ⟨hv, hg, hm⟩ := hp
      subst v31
      subst g31
      subst m31
      exact r_x (r_zret hX dX7_outputAt_34 (narC hch) (by rw [show qOut O (nI j) = (0, nI ((oLn O).getD j 0), O) from by unfold qOut; rw [if_pos hin, hcl]]; exact hO.same) ⟨Nat.le_of_ble_eq_true rfl, Nat.le_of_ble_eq_true rfl⟩)
    · have eR : qOut O i = (1, 0, O) := if_neg (fun h => c12 h.2)
      exact r_throwSW hX dX7_outputAt_15 dX7_outputAt_18 dX7_outputAt_19 dX7_outputAt_22 dX7_outputAt_25 th_IndexOutOfBounds_374 ⟨Nat.le_of_ble_eq_true rfl, rfl, Nat.le_of_ble_eq_true rfl⟩ ⟨Nat.le_of_ble_eq_true rfl, Nat.le_of_ble_eq_true rfl⟩ (fun n hn => by rw [eR]; exact hO.thr hn rfl)
