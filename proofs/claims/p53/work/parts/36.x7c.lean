/-! ===== CometObservatory: the telescope, the best arc, meetings, means ===== -/
theorem OutP.ofI {P : Nat → Prop} {m m' : qM} (h : ∀ a j, ¬ P a → qI m' a j = qI m a j) (h2 : m'.2 = m.2) : OutP P m m' := ⟨fun a j ha => ⟨h a j ha, congrFun (congrFun (congrArg Prod.fst h2) a) j⟩, congrArg Prod.snd h2⟩
theorem ObsV.telw {g : qG} {m m' : qM} {x : Nat} {O : kO} (h : ObsV g m x O) (ho : OutP (fun a => x + 113 ≤ a ∧ a < x + 120) m m') (h2 : m'.2 = m.2) : ObsV g m' x O ∧ FrP (fun a => x ≤ a ∧ a < x + 137) g m g m' := by
  have hn := fun (a n : Nat) (hP : x + 113 ≤ a ∧ a < x + 120) => h.n2 (a := a) (n := n) (by omega) (by omega)
  obtain ⟨b0, b1, b2, ⟨S2, b3⟩, b4, b5, b6, b7⟩ := h
  exact ⟨⟨b0.out ho (by omega), b1.out ho (by omega), b2.out ho (by omega), ⟨S2, b3.outP ho (by omega)⟩, b4.out ho (by omega), b5.to h2, b6.out ho (by omega), b7.outP ho (by omega) hn⟩, FrP.of ho (by omega)⟩
/-- the passes that the telescope can follow in D days -/
def telU (V : kV) (D : Nat) : kU := aimA D (fun i => (cAt V.1 i 1, cAt V.1 i 2, cAt V.1 i 3 - V.2.1 2)) V.1.length
def qWor (O : kO) (d : Int32) : kR := if rng d 0 60 then (0, nI (wbp (telU O.1 d.toNatClampNeg).1 (telU O.1 d.toNatClampNeg).2 (telU O.1 d.toNatClampNeg).2), O) else (1, 0, O)
def qWoD (O : kO) (d : Int32) : kR := if rng d 0 60 then (0, nI (plD (telU O.1 d.toNatClampNeg).1 (telU O.1 d.toNatClampNeg).2 d.toNatClampNeg d.toNatClampNeg 1).1, O) else (1, 0, O)
def qFew (O : kO) (d : Int32) : kR := if rng d 0 60 then (0, nI (plD (telU O.1 d.toNatClampNeg).1 (telU O.1 d.toNatClampNeg).2 d.toNatClampNeg d.toNatClampNeg 1).2, O) else (1, 0, O)
theorem telU_ok {u : Nat} {O : kO} (h : WfO u O) (hu : u ≤ 6144) (D : Nat) : okU D (telU O.1 D) := aimA_ok (n := O.1.1.length) (fun i hi => by
  obtain ⟨a1, a2, a3, a4, a5, a6, a7, a8⟩ := h.com hu hi
  exact ⟨a4, by show 1 ≤ cAt O.1.1 i 3 - O.1.2.1 2; omega⟩) _ (Nat.le_refl _)
/-! the best arc -/
def gN (f : Nat → Nat) (r a n : Nat) : Int32 := nI (ds f a n) - nI (r * n)
def arcV (f : Nat → Nat) (r : Nat) : Nat → Nat × Nat
  | 0 => (0, 1)
  | k + 1 => if gN f r (k % 12) (k / 12 + 1) ≤ gN f r (arcV f r k).1 (arcV f r k).2 then arcV f r k else (k % 12, k / 12 + 1)
theorem bst_V {F : Nat → Int32} {f : Nat → Nat} (h : ∀ j, j < 12 → F j = nI (f j)) (r : Nat) : ∀ k, bst F (nI r) k = (gN f r (arcV f r k).1 (arcV f r k).2, arcV f r k)
  | 0 => by
    rw [bst_0, ds_nI h, pk_mul]
    rfl
  | k + 1 => by
    have e : arcV f r (k + 1) = if gN f r (k % 12) (k / 12 + 1) ≤ gN f r (arcV f r k).1 (arcV f r k).2 then arcV f r k else (k % 12, k / 12 + 1) := rfl
    have e2 : nI (ds f (k % 12) (k / 12 + 1)) - nI (r * (k / 12 + 1)) = gN f r (k % 12) (k / 12 + 1) := rfl
    rw [bst_s, bst_V h r k, ds_nI h, pk_mul, e, e2]
    by_cases h1 : gN f r (k % 12) (k / 12 + 1) ≤ gN f r (arcV f r k).1 (arcV f r k).2
    · rw [if_pos h1, if_pos h1]
    · rw [if_neg h1, if_neg h1]
theorem bst_V1 {F : Nat → Int32} {f : Nat → Nat} (h : ∀ j, j < 12 → F j = nI (f j)) (r k : Nat) : (bst F (nI r) k).1 = gN f r (arcV f r k).1 (arcV f r k).2 := by rw [bst_V h]
theorem bst_V2 {F : Nat → Int32} {f : Nat → Nat} (h : ∀ j, j < 12 → F j = nI (f j)) (r k : Nat) : (bst F (nI r) k).2 = arcV f r k := by rw [bst_V h]
theorem SkyIs.ring {g : qG} {m m' : qM} {q : Nat} {S : kS} (h : SkyIs g m q S) (h1 : ∀ c j, ¬ (c = q + 8 ∧ 3 ≤ j ∧ j ≤ 5) → qI m' c j = qI m c j) (h2 : m'.2 = m.2) : SkyIs g m' q S := by
  obtain ⟨hs, ad, hr, a1, a2, a3, a4, a5⟩ := h
  exact ⟨hs, ad, hr.to h2, fun k hk => (h1 _ _ (by omega)).trans (a1 k hk), fun i k hi hk => (h1 _ _ (by have := hr.2.2.2.2.1 i hi; omega)).trans (a2 i k hi hk), fun j hj => (h1 _ _ (by omega)).trans (a3 j hj), (h1 _ _ (by omega)).trans a4, (h1 _ _ (by omega)).trans a5⟩
theorem ObsV.ring {g : qG} {m m' : qM} {x : Nat} {O : kO} (h : ObsV g m x O) (h1 : ∀ c j, ¬ (c = x + 1 + 8 ∧ 3 ≤ j ∧ j ≤ 5) → qI m' c j = qI m c j) (h2 : m'.2 = m.2) : ObsV g m' x O ∧ FrP (fun a => x ≤ a ∧ a < x + 137) g m g m' := by
  have ho : OutP (fun a => a = x + 1 + 8) m m' := OutP.ofI (fun a j ha => h1 a j (fun q => ha q.1)) h2
  have hn := fun (a n : Nat) (hP : a = x + 1 + 8) => h.n2 (a := a) (n := n) (by omega) (by omega)
  obtain ⟨b0, ⟨S, b1, hR⟩, b2, ⟨S2, b3⟩, b4, b5, b6, b7⟩ := h
  exact ⟨⟨b0.out ho (by omega), ⟨S, b1.ring h1 h2, hR⟩, b2.out ho (by omega), ⟨S2, b3.outP ho (by omega)⟩, b4.out ho (by omega), b5.out ho (by omega), b6.out ho (by omega), b7.outP ho (by omega) hn⟩, FrP.of ho (by omega)⟩
def qArcP (O : kO) : Nat × Nat := arcV O.1.2.2 (O.1.2.1 4) n144
def qArc (O : kO) (r : Int32) : kR := (0, r, O)
def qKad (O : kO) : kR := (0, kadane (fun j => nI (O.1.2.2 j)) (nI (O.1.2.1 4)), O)
theorem kad_congr {F G : Nat → Int32} (h : ∀ j, j < 12 → F j = G j) (r : Int32) : ∀ n, n ≤ 11 → kad F r n = kad G r n
  | 0, _ => by unfold kad; rw [h 0 (by decide)]
  | n + 1, hn => by unfold kad; rw [h (n + 1) (by omega), kad_congr h r n (by omega)]
theorem kadane_congr {F G : Nat → Int32} (h : ∀ j, j < 12 → F j = G j) (r : Int32) : kadane F r = kadane G r := by
  unfold kadane
  rw [kad_congr h r 11 (Nat.le_refl _)]
/-! meetings, means -/
def qMeet (mt : Int32 → Int32 → Int32 → Int32 → Int32) (O : kO) (a b : Int32) : kR := match plV O.1.1 a, plV O.1.1 b with
  | some i, some j => if a = b then (2, 0, O) else if mt (nI (cAt O.1.1 i 1)) (nI (cAt O.1.1 i 3)) (nI (cAt O.1.1 j 1)) (nI (cAt O.1.1 j 3)) = -1 then (3, 0, O) else (0, mt (nI (cAt O.1.1 i 1)) (nI (cAt O.1.1 i 3)) (nI (cAt O.1.1 j 1)) (nI (cAt O.1.1 j 3)), O)
  | _, _ => (1, 0, O)
theorem qMeet_a {mt : Int32 → Int32 → Int32 → Int32 → Int32} {O : kO} {a b : Int32} (h : plV O.1.1 a = none) : qMeet mt O a b = (1, 0, O) := by unfold qMeet; rw [h]
theorem qMeet_b {mt : Int32 → Int32 → Int32 → Int32 → Int32} {O : kO} {a b : Int32} (h : plV O.1.1 b = none) : qMeet mt O a b = (1, 0, O) := by
  unfold qMeet
  rw [h]
  cases plV O.1.1 a <;> rfl
theorem qMeet_s {mt : Int32 → Int32 → Int32 → Int32 → Int32} {O : kO} {a b : Int32} {i j : Nat} (h : plV O.1.1 a = some i) (h2 : plV O.1.1 b = some j) : qMeet mt O a b = if a = b then (2, 0, O) else if mt (nI (cAt O.1.1 i 1)) (nI (cAt O.1.1 i 3)) (nI (cAt O.1.1 j 1)) (nI (cAt O.1.1 j 3)) = -1 then (3, 0, O) else (0, mt (nI (cAt O.1.1 i 1)) (nI (cAt O.1.1 i 3)) (nI (cAt O.1.1 j 1)) (nI (cAt O.1.1 j 3)), O) := by unfold qMeet; rw [h, h2]
/-- an answer of another type -/
def pW (x : Nat) (g : qG) (m : qM) (R : Nat × Value × kO) : Option Value → qG → qM → Prop := fun v g' m' => R.1 = 0 ∧ v = some R.2.1 ∧ ObsV g' m' x R.2.2 ∧ FrP (fun a => x ≤ a ∧ a < x + 137) g m g' m'
def pWX (x : Nat) (g : qG) (m : qM) (ns : List String) (R : Nat × Value × kO) : String → qG → qM → Prop := fun nm g' m' => (∃ k, R.1 = k + 1 ∧ ns[k]? = some nm) ∧ ObsV g' m' x R.2.2 ∧ FrP (fun a => x ≤ a ∧ a < x + 137) g m g' m'
theorem ObsV.sameW {g : qG} {m : qM} {x : Nat} {O : kO} (h : ObsV g m x O) {r : Value} : pW x g m (0, r, O) (some r) g m := ⟨rfl, rfl, h, FrP.rf _ g m⟩
theorem ObsV.thrW {g : qG} {m : qM} {x : Nat} {O : kO} (h : ObsV g m x O) {ns : List String} {k n : Nat} {r : Value} {nm : String} (hn : g.2 ≤ n) (hk : ns[k]? = some nm) : pWX x g m ns (k + 1, r, O) nm (g.1, n) m := ⟨⟨k, rfl, hk⟩, h, (FrP.rf _ g m).up hn⟩
/-- the least common multiple of the first periods -/
def alC (L : List (Nat → Nat)) : Nat → Int64
  | 0 => 1
  | i + 1 => lcmL (alC L i) (nI (cAt L i 1)).toInt64
def qAli (O : kO) : Nat × Value × kO := if O.1.1.length = 0 then (1, .null, O) else (0, .long (alC O.1.1 O.1.1.length), O)
def suB (L : List (Nat → Nat)) : Nat → Nat
  | 0 => 0
  | i + 1 => suB L i + cAt L i 2
def qMea (O : kO) : Nat × Value × kO := if O.1.1.length = 0 then (1, .null, O) else (0, .double (FP.ddiv (FP.i2d (nI (suB O.1.1 O.1.1.length))) (FP.i2d (nI O.1.1.length))), O)
def dusV (f : Nat → Nat) : Nat → Nat
  | 0 => 0
  | n + 1 => if 0 < f n then dusV f n + 1 else dusV f n
theorem dusV_le (f : Nat → Nat) : ∀ n, dusV f n ≤ n
  | 0 => Nat.le_refl 0
  | n + 1 => by have := dusV_le f n; unfold dusV; split <;> omega
def qSha (O : kO) : Nat × Value × kO := (0, .float (FP.fdiv (FP.i2f (nI (dusV O.1.2.2 12))) 1094713344), O)
theorem suB_le {u : Nat} {O : kO} (h : WfO u O) (hu : u ≤ 6144) : ∀ n, n ≤ O.1.1.length → suB O.1.1 n ≤ 20 * n
  | 0, _ => Nat.le_refl 0
  | n + 1, hn => by
    have := suB_le h hu n (by omega)
    have := (h.com hu (i := n) (by omega)).2.2.2.1
    unfold suB
    omega
def nb64 (s n : Nat) : Bool := decide (FP.ddiv (FP.i2d (nI s)) (FP.i2d (nI n)) &&& 0x7fffffffffffffff ≤ 0x7ff0000000000000)
theorem nb64_all : (List.range 121).all (fun s => (List.range 6).all (fun n => nb64 s (n + 1))) = true := by decide +kernel
theorem n64_mean {s n : Nat} (hs : s < 121) (h1 : 1 ≤ n) (h6 : n ≤ 6) : vf_n64 (FP.ddiv (FP.i2d (nI s)) (FP.i2d (nI n))) := by
  have h := List.all_eq_true.mp nb64_all s (List.mem_range.mpr hs)
  have h2 := List.all_eq_true.mp h (n - 1) (List.mem_range.mpr (by omega))
  rw [show n - 1 + 1 = n by omega] at h2
  unfold vf_n64
  unfold nb64 at h2
  exact of_decide_eq_true h2
def nb32 (s : Nat) : Bool := decide (FP.fdiv (FP.i2f (nI s)) 1094713344 &&& 0x7fffffff ≤ 0x7f800000)
theorem nb32_all : (List.range 13).all (fun s => nb32 s) = true := by decide +kernel
theorem n32_share {s : Nat} (hs : s < 13) : vf_n32 (FP.fdiv (FP.i2f (nI s)) 1094713344) := by
  have h2 := List.all_eq_true.mp nb32_all s (List.mem_range.mpr hs)
  unfold vf_n32
  unfold nb32 at h2
  exact of_decide_eq_true h2
theorem r_ldcWF {E : qE} {y : MethodName} {cc : ByteArray} {nL : Nat} {ret : Option FieldType} {k mc ms : Nat} {tab : List ExceptionTableEntry} {X : qX} {cN sN : Nat} {Q : State → Prop} {g : qG} {m : qM} {pc : Nat} {l : List (Option Value)} {st : List Value} (hX : MC E y cc nL ret k mc ms tab X) {idx : Nat} {v : UInt32} (d : decode cc pc = .ok (.ldc_w idx, 3)) (hw : InT (.constantFloat y.cls idx v)) (kk : WS E X cN sN Q g m (pc + 3) l (.float v :: st)) : WS E X cN sN Q g m pc l st := by
  intro H locs ls h1 h2 h3 T hT Z
  obtain ⟨t, a, b⟩ := kk H locs ls h1 h2 h3 T hT Z
  refine ⟨t, ?_, b⟩
  obtain ⟨k9, cf, hk, hcf, hcp⟩ := Cond.constantFloat_spec hX.own (hX.w hw (xA X))
  obtain ⟨k', hk', he⟩ := Z.warmed.alike.2.2 _ _ hk
  have hd : decode (xC X).code pc = .ok (.ldc_w idx, 3) := by rw [hX.b]; exact d
  jvm_step Z.here [hX.x, hd, ldc_w.wp_float (s := T) (f := F0 (xM X) pc ls st) Z.here.top hk' (by rw [he]; exact hcf) hcp]
  exact a
set_option maxRecDepth 20000 in
set_option maxHeartbeats 4000000 in
theorem s_X7_bestWorth (E : qE) (g : qG) (m : qM) (x : Nat) (O : kO) (hO : ObsV g m x O) (u : Nat) (hw : WfO u O) (hu : u ≤ 6144) (d : Int32) : SpX E yX7_bestWorth cX7_bestWorth 2 (some .int) 8 1 6 [.ref x, .int d] g m (pO x g m (qWor O d)) (pX x g m ["java/lang/IllegalArgumentException"] (qWor O d)) := by
  refine SpX.of (by decide) [some (.ref x), some (.int d)] rfl rfl (Nat.le_of_ble_eq_true rfl) (fun X hX => ?_)
  obtain ⟨b0, ⟨S, ⟨hs, ad, hr, hV⟩, hR⟩, b2, b3, b4, b5, b6, b7⟩ := id hO
  refine r_iload_n hX dX7_bestWorth_0 rfl ?_
  refine r_callS hX dX7_bestWorth_1 (s_X7_isSpanToLookAt E g m d) ml_X7_202 rfl rfl ⟨Nat.le_of_ble_eq_true rfl, Nat.le_of_ble_eq_true rfl⟩ ⟨Nat.le_of_ble_eq_true rfl, Nat.le_of_ble_eq_true rfl, rfl, Nat.le_of_ble_eq_true rfl⟩ (fun v1 g1 m1 hp => ?_)
  obtain ⟨hv, hg, hm⟩ := hp
  subst v1
  subst g1
  subst m1
  refine r_if_ne (tgt := 17) hX dX7_bestWorth_4 (by decide) (fun c4 => ?_) (fun c4 => ?_)
  · have hrg : rng d 0 60 := Classical.byContradiction (fun h => c4 (by rw [if_neg h]))
    obtain ⟨D, -, hD60, rfl, hcl⟩ := rng_to hrg (by decide) (by decide)
    have hday := hw.day hu
    refine r_aload_n hX dX7_bestWorth_17 rfl ?_
    refine r_getR hX dX7_bestWorth_18 b0.1 fl_X7_32 b0.2.1.2.2.2.2.1 ?_
    refine r_aload_n hX dX7_bestWorth_21 rfl ?_
    refine r_getR hX dX7_bestWorth_22 b0.1 fl_X7_10 b0.2.1.1 ?_
    refine r_iload_n hX dX7_bestWorth_25 rfl ?_
    refine r_callV hX dX7_bestWorth_26 (s_X6_aim E g m (x + 113) (x + 1) D O.1.1.length S (fun i => (cAt O.1.1 i 1, cAt O.1.1 i 2, cAt O.1.1 i 3 - O.1.2.1 2)) b5 ⟨hs, ad, hr, hV⟩ ⟨hR.1, hw.len⟩ hD60 (by omega) (fun i hi => ⟨hR.2.2.1 i 1 hi (by decide), hR.2.2.1 i 2 hi (by decide), by rw [hR.2.2.1 i 3 hi (by decide), hR.2.1 2 (by decide) (by decide)]; exact pk_sub (by have := hw.com hu hi; omega)⟩) (fun i hi => by
    obtain ⟨a1, a2, a3, a4, a5, a6, a7, a8⟩ := hw.com hu hi
    exact ⟨a2, a4, by show 1 ≤ cAt O.1.1 i 3 - O.1.2.1 2; omega, by show cAt O.1.1 i 3 - O.1.2.1 2 < _; omega⟩)) ml_X7_230 rfl rfl b5.1.1 rfl ⟨Nat.le_of_ble_eq_true rfl, Nat.le_of_ble_eq_true rfl⟩ ⟨Nat.le_of_ble_eq_true rfl, Nat.le_of_ble_eq_true rfl, rfl, Nat.le_of_ble_eq_true rfl⟩ (fun v26 g26 m26 hp => ?_)
    obtain ⟨hv, hg, hT, hm2, hOt⟩ := hp
    subst v26
    subst g26
    have hok : okU D (telU O.1 D) := telU_ok hw hu D
    have b5' : TelS g m26 (x + 113) := b5.to hm2
    have b0' : ObH g m26 x O := b0.out (OutP.of hOt) (by omega)
    have hT : TelT m26 (x + 113) (telU O.1 D).1 (telU O.1 D).2 := hT
    refine r_aload_n hX dX7_bestWorth_29 rfl ?_
    refine r_getR hX dX7_bestWorth_30 b0'.1 fl_X7_32 b0'.2.1.2.2.2.2.1 ?_
    refine r_callV hX dX7_bestWorth_33 (s_X6_wbp E g m26 (x + 113) (telU O.1 D).2 (telU O.1 D).1 b5' hT (fun i hi => by have := hok i hi; omega)) ml_X7_234 rfl rfl b5'.1.1 rfl ⟨Nat.le_of_ble_eq_true rfl, Nat.le_of_ble_eq_true rfl⟩ ⟨Nat.le_of_ble_eq_true rfl, Nat.le_of_ble_eq_true rfl, rfl, Nat.le_of_ble_eq_true rfl⟩ (fun v33 g33 m33 hp => ?_)
    obtain ⟨hv, hg, hq, hm3⟩ := hp
    subst v33
    subst g33
    have ho : OutP (fun a => x + 113 ≤ a ∧ a < x + 120) m m33 := OutP.tr ((OutP.of hOt).mono (by omega)) (OutP.ofI (fun a j ha => hq a j (by omega)) hm3)
    obtain ⟨hO2, hF⟩ := hO.telw ho (hm3.trans hm2)
    have eR : qWor O (nI D) = (0, nI (wbp (telU O.1 D).1 (telU O.1 D).2 (telU O.1 D).2), O) := by unfold qWor; rw [if_pos hrg, hcl]
    exact r_x (r_iret hX dX7_bestWorth_36 (by rw [eR]; exact ⟨rfl, rfl, hO2, hF⟩) ⟨Nat.le_of_ble_eq_true rfl, Nat.le_of_ble_eq_true rfl⟩)
  · have eR : qWor O d = (1, 0, O) := if_neg (fun h => absurd c4 (by rw [if_pos h]; decide))
    exact r_throwS hX dX7_bestWorth_7 dX7_bestWorth_10 dX7_bestWorth_11 dX7_bestWorth_13 dX7_bestWorth_16 th_IllegalArgument_141 ⟨Nat.le_of_ble_eq_true rfl, rfl, Nat.le_of_ble_eq_true rfl⟩ ⟨Nat.le_of_ble_eq_true rfl, Nat.le_of_ble_eq_true rfl⟩ (fun n hn => by rw [eR]; exact hO.thr hn rfl)
set_option maxRecDepth 20000 in
set_option maxHeartbeats 4000000 in
theorem s_X7_bestWorthByDays (E : qE) (g : qG) (m : qM) (x : Nat) (O : kO) (hO : ObsV g m x O) (u : Nat) (hw : WfO u O) (hu : u ≤ 6144) (d : Int32) : SpX E yX7_bestWorthByDays cX7_bestWorthByDays 2 (some .int) 8 1 6 [.ref x, .int d] g m (pO x g m (qWoD O d)) (pX x g m ["java/lang/IllegalArgumentException"] (qWoD O d)) := by
  refine SpX.of (by decide) [some (.ref x), some (.int d)] rfl rfl (Nat.le_of_ble_eq_true rfl) (fun X hX => ?_)
  obtain ⟨b0, ⟨S, ⟨hs, ad, hr, hV⟩, hR⟩, b2, b3, b4, b5, b6, b7⟩ := id hO
  refine r_iload_n hX dX7_bestWorthByDays_0 rfl ?_
  refine r_callS hX dX7_bestWorthByDays_1 (s_X7_isSpanToLookAt E g m d) ml_X7_202 rfl rfl ⟨Nat.le_of_ble_eq_true rfl, Nat.le_of_ble_eq_true rfl⟩ ⟨Nat.le_of_ble_eq_true rfl, Nat.le_of_ble_eq_true rfl, rfl, Nat.le_of_ble_eq_true rfl⟩ (fun v1 g1 m1 hp => ?_)
  obtain ⟨hv, hg, hm⟩ := hp
  subst v1
  subst g1
  subst m1
  refine r_if_ne (tgt := 17) hX dX7_bestWorthByDays_4 (by decide) (fun c4 => ?_) (fun c4 => ?_)
  · have hrg : rng d 0 60 := Classical.byContradiction (fun h => c4 (by rw [if_neg h]))
    obtain ⟨D, -, hD60, rfl, hcl⟩ := rng_to hrg (by decide) (by decide)
    have hday := hw.day hu
    refine r_aload_n hX dX7_bestWorthByDays_17 rfl ?_
    refine r_getR hX dX7_bestWorthByDays_18 b0.1 fl_X7_32 b0.2.1.2.2.2.2.1 ?_
    refine r_aload_n hX dX7_bestWorthByDays_21 rfl ?_
    refine r_getR hX dX7_bestWorthByDays_22 b0.1 fl_X7_10 b0.2.1.1 ?_
    refine r_iload_n hX dX7_bestWorthByDays_25 rfl ?_
    refine r_callV hX dX7_bestWorthByDays_26 (s_X6_aim E g m (x + 113) (x + 1) D O.1.1.length S (fun i => (cAt O.1.1 i 1, cAt O.1.1 i 2, cAt O.1.1 i 3 - O.1.2.1 2)) b5 ⟨hs, ad, hr, hV⟩ ⟨hR.1, hw.len⟩ hD60 (by omega) (fun i hi => ⟨hR.2.2.1 i 1 hi (by decide), hR.2.2.1 i 2 hi (by decide), by rw [hR.2.2.1 i 3 hi (by decide), hR.2.1 2 (by decide) (by decide)]; exact pk_sub (by have := hw.com hu hi; omega)⟩) (fun i hi => by
    obtain ⟨a1, a2, a3, a4, a5, a6, a7, a8⟩ := hw.com hu hi
    exact ⟨a2, a4, by show 1 ≤ cAt O.1.1 i 3 - O.1.2.1 2; omega, by show cAt O.1.1 i 3 - O.1.2.1 2 < _; omega⟩)) ml_X7_230 rfl rfl b5.1.1 rfl ⟨Nat.le_of_ble_eq_true rfl, Nat.le_of_ble_eq_true rfl⟩ ⟨Nat.le_of_ble_eq_true rfl, Nat.le_of_ble_eq_true rfl, rfl, Nat.le_of_ble_eq_true rfl⟩ (fun v26 g26 m26 hp => ?_)
    obtain ⟨hv, hg, hT, hm2, hOt⟩ := hp
    subst v26
    subst g26
    have hok : okU D (telU O.1 D) := telU_ok hw hu D
    have b5' : TelS g m26 (x + 113) := b5.to hm2
    have b0' : ObH g m26 x O := b0.out (OutP.of hOt) (by omega)
    have hT : TelT m26 (x + 113) (telU O.1 D).1 (telU O.1 D).2 := hT
    refine r_aload_n hX dX7_bestWorthByDays_29 rfl ?_
    refine r_getR hX dX7_bestWorthByDays_30 b0'.1 fl_X7_32 b0'.2.1.2.2.2.2.1 ?_
    refine r_iload_n hX dX7_bestWorthByDays_33 rfl ?_
    refine r_callV hX dX7_bestWorthByDays_34 (s_X6_plan E g m26 (x + 113) (telU O.1 D).2 D (telU O.1 D).1 b5' hT hok hD60) ml_X7_238 rfl rfl b5'.1.1 rfl ⟨Nat.le_of_ble_eq_true rfl, Nat.le_of_ble_eq_true rfl⟩ ⟨Nat.le_of_ble_eq_true rfl, Nat.le_of_ble_eq_true rfl, rfl, Nat.le_of_ble_eq_true rfl⟩ (fun v34 g34 m34 hp => ?_)
    obtain ⟨hv, hg, hpl, hq, hm3⟩ := hp
    subst v34
    subst g34
    have ho : OutP (fun a => x + 113 ≤ a ∧ a < x + 120) m m34 := OutP.tr ((OutP.of hOt).mono (by omega)) (OutP.ofI (fun a j ha => hq a j (by omega) (by omega)) hm3)
    obtain ⟨hO2, hF⟩ := hO.telw ho (hm3.trans hm2)
    have b5'' : TelS g m34 (x + 113) := b5'.to hm3
    have b0'' : ObH g m34 x O := hO2.1
    have eR : qWoD O (nI D) = (0, nI (plD (telU O.1 D).1 (telU O.1 D).2 D D 1).1, O) := by unfold qWoD; rw [if_pos hrg, hcl]
    refine r_aload_n hX dX7_bestWorthByDays_37 rfl ?_
    refine r_getR hX dX7_bestWorthByDays_38 b0''.1 fl_X7_32 b0''.2.1.2.2.2.2.1 ?_
    refine r_getR hX dX7_bestWorthByDays_41 b5''.1.1 fl_X7_242 b5''.2.2.2.2.2.1 ?_
    refine r_iconst (v := 1) hX dX7_bestWorthByDays_44 (by decide) ?_
    refine r_ialoadN hX dX7_bestWorthByDays_45 b5''.1.2.2.2.2.2.1 (show 1 < 62 by decide) (by decide) ?_
    rw [(hpl 1 (by decide) (by omega)).1]
    exact r_x (r_iret hX dX7_bestWorthByDays_46 (by rw [eR]; exact ⟨rfl, rfl, hO2, hF⟩) ⟨Nat.le_of_ble_eq_true rfl, Nat.le_of_ble_eq_true rfl⟩)
  · have eR : qWoD O d = (1, 0, O) := if_neg (fun h => absurd c4 (by rw [if_pos h]; decide))
    exact r_throwS hX dX7_bestWorthByDays_7 dX7_bestWorthByDays_10 dX7_bestWorthByDays_11 dX7_bestWorthByDays_13 dX7_bestWorthByDays_16 th_IllegalArgument_141 ⟨Nat.le_of_ble_eq_true rfl, rfl, Nat.le_of_ble_eq_true rfl⟩ ⟨Nat.le_of_ble_eq_true rfl, Nat.le_of_ble_eq_true rfl⟩ (fun n hn => by rw [eR]; exact hO.thr hn rfl)
set_option maxRecDepth 20000 in
set_option maxHeartbeats 4000000 in
theorem s_X7_fewestPasses (E : qE) (g : qG) (m : qM) (x : Nat) (O : kO) (hO : ObsV g m x O) (u : Nat) (hw : WfO u O) (hu : u ≤ 6144) (d : Int32) : SpX E yX7_fewestPasses cX7_fewestPasses 2 (some .int) 8 1 6 [.ref x, .int d] g m (pO x g m (qFew O d)) (pX x g m ["java/lang/IllegalArgumentException"] (qFew O d)) := by
  refine SpX.of (by decide) [some (.ref x), some (.int d)] rfl rfl (Nat.le_of_ble_eq_true rfl) (fun X hX => ?_)
  obtain ⟨b0, ⟨S, ⟨hs, ad, hr, hV⟩, hR⟩, b2, b3, b4, b5, b6, b7⟩ := id hO
  refine r_iload_n hX dX7_fewestPasses_0 rfl ?_
  refine r_callS hX dX7_fewestPasses_1 (s_X7_isSpanToLookAt E g m d) ml_X7_202 rfl rfl ⟨Nat.le_of_ble_eq_true rfl, Nat.le_of_ble_eq_true rfl⟩ ⟨Nat.le_of_ble_eq_true rfl, Nat.le_of_ble_eq_true rfl, rfl, Nat.le_of_ble_eq_true rfl⟩ (fun v1 g1 m1 hp => ?_)
  obtain ⟨hv, hg, hm⟩ := hp
  subst v1
  subst g1
  subst m1
  refine r_if_ne (tgt := 17) hX dX7_fewestPasses_4 (by decide) (fun c4 => ?_) (fun c4 => ?_)
  · have hrg : rng d 0 60 := Classical.byContradiction (fun h => c4 (by rw [if_neg h]))
    obtain ⟨D, -, hD60, rfl, hcl⟩ := rng_to hrg (by decide) (by decide)
    have hday := hw.day hu
    refine r_aload_n hX dX7_fewestPasses_17 rfl ?_
    refine r_getR hX dX7_fewestPasses_18 b0.1 fl_X7_32 b0.2.1.2.2.2.2.1 ?_
    refine r_aload_n hX dX7_fewestPasses_21 rfl ?_
    refine r_getR hX dX7_fewestPasses_22 b0.1 fl_X7_10 b0.2.1.1 ?_
    refine r_iload_n hX dX7_fewestPasses_25 rfl ?_
    refine r_callV hX dX7_fewestPasses_26 (s_X6_aim E g m (x + 113) (x + 1) D O.1.1.length S (fun i => (cAt O.1.1 i 1, cAt O.1.1 i 2, cAt O.1.1 i 3 - O.1.2.1 2)) b5 ⟨hs, ad, hr, hV⟩ ⟨hR.1, hw.len⟩ hD60 (by omega) (fun i hi => ⟨hR.2.2.1 i 1 hi (by decide), hR.2.2.1 i 2 hi (by decide), by rw [hR.2.2.1 i 3 hi (by decide), hR.2.1 2 (by decide) (by decide)]; exact pk_sub (by have := hw.com hu hi; omega)⟩) (fun i hi => by
    obtain ⟨a1, a2, a3, a4, a5, a6, a7, a8⟩ := hw.com hu hi
    exact ⟨a2, a4, by show 1 ≤ cAt O.1.1 i 3 - O.1.2.1 2; omega, by show cAt O.1.1 i 3 - O.1.2.1 2 < _; omega⟩)) ml_X7_230 rfl rfl b5.1.1 rfl ⟨Nat.le_of_ble_eq_true rfl, Nat.le_of_ble_eq_true rfl⟩ ⟨Nat.le_of_ble_eq_true rfl, Nat.le_of_ble_eq_true rfl, rfl, Nat.le_of_ble_eq_true rfl⟩ (fun v26 g26 m26 hp => ?_)
    obtain ⟨hv, hg, hT, hm2, hOt⟩ := hp
    subst v26
    subst g26
    have hok : okU D (telU O.1 D) := telU_ok hw hu D
    have b5' : TelS g m26 (x + 113) := b5.to hm2
    have b0' : ObH g m26 x O := b0.out (OutP.of hOt) (by omega)
    have hT : TelT m26 (x + 113) (telU O.1 D).1 (telU O.1 D).2 := hT
    refine r_aload_n hX dX7_fewestPasses_29 rfl ?_
    refine r_getR hX dX7_fewestPasses_30 b0'.1 fl_X7_32 b0'.2.1.2.2.2.2.1 ?_
    refine r_iload_n hX dX7_fewestPasses_33 rfl ?_
    refine r_callV hX dX7_fewestPasses_34 (s_X6_plan E g m26 (x + 113) (telU O.1 D).2 D (telU O.1 D).1 b5' hT hok hD60) ml_X7_238 rfl rfl b5'.1.1 rfl ⟨Nat.le_of_ble_eq_true rfl, Nat.le_of_ble_eq_true rfl⟩ ⟨Nat.le_of_ble_eq_true rfl, Nat.le_of_ble_eq_true rfl, rfl, Nat.le_of_ble_eq_true rfl⟩ (fun v34 g34 m34 hp => ?_)
    obtain ⟨hv, hg, hpl, hq, hm3⟩ := hp
    subst v34
    subst g34
    have ho : OutP (fun a => x + 113 ≤ a ∧ a < x + 120) m m34 := OutP.tr ((OutP.of hOt).mono (by omega)) (OutP.ofI (fun a j ha => hq a j (by omega) (by omega)) hm3)
    obtain ⟨hO2, hF⟩ := hO.telw ho (hm3.trans hm2)
    have b5'' : TelS g m34 (x + 113) := b5'.to hm3
    have b0'' : ObH g m34 x O := hO2.1
    have eR : qFew O (nI D) = (0, nI (plD (telU O.1 D).1 (telU O.1 D).2 D D 1).2, O) := by unfold qFew; rw [if_pos hrg, hcl]
    refine r_aload_n hX dX7_fewestPasses_37 rfl ?_
    refine r_getR hX dX7_fewestPasses_38 b0''.1 fl_X7_32 b0''.2.1.2.2.2.2.1 ?_
    refine r_getR hX dX7_fewestPasses_41 b5''.1.1 fl_X7_246 b5''.2.2.2.2.2.2 ?_
    refine r_iconst (v := 1) hX dX7_fewestPasses_44 (by decide) ?_
    refine r_ialoadN hX dX7_fewestPasses_45 b5''.1.2.2.2.2.2.2 (show 1 < 62 by decide) (by decide) ?_
    rw [(hpl 1 (by decide) (by omega)).2]
    exact r_x (r_iret hX dX7_fewestPasses_46 (by rw [eR]; exact ⟨rfl, rfl, hO2, hF⟩) ⟨Nat.le_of_ble_eq_true rfl, Nat.le_of_ble_eq_true rfl⟩)
  · have eR : qFew O d = (1, 0, O) := if_neg (fun h => absurd c4 (by rw [if_pos h]; decide))
    exact r_throwS hX dX7_fewestPasses_7 dX7_fewestPasses_10 dX7_fewestPasses_11 dX7_fewestPasses_13 dX7_fewestPasses_16 th_IllegalArgument_141 ⟨Nat.le_of_ble_eq_true rfl, rfl, Nat.le_of_ble_eq_true rfl⟩ ⟨Nat.le_of_ble_eq_true rfl, Nat.le_of_ble_eq_true rfl⟩ (fun n hn => by rw [eR]; exact hO.thr hn rfl)
set_option maxRecDepth 20000 in
set_option maxHeartbeats 4000000 in
theorem s_X7_bestGain (E : qE) (g : qG) (m : qM) (x : Nat) (O : kO) (hO : ObsV g m x O) (u : Nat) (hw : WfO u O) (hu : u ≤ 6144) : Sp E yX7_bestGain cX7_bestGain 1 (some .int) 2 0 0 [.ref x] g m (pO x g m (qKad O)) := by
  refine Sp.of (by decide) [some (.ref x)] rfl rfl (Nat.le_of_ble_eq_true rfl) (fun X hX => ?_)
  obtain ⟨b0, ⟨S, ⟨hs, ad, hr, hV⟩, hR⟩, b2, b3, b4, b5, b6, b7⟩ := id hO
  have hD : ∀ j, j < 12 → qI m (x + 1 + 9) j = nI (O.1.2.2 j) := fun j hj => (hV.2.2.1 j hj).trans (hR.2.2.2.1 j hj)
  have hH : ∀ k, 1 ≤ k → k < 7 → qI m (x + 1) (k + 2) = nI (O.1.2.1 k) := fun k h1 h2 => (hV.1 k h2).trans (hR.2.1 k h1 h2)
  refine r_aload_n hX dX7_bestGain_0 rfl ?_
  refine r_getR hX dX7_bestGain_1 b0.1 fl_X7_10 b0.2.1.1 ?_
  refine r_getR hX dX7_bestGain_4 hs.1 fl_X7_249 hr.2.1 ?_
  refine r_aload_n hX dX7_bestGain_7 rfl ?_
  refine r_getR hX dX7_bestGain_8 b0.1 fl_X7_10 b0.2.1.1 ?_
  refine r_getI hX dX7_bestGain_11 hs.1 fl_X7_173 ?_
  rw [hH 4 (by decide) (by decide)]
  refine r_callV hX dX7_bestGain_14 (s_X4_kadane E g m (x + 1 + 8) (x + 1 + 9) (nI (O.1.2.1 4)) (SkyR.ring hs hr)) ml_X7_261 rfl rfl hs.2.2.2.1 rfl ⟨Nat.le_of_ble_eq_true rfl, Nat.le_of_ble_eq_true rfl⟩ ⟨Nat.le_of_ble_eq_true rfl, Nat.le_of_ble_eq_true rfl, rfl, Nat.le_of_ble_eq_true rfl⟩ (fun v14 g14 m14 hp => ?_)
  obtain ⟨hv, hg, hm⟩ := hp
  subst v14
  subst g14
  subst m14
  rw [kadane_congr hD]
  exact r_iret hX dX7_bestGain_17 hO.same ⟨Nat.le_of_ble_eq_true rfl, Nat.le_of_ble_eq_true rfl⟩
set_option maxRecDepth 20000 in
set_option maxHeartbeats 4000000 in
theorem s_X7_bestGainByArcs (E : qE) (g : qG) (m : qM) (x : Nat) (O : kO) (hO : ObsV g m x O) (u : Nat) (hw : WfO u O) (hu : u ≤ 6144) : Sp E yX7_bestGainByArcs cX7_bestGainByArcs 1 (some .int) 4 0 0 [.ref x] g m (pO x g m (qArc O (gN O.1.2.2 (O.1.2.1 4) (qArcP O).1 (qArcP O).2))) := by
  refine Sp.of (by decide) [some (.ref x)] rfl rfl (Nat.le_of_ble_eq_true rfl) (fun X hX => ?_)
  obtain ⟨b0, ⟨S, ⟨hs, ad, hr, hV⟩, hR⟩, b2, b3, b4, b5, b6, b7⟩ := id hO
  have hD : ∀ j, j < 12 → qI m (x + 1 + 9) j = nI (O.1.2.2 j) := fun j hj => (hV.2.2.1 j hj).trans (hR.2.2.2.1 j hj)
  have hH : ∀ k, 1 ≤ k → k < 7 → qI m (x + 1) (k + 2) = nI (O.1.2.1 k) := fun k h1 h2 => (hV.1 k h2).trans (hR.2.1 k h1 h2)
  refine r_aload_n hX dX7_bestGainByArcs_0 rfl ?_
  refine r_getR hX dX7_bestGainByArcs_1 b0.1 fl_X7_10 b0.2.1.1 ?_
  refine r_getR hX dX7_bestGainByArcs_4 hs.1 fl_X7_249 hr.2.1 ?_
  refine r_aload_n hX dX7_bestGainByArcs_7 rfl ?_
  refine r_getR hX dX7_bestGainByArcs_8 b0.1 fl_X7_10 b0.2.1.1 ?_
  refine r_getI hX dX7_bestGainByArcs_11 hs.1 fl_X7_173 ?_
  rw [hH 4 (by decide) (by decide)]
  refine r_callV hX dX7_bestGainByArcs_14 (s_X4_seek E g m (x + 1 + 8) (x + 1 + 9) (nI (O.1.2.1 4)) (SkyR.ring hs hr)) ml_X7_264 rfl rfl hs.2.2.2.1 rfl ⟨Nat.le_of_ble_eq_true rfl, Nat.le_of_ble_eq_true rfl⟩ ⟨Nat.le_of_ble_eq_true rfl, Nat.le_of_ble_eq_true rfl, rfl, Nat.le_of_ble_eq_true rfl⟩ (fun v14 g14 m14 hp => ?_)
  obtain ⟨hv, hg, q3, q4, q5, hq, hm2⟩ := hp
  subst v14
  subst g14
  have q3 := q3.trans (bst_V1 hD (O.1.2.1 4) n144)
  have q4 := q4.trans (congrArg (fun z : Nat × Nat => nI z.1) (bst_V2 hD (O.1.2.1 4) n144))
  have q5 := q5.trans (congrArg (fun z : Nat × Nat => nI z.2) (bst_V2 hD (O.1.2.1 4) n144))
  have eA : arcV O.1.2.2 (O.1.2.1 4) n144 = qArcP O := rfl
  rw [eA] at q3 q4 q5
  obtain ⟨hO2, hF⟩ := hO.ring hq hm2
  refine r_aload_n hX dX7_bestGainByArcs_17 rfl ?_
  refine r_getR hX dX7_bestGainByArcs_18 hO2.1.1 fl_X7_10 hO2.1.2.1.1 ?_
  refine r_getR hX dX7_bestGainByArcs_21 hs.1 fl_X7_249 (hr.to hm2).2.1 ?_
  refine r_getI hX dX7_bestGainByArcs_24 hs.2.2.2.1 fl_X7_267 ?_
  rw [q3]
  exact r_iret hX dX7_bestGainByArcs_27 ⟨rfl, rfl, hO2, hF⟩ ⟨Nat.le_of_ble_eq_true rfl, Nat.le_of_ble_eq_true rfl⟩
set_option maxRecDepth 20000 in
set_option maxHeartbeats 4000000 in
theorem s_X7_bestStart (E : qE) (g : qG) (m : qM) (x : Nat) (O : kO) (hO : ObsV g m x O) (u : Nat) (hw : WfO u O) (hu : u ≤ 6144) : Sp E yX7_bestStart cX7_bestStart 1 (some .int) 4 0 0 [.ref x] g m (pO x g m (qArc O (nI (qArcP O).1))) := by
  refine Sp.of (by decide) [some (.ref x)] rfl rfl (Nat.le_of_ble_eq_true rfl) (fun X hX => ?_)
  obtain ⟨b0, ⟨S, ⟨hs, ad, hr, hV⟩, hR⟩, b2, b3, b4, b5, b6, b7⟩ := id hO
  have hD : ∀ j, j < 12 → qI m (x + 1 + 9) j = nI (O.1.2.2 j) := fun j hj => (hV.2.2.1 j hj).trans (hR.2.2.2.1 j hj)
  have hH : ∀ k, 1 ≤ k → k < 7 → qI m (x + 1) (k + 2) = nI (O.1.2.1 k) := fun k h1 h2 => (hV.1 k h2).trans (hR.2.1 k h1 h2)
  refine r_aload_n hX dX7_bestStart_0 rfl ?_
  refine r_getR hX dX7_bestStart_1 b0.1 fl_X7_10 b0.2.1.1 ?_
  refine r_getR hX dX7_bestStart_4 hs.1 fl_X7_249 hr.2.1 ?_
  refine r_aload_n hX dX7_bestStart_7 rfl ?_
  refine r_getR hX dX7_bestStart_8 b0.1 fl_X7_10 b0.2.1.1 ?_
  refine r_getI hX dX7_bestStart_11 hs.1 fl_X7_173 ?_
  rw [hH 4 (by decide) (by decide)]
  refine r_callV hX dX7_bestStart_14 (s_X4_seek E g m (x + 1 + 8) (x + 1 + 9) (nI (O.1.2.1 4)) (SkyR.ring hs hr)) ml_X7_264 rfl rfl hs.2.2.2.1 rfl ⟨Nat.le_of_ble_eq_true rfl, Nat.le_of_ble_eq_true rfl⟩ ⟨Nat.le_of_ble_eq_true rfl, Nat.le_of_ble_eq_true rfl, rfl, Nat.le_of_ble_eq_true rfl⟩ (fun v14 g14 m14 hp => ?_)
  obtain ⟨hv, hg, q3, q4, q5, hq, hm2⟩ := hp
  subst v14
  subst g14
  have q3 := q3.trans (bst_V1 hD (O.1.2.1 4) n144)
  have q4 := q4.trans (congrArg (fun z : Nat × Nat => nI z.1) (bst_V2 hD (O.1.2.1 4) n144))
  have q5 := q5.trans (congrArg (fun z : Nat × Nat => nI z.2) (bst_V2 hD (O.1.2.1 4) n144))
  have eA : arcV O.1.2.2 (O.1.2.1 4) n144 = qArcP O := rfl
  rw [eA] at q3 q4 q5
  obtain ⟨hO2, hF⟩ := hO.ring hq hm2
  refine r_aload_n hX dX7_bestStart_17 rfl ?_
  refine r_getR hX dX7_bestStart_18 hO2.1.1 fl_X7_10 hO2.1.2.1.1 ?_
  refine r_getR hX dX7_bestStart_21 hs.1 fl_X7_249 (hr.to hm2).2.1 ?_
  refine r_getI hX dX7_bestStart_24 hs.2.2.2.1 fl_X7_270 ?_
  rw [q4]
  exact r_iret hX dX7_bestStart_27 ⟨rfl, rfl, hO2, hF⟩ ⟨Nat.le_of_ble_eq_true rfl, Nat.le_of_ble_eq_true rfl⟩
set_option maxRecDepth 20000 in
set_option maxHeartbeats 4000000 in
theorem s_X7_bestPlaces (E : qE) (g : qG) (m : qM) (x : Nat) (O : kO) (hO : ObsV g m x O) (u : Nat) (hw : WfO u O) (hu : u ≤ 6144) : Sp E yX7_bestPlaces cX7_bestPlaces 1 (some .int) 4 0 0 [.ref x] g m (pO x g m (qArc O (nI (qArcP O).2))) := by
  refine Sp.of (by decide) [some (.ref x)] rfl rfl (Nat.le_of_ble_eq_true rfl) (fun X hX => ?_)
  obtain ⟨b0, ⟨S, ⟨hs, ad, hr, hV⟩, hR⟩, b2, b3, b4, b5, b6, b7⟩ := id hO
  have hD : ∀ j, j < 12 → qI m (x + 1 + 9) j = nI (O.1.2.2 j) := fun j hj => (hV.2.2.1 j hj).trans (hR.2.2.2.1 j hj)
  have hH : ∀ k, 1 ≤ k → k < 7 → qI m (x + 1) (k + 2) = nI (O.1.2.1 k) := fun k h1 h2 => (hV.1 k h2).trans (hR.2.1 k h1 h2)
  refine r_aload_n hX dX7_bestPlaces_0 rfl ?_
  refine r_getR hX dX7_bestPlaces_1 b0.1 fl_X7_10 b0.2.1.1 ?_
  refine r_getR hX dX7_bestPlaces_4 hs.1 fl_X7_249 hr.2.1 ?_
  refine r_aload_n hX dX7_bestPlaces_7 rfl ?_
  refine r_getR hX dX7_bestPlaces_8 b0.1 fl_X7_10 b0.2.1.1 ?_
  refine r_getI hX dX7_bestPlaces_11 hs.1 fl_X7_173 ?_
  rw [hH 4 (by decide) (by decide)]
  refine r_callV hX dX7_bestPlaces_14 (s_X4_seek E g m (x + 1 + 8) (x + 1 + 9) (nI (O.1.2.1 4)) (SkyR.ring hs hr)) ml_X7_264 rfl rfl hs.2.2.2.1 rfl ⟨Nat.le_of_ble_eq_true rfl, Nat.le_of_ble_eq_true rfl⟩ ⟨Nat.le_of_ble_eq_true rfl, Nat.le_of_ble_eq_true rfl, rfl, Nat.le_of_ble_eq_true rfl⟩ (fun v14 g14 m14 hp => ?_)
  obtain ⟨hv, hg, q3, q4, q5, hq, hm2⟩ := hp
  subst v14
  subst g14
  have q3 := q3.trans (bst_V1 hD (O.1.2.1 4) n144)
  have q4 := q4.trans (congrArg (fun z : Nat × Nat => nI z.1) (bst_V2 hD (O.1.2.1 4) n144))
  have q5 := q5.trans (congrArg (fun z : Nat × Nat => nI z.2) (bst_V2 hD (O.1.2.1 4) n144))
  have eA : arcV O.1.2.2 (O.1.2.1 4) n144 = qArcP O := rfl
  rw [eA] at q3 q4 q5
  obtain ⟨hO2, hF⟩ := hO.ring hq hm2
  refine r_aload_n hX dX7_bestPlaces_17 rfl ?_
  refine r_getR hX dX7_bestPlaces_18 hO2.1.1 fl_X7_10 hO2.1.2.1.1 ?_
  refine r_getR hX dX7_bestPlaces_21 hs.1 fl_X7_249 (hr.to hm2).2.1 ?_
  refine r_getI hX dX7_bestPlaces_24 hs.2.2.2.1 fl_X7_273 ?_
  rw [q5]
  exact r_iret hX dX7_bestPlaces_27 ⟨rfl, rfl, hO2, hF⟩ ⟨Nat.le_of_ble_eq_true rfl, Nat.le_of_ble_eq_true rfl⟩
set_option maxRecDepth 20000 in
set_option maxHeartbeats 4000000 in
theorem s_X7_nextMeeting (E : qE) (g : qG) (m : qM) (x : Nat) (O : kO) (hO : ObsV g m x O) (u : Nat) (hw : WfO u O) (hu : u ≤ 6144) (a b : Int32) : SpX E yX7_nextMeeting cX7_nextMeeting 6 (some .int) 9 3 18 [.ref x, .int a, .int b] g m (pO x g m (qMeet mWalk O a b)) (pX x g m ["java/util/NoSuchElementException", "java/lang/IllegalArgumentException", "java/lang/UnsupportedOperationException"] (qMeet mWalk O a b)) := by
  refine SpX.of (by decide) [some (.ref x), some (.int a), some (.int b), none, none, none] rfl rfl (Nat.le_of_ble_eq_true rfl) (fun X hX => ?_)
  obtain ⟨b0, ⟨S, ⟨hs, ad, hr, hV⟩, hR⟩, b2, b3, b4, b5, b6, b7⟩ := id hO
  have hC : ∀ i k, i < O.1.1.length → i < 6 → k < 5 → qI m (ad i) k = nI (cAt O.1.1 i k) := fun i k h1 h6 h2 => (hV.2.1 i k h6 h2).trans (hR.2.2.1 i k h1 h2)
  refine r_aload_n hX dX7_nextMeeting_0 rfl ?_
  refine r_iload_n hX dX7_nextMeeting_1 rfl ?_
  refine r_callVX hX dX7_nextMeeting_2 (s_X7_existing E g m x a O S ad b0 hs hr hV hR hw.len) ml_X7_89 mk_X7_89 rfl rfl b0.1 rfl ⟨Nat.le_of_ble_eq_true rfl, Nat.le_of_ble_eq_true rfl⟩ ⟨Nat.le_of_ble_eq_true rfl, Nat.le_of_ble_eq_true rfl, rfl, Nat.le_of_ble_eq_true rfl⟩ (fun v2 g2 m2 hp => ?_) (fun nm gx mx hp => ?_)
  rotate_left
  · obtain ⟨hnone, rfl, ⟨n9, hn9, rfl⟩, rfl⟩ := hp
    exact r_out hX ⟨⟨0, congrArg Prod.fst (qMeet_a hnone), rfl⟩, by rw [qMeet_a hnone]; exact hO, (FrP.rf _ _ _).up hn9⟩ ⟨Nat.le_of_ble_eq_true rfl, Nat.le_of_ble_eq_true rfl⟩
  obtain ⟨i, hi, hv, hg, hm⟩ := hp
  subst v2
  subst g2
  subst m2
  have hil := (plV_lt hi).1
  have hi6 := hw.len
  refine r_astore_n hX dX7_nextMeeting_5 (Nat.le_of_ble_eq_true rfl) rfl ?_
  refine r_aload_n hX dX7_nextMeeting_6 rfl ?_
  refine r_iload_n hX dX7_nextMeeting_7 rfl ?_
  refine r_callVX hX dX7_nextMeeting_8 (s_X7_existing E g m x b O S ad b0 hs hr hV hR hw.len) ml_X7_89 mk_X7_89 rfl rfl b0.1 rfl ⟨Nat.le_of_ble_eq_true rfl, Nat.le_of_ble_eq_true rfl⟩ ⟨Nat.le_of_ble_eq_true rfl, Nat.le_of_ble_eq_true rfl, rfl, Nat.le_of_ble_eq_true rfl⟩ (fun v8 g8 m8 hp => ?_) (fun nm gx mx hp => ?_)
  rotate_left
  · obtain ⟨hnone, rfl, ⟨n9, hn9, rfl⟩, rfl⟩ := hp
    exact r_out hX ⟨⟨0, congrArg Prod.fst (qMeet_b hnone), rfl⟩, by rw [qMeet_b hnone]; exact hO, (FrP.rf _ _ _).up hn9⟩ ⟨Nat.le_of_ble_eq_true rfl, Nat.le_of_ble_eq_true rfl⟩
  obtain ⟨j, hj, hv, hg, hm⟩ := hp
  subst v8
  subst g8
  subst m8
  have hjl := (plV_lt hj).1
  have hj6 := hw.len
  refine r_astore hX dX7_nextMeeting_11 (Nat.le_of_ble_eq_true rfl) rfl ?_
  refine r_iload_n hX dX7_nextMeeting_13 rfl ?_
  refine r_iload_n hX dX7_nextMeeting_14 rfl ?_
  refine r_icmp_ne (tgt := 28) hX dX7_nextMeeting_15 (by decide) (fun c15 => ?_) (fun c15 => ?_)
  · refine r_aload_n hX dX7_nextMeeting_28 rfl ?_
    refine r_aload hX dX7_nextMeeting_29 rfl ?_
    refine r_callS hX dX7_nextMeeting_31 (s_X2_byWalking E g m (ad i) (ad j) (adAt hs hr (by omega)) (adAt hs hr (by omega))) ml_X7_210 rfl rfl ⟨Nat.le_of_ble_eq_true rfl, Nat.le_of_ble_eq_true rfl⟩ ⟨Nat.le_of_ble_eq_true rfl, Nat.le_of_ble_eq_true rfl, rfl, Nat.le_of_ble_eq_true rfl⟩ (fun v31 g31 m31 hp => ?_)
    obtain ⟨hv, hg, hm⟩ := hp
    subst v31
    subst g31
    subst m31
    rw [hC i 1 hil (by omega) (by decide), hC i 3 hil (by omega) (by decide), hC j 1 hjl (by omega) (by decide), hC j 3 hjl (by omega) (by decide)]
    refine r_istore hX dX7_nextMeeting_34 (Nat.le_of_ble_eq_true rfl) rfl ?_
    refine r_iload hX dX7_nextMeeting_36 rfl ?_
    refine r_iconst (v := (-1)) hX dX7_nextMeeting_38 (by decide) ?_
    refine r_icmp_ne (tgt := 52) hX dX7_nextMeeting_39 (by decide) (fun c39 => ?_) (fun c39 => ?_)
    · refine r_iload hX dX7_nextMeeting_52 rfl ?_
      exact r_x (r_iret hX dX7_nextMeeting_54 (by rw [qMeet_s hi hj, if_neg c15, if_neg c39]; exact hO.same) ⟨Nat.le_of_ble_eq_true rfl, Nat.le_of_ble_eq_true rfl⟩)
    · have eR : qMeet mWalk O a b = (3, 0, O) := by rw [qMeet_s hi hj, if_neg c15, if_pos c39]
      exact r_throwS hX dX7_nextMeeting_42 dX7_nextMeeting_45 dX7_nextMeeting_46 dX7_nextMeeting_48 dX7_nextMeeting_51 th_UnsupportedOperation_216 ⟨Nat.le_of_ble_eq_true rfl, rfl, Nat.le_of_ble_eq_true rfl⟩ ⟨Nat.le_of_ble_eq_true rfl, Nat.le_of_ble_eq_true rfl⟩ (fun n hn => by rw [eR]; exact hO.thr hn rfl)
  · have eR : qMeet mWalk O a b = (2, 0, O) := by rw [qMeet_s hi hj, if_pos c15]
    exact r_throwS hX dX7_nextMeeting_18 dX7_nextMeeting_21 dX7_nextMeeting_22 dX7_nextMeeting_24 dX7_nextMeeting_27 th_IllegalArgument_208 ⟨Nat.le_of_ble_eq_true rfl, rfl, Nat.le_of_ble_eq_true rfl⟩ ⟨Nat.le_of_ble_eq_true rfl, Nat.le_of_ble_eq_true rfl⟩ (fun n hn => by rw [eR]; exact hO.thr hn rfl)
set_option maxRecDepth 20000 in
set_option maxHeartbeats 4000000 in
theorem s_X7_nextMeetingByRemainders (E : qE) (g : qG) (m : qM) (x : Nat) (O : kO) (hO : ObsV g m x O) (u : Nat) (hw : WfO u O) (hu : u ≤ 6144) (a b : Int32) : SpX E yX7_nextMeetingByRemainders cX7_nextMeetingByRemainders 6 (some .int) 9 3 18 [.ref x, .int a, .int b] g m (pO x g m (qMeet mEuclid O a b)) (pX x g m ["java/util/NoSuchElementException", "java/lang/IllegalArgumentException", "java/lang/UnsupportedOperationException"] (qMeet mEuclid O a b)) := by
  refine SpX.of (by decide) [some (.ref x), some (.int a), some (.int b), none, none, none] rfl rfl (Nat.le_of_ble_eq_true rfl) (fun X hX => ?_)
  obtain ⟨b0, ⟨S, ⟨hs, ad, hr, hV⟩, hR⟩, b2, b3, b4, b5, b6, b7⟩ := id hO
  have hC : ∀ i k, i < O.1.1.length → i < 6 → k < 5 → qI m (ad i) k = nI (cAt O.1.1 i k) := fun i k h1 h6 h2 => (hV.2.1 i k h6 h2).trans (hR.2.2.1 i k h1 h2)
  refine r_aload_n hX dX7_nextMeetingByRemainders_0 rfl ?_
  refine r_iload_n hX dX7_nextMeetingByRemainders_1 rfl ?_
  refine r_callVX hX dX7_nextMeetingByRemainders_2 (s_X7_existing E g m x a O S ad b0 hs hr hV hR hw.len) ml_X7_89 mk_X7_89 rfl rfl b0.1 rfl ⟨Nat.le_of_ble_eq_true rfl, Nat.le_of_ble_eq_true rfl⟩ ⟨Nat.le_of_ble_eq_true rfl, Nat.le_of_ble_eq_true rfl, rfl, Nat.le_of_ble_eq_true rfl⟩ (fun v2 g2 m2 hp => ?_) (fun nm gx mx hp => ?_)
  rotate_left
  · obtain ⟨hnone, rfl, ⟨n9, hn9, rfl⟩, rfl⟩ := hp
    exact r_out hX ⟨⟨0, congrArg Prod.fst (qMeet_a hnone), rfl⟩, by rw [qMeet_a hnone]; exact hO, (FrP.rf _ _ _).up hn9⟩ ⟨Nat.le_of_ble_eq_true rfl, Nat.le_of_ble_eq_true rfl⟩
  obtain ⟨i, hi, hv, hg, hm⟩ := hp
  subst v2
  subst g2
  subst m2
  have hil := (plV_lt hi).1
  have hi6 := hw.len
  refine r_astore_n hX dX7_nextMeetingByRemainders_5 (Nat.le_of_ble_eq_true rfl) rfl ?_
  refine r_aload_n hX dX7_nextMeetingByRemainders_6 rfl ?_
  refine r_iload_n hX dX7_nextMeetingByRemainders_7 rfl ?_
  refine r_callVX hX dX7_nextMeetingByRemainders_8 (s_X7_existing E g m x b O S ad b0 hs hr hV hR hw.len) ml_X7_89 mk_X7_89 rfl rfl b0.1 rfl ⟨Nat.le_of_ble_eq_true rfl, Nat.le_of_ble_eq_true rfl⟩ ⟨Nat.le_of_ble_eq_true rfl, Nat.le_of_ble_eq_true rfl, rfl, Nat.le_of_ble_eq_true rfl⟩ (fun v8 g8 m8 hp => ?_) (fun nm gx mx hp => ?_)
  rotate_left
  · obtain ⟨hnone, rfl, ⟨n9, hn9, rfl⟩, rfl⟩ := hp
    exact r_out hX ⟨⟨0, congrArg Prod.fst (qMeet_b hnone), rfl⟩, by rw [qMeet_b hnone]; exact hO, (FrP.rf _ _ _).up hn9⟩ ⟨Nat.le_of_ble_eq_true rfl, Nat.le_of_ble_eq_true rfl⟩
  obtain ⟨j, hj, hv, hg, hm⟩ := hp
  subst v8
  subst g8
  subst m8
  have hjl := (plV_lt hj).1
  have hj6 := hw.len
  refine r_astore hX dX7_nextMeetingByRemainders_11 (Nat.le_of_ble_eq_true rfl) rfl ?_
  refine r_iload_n hX dX7_nextMeetingByRemainders_13 rfl ?_
  refine r_iload_n hX dX7_nextMeetingByRemainders_14 rfl ?_
  refine r_icmp_ne (tgt := 28) hX dX7_nextMeetingByRemainders_15 (by decide) (fun c15 => ?_) (fun c15 => ?_)
  · refine r_aload_n hX dX7_nextMeetingByRemainders_28 rfl ?_
    refine r_aload hX dX7_nextMeetingByRemainders_29 rfl ?_
    refine r_callS hX dX7_nextMeetingByRemainders_31 (s_X2_byEuclid E g m (ad i) (ad j) (adAt hs hr (by omega)) (adAt hs hr (by omega))) ml_X7_218 rfl rfl ⟨Nat.le_of_ble_eq_true rfl, Nat.le_of_ble_eq_true rfl⟩ ⟨Nat.le_of_ble_eq_true rfl, Nat.le_of_ble_eq_true rfl, rfl, Nat.le_of_ble_eq_true rfl⟩ (fun v31 g31 m31 hp => ?_)
    obtain ⟨hv, hg, hm⟩ := hp
    subst v31
    subst g31
    subst m31
    rw [hC i 1 hil (by omega) (by decide), hC i 3 hil (by omega) (by decide), hC j 1 hjl (by omega) (by decide), hC j 3 hjl (by omega) (by decide)]
    refine r_istore hX dX7_nextMeetingByRemainders_34 (Nat.le_of_ble_eq_true rfl) rfl ?_
    refine r_iload hX dX7_nextMeetingByRemainders_36 rfl ?_
    refine r_iconst (v := (-1)) hX dX7_nextMeetingByRemainders_38 (by decide) ?_
    refine r_icmp_ne (tgt := 52) hX dX7_nextMeetingByRemainders_39 (by decide) (fun c39 => ?_) (fun c39 => ?_)
    · refine r_iload hX dX7_nextMeetingByRemainders_52 rfl ?_
      exact r_x (r_iret hX dX7_nextMeetingByRemainders_54 (by rw [qMeet_s hi hj, if_neg c15, if_neg c39]; exact hO.same) ⟨Nat.le_of_ble_eq_true rfl, Nat.le_of_ble_eq_true rfl⟩)
    · have eR : qMeet mEuclid O a b = (3, 0, O) := by rw [qMeet_s hi hj, if_neg c15, if_pos c39]
      exact r_throwS hX dX7_nextMeetingByRemainders_42 dX7_nextMeetingByRemainders_45 dX7_nextMeetingByRemainders_46 dX7_nextMeetingByRemainders_48 dX7_nextMeetingByRemainders_51 th_UnsupportedOperation_216 ⟨Nat.le_of_ble_eq_true rfl, rfl, Nat.le_of_ble_eq_true rfl⟩ ⟨Nat.le_of_ble_eq_true rfl, Nat.le_of_ble_eq_true rfl⟩ (fun n hn => by rw [eR]; exact hO.thr hn rfl)
  · have eR : qMeet mEuclid O a b = (2, 0, O) := by rw [qMeet_s hi hj, if_pos c15]
    exact r_throwS hX dX7_nextMeetingByRemainders_18 dX7_nextMeetingByRemainders_21 dX7_nextMeetingByRemainders_22 dX7_nextMeetingByRemainders_24 dX7_nextMeetingByRemainders_27 th_IllegalArgument_208 ⟨Nat.le_of_ble_eq_true rfl, rfl, Nat.le_of_ble_eq_true rfl⟩ ⟨Nat.le_of_ble_eq_true rfl, Nat.le_of_ble_eq_true rfl⟩ (fun n hn => by rw [eR]; exact hO.thr hn rfl)
set_option maxRecDepth 20000 in
set_option maxHeartbeats 4000000 in
theorem s_X7_ali_l {E : qE} {X : qX} {Q : State → Prop} {g : qG} {m : qM} (hX : MC E yX7_alignment cX7_alignment 4 (some .long) 8 1 6 [] X) {x : Nat} {O : kO} {S : kS} {ad : Nat → Nat} (b0 : ObH g m x O) (hs : SkySh g (x + 1)) (hr : SkyR m (x + 1) ad) (hV : SkyV m (x + 1) ad S) (hR : RepS S O.1) (hl : O.1.1.length ≤ 6) : ∀ (k i : Nat), i + k = O.1.1.length → (∀ j : Int32, WS E X 0 0 Q g m 59 [some (.ref x), some (.long (alC O.1.1 O.1.1.length)), none, some (.int j)] []) → WS E X 0 0 Q g m 24 [some (.ref x), some (.long (alC O.1.1 i)), none, some (.int (nI i))] [] := by
  have hN : qI m (x + 1) 2 = nI O.1.1.length := (hV.1 0 (by decide)).trans hR.1
  have hC : ∀ i k, i < O.1.1.length → i < 6 → k < 5 → qI m (ad i) k = nI (cAt O.1.1 i k) := fun i k h1 h6 h2 => (hV.2.1 i k h6 h2).trans (hR.2.2.1 i k h1 h2)
  intro k
  induction k with
  | zero =>
    intro i hi K
    have hib : i = O.1.1.length := by omega
    subst hib
    refine r_iload_n hX dX7_alignment_24 rfl ?_
    refine r_aload_n hX dX7_alignment_25 rfl ?_
    refine r_getR hX dX7_alignment_26 b0.1 fl_X7_10 b0.2.1.1 ?_
    refine r_getI hX dX7_alignment_29 hs.1 fl_X7_176 ?_
    rw [hN]
    refine r_icmp_ge (tgt := 59) hX dX7_alignment_32 (by decide) (fun c32 => ?_) (fun c32 => ?_)
    · exact K _
    · exact absurd (Int32.le_refl _) c32
  | succ k ih =>
    intro i hi K
    have hil : i < O.1.1.length := by omega
    refine r_iload_n hX dX7_alignment_24 rfl ?_
    refine r_aload_n hX dX7_alignment_25 rfl ?_
    refine r_getR hX dX7_alignment_26 b0.1 fl_X7_10 b0.2.1.1 ?_
    refine r_getI hX dX7_alignment_29 hs.1 fl_X7_176 ?_
    rw [hN]
    refine r_icmp_ge (tgt := 59) hX dX7_alignment_32 (by decide) (fun c32 => ?_) (fun c32 => ?_)
    · exact absurd c32 (nI_ge (by omega) (by omega))
    · refine r_lload_n hX dX7_alignment_35 rfl ?_
      refine r_aload_n hX dX7_alignment_36 rfl ?_
      refine r_getR hX dX7_alignment_37 b0.1 fl_X7_10 b0.2.1.1 ?_
      refine r_getR hX dX7_alignment_40 hs.1 fl_X7_181 hr.1 ?_
      refine r_iload_n hX dX7_alignment_43 rfl ?_
      refine r_aaload5N hX dX7_alignment_44 hs.2.1 (show i < 6 by omega) (by decide) (hr.2.2.2.1 i (by omega)) ?_
      refine r_getI hX dX7_alignment_45 (adAt hs hr (by omega)) fl_X7_110 ?_
      rw [hC i 1 hil (by omega) (by decide)]
      refine r_i2l hX dX7_alignment_48 ?_
      refine r_callS hX dX7_alignment_49 (s_X2_commonMultiple E g m (alC O.1.1 i) (nI (cAt O.1.1 i 1)).toInt64) ml_X7_226 rfl rfl ⟨Nat.le_of_ble_eq_true rfl, Nat.le_of_ble_eq_true rfl⟩ ⟨Nat.le_of_ble_eq_true rfl, Nat.le_of_ble_eq_true rfl, rfl, Nat.le_of_ble_eq_true rfl⟩ (fun v49 g49 m49 hp => ?_)
      obtain ⟨hv, hg, hm⟩ := hp
      subst v49
      subst g49
      subst m49
      refine r_lstore_n hX dX7_alignment_52 (Nat.le_of_ble_eq_true rfl) rfl ?_
      refine r_iinc (v := nI (i + 1)) hX dX7_alignment_53 rfl (ii1 i) rfl ?_
      refine r_goto (tgt := 24) hX dX7_alignment_56 (by decide) ?_
      exact ih (i + 1) (by omega) K
set_option maxRecDepth 20000 in
set_option maxHeartbeats 4000000 in
theorem s_X7_alignment (E : qE) (g : qG) (m : qM) (x : Nat) (O : kO) (hO : ObsV g m x O) (u : Nat) (hw : WfO u O) (hu : u ≤ 6144) : SpX E yX7_alignment cX7_alignment 4 (some .long) 8 1 6 [.ref x] g m (pW x g m (qAli O)) (pWX x g m ["java/lang/ArithmeticException"] (qAli O)) := by
  refine SpX.of (by decide) [some (.ref x), none, none, none] rfl rfl (Nat.le_of_ble_eq_true rfl) (fun X hX => ?_)
  obtain ⟨b0, ⟨S, ⟨hs, ad, hr, hV⟩, hR⟩, b2, b3, b4, b5, b6, b7⟩ := id hO
  have hN : qI m (x + 1) 2 = nI O.1.1.length := (hV.1 0 (by decide)).trans hR.1
  refine r_aload_n hX dX7_alignment_0 rfl ?_
  refine r_getR hX dX7_alignment_1 b0.1 fl_X7_10 b0.2.1.1 ?_
  refine r_getI hX dX7_alignment_4 hs.1 fl_X7_176 ?_
  rw [hN]
  refine r_if_ne (tgt := 20) hX dX7_alignment_7 (by decide) (fun c7 => ?_) (fun c7 => ?_)
  · refine r_lconst (v := 1) hX dX7_alignment_20 (by decide) ?_
    refine r_lstore_n hX dX7_alignment_21 (Nat.le_of_ble_eq_true rfl) rfl ?_
    refine r_iconst (v := 0) hX dX7_alignment_22 (by decide) ?_
    refine r_istore_n hX dX7_alignment_23 (Nat.le_of_ble_eq_true rfl) rfl ?_
    have hl := hw.len
    refine s_X7_ali_l hX b0 hs hr hV hR hl O.1.1.length 0 (by omega) (fun j => ?_)
    refine r_lload_n hX dX7_alignment_59 rfl ?_
    exact r_x (r_lret hX dX7_alignment_60 (by rw [show qAli O = (0, .long (alC O.1.1 O.1.1.length), O) from if_neg (fun h => c7 (by rw [h]; rfl))]; exact hO.sameW) ⟨Nat.le_of_ble_eq_true rfl, Nat.le_of_ble_eq_true rfl⟩)
  · have eR : qAli O = (1, .null, O) := if_pos (by have := hw.len; exact (nI_eq (b := 0) (by omega) (by decide)).mp c7)
    exact r_throwS hX dX7_alignment_10 dX7_alignment_13 dX7_alignment_14 dX7_alignment_16 dX7_alignment_19 th_Arithmetic_223 ⟨Nat.le_of_ble_eq_true rfl, rfl, Nat.le_of_ble_eq_true rfl⟩ ⟨Nat.le_of_ble_eq_true rfl, Nat.le_of_ble_eq_true rfl⟩ (fun n hn => by rw [eR]; exact hO.thrW hn rfl)
set_option maxRecDepth 20000 in
set_option maxHeartbeats 4000000 in
theorem s_X7_mean_l {E : qE} {X : qX} {Q : State → Prop} {g : qG} {m : qM} (hX : MC E yX7_meanBrightness cX7_meanBrightness 3 (some .double) 8 1 6 [] X) {x : Nat} {O : kO} {S : kS} {ad : Nat → Nat} (b0 : ObH g m x O) (hs : SkySh g (x + 1)) (hr : SkyR m (x + 1) ad) (hV : SkyV m (x + 1) ad S) (hR : RepS S O.1) (hl : O.1.1.length ≤ 6) : ∀ (k i : Nat), i + k = O.1.1.length → (∀ j : Int32, WS E X 0 0 Q g m 56 [some (.ref x), some (.int (nI (suB O.1.1 O.1.1.length))), some (.int j)] []) → WS E X 0 0 Q g m 24 [some (.ref x), some (.int (nI (suB O.1.1 i))), some (.int (nI i))] [] := by
  have hN : qI m (x + 1) 2 = nI O.1.1.length := (hV.1 0 (by decide)).trans hR.1
  have hC : ∀ i k, i < O.1.1.length → i < 6 → k < 5 → qI m (ad i) k = nI (cAt O.1.1 i k) := fun i k h1 h6 h2 => (hV.2.1 i k h6 h2).trans (hR.2.2.1 i k h1 h2)
  intro k
  induction k with
  | zero =>
    intro i hi K
    have hib : i = O.1.1.length := by omega
    subst hib
    refine r_iload_n hX dX7_meanBrightness_24 rfl ?_
    refine r_aload_n hX dX7_meanBrightness_25 rfl ?_
    refine r_getR hX dX7_meanBrightness_26 b0.1 fl_X7_10 b0.2.1.1 ?_
    refine r_getI hX dX7_meanBrightness_29 hs.1 fl_X7_176 ?_
    rw [hN]
    refine r_icmp_ge (tgt := 56) hX dX7_meanBrightness_32 (by decide) (fun c32 => ?_) (fun c32 => ?_)
    · exact K _
    · exact absurd (Int32.le_refl _) c32
  | succ k ih =>
    intro i hi K
    have hil : i < O.1.1.length := by omega
    refine r_iload_n hX dX7_meanBrightness_24 rfl ?_
    refine r_aload_n hX dX7_meanBrightness_25 rfl ?_
    refine r_getR hX dX7_meanBrightness_26 b0.1 fl_X7_10 b0.2.1.1 ?_
    refine r_getI hX dX7_meanBrightness_29 hs.1 fl_X7_176 ?_
    rw [hN]
    refine r_icmp_ge (tgt := 56) hX dX7_meanBrightness_32 (by decide) (fun c32 => ?_) (fun c32 => ?_)
    · exact absurd c32 (nI_ge (by omega) (by omega))
    · refine r_iload_n hX dX7_meanBrightness_35 rfl ?_
      refine r_aload_n hX dX7_meanBrightness_36 rfl ?_
      refine r_getR hX dX7_meanBrightness_37 b0.1 fl_X7_10 b0.2.1.1 ?_
      refine r_getR hX dX7_meanBrightness_40 hs.1 fl_X7_181 hr.1 ?_
      refine r_iload_n hX dX7_meanBrightness_43 rfl ?_
      refine r_aaload5N hX dX7_meanBrightness_44 hs.2.1 (show i < 6 by omega) (by decide) (hr.2.2.2.1 i (by omega)) ?_
      refine r_getI hX dX7_meanBrightness_45 (adAt hs hr (by omega)) fl_X7_135 ?_
      rw [hC i 2 hil (by omega) (by decide)]
      refine r_iadd hX dX7_meanBrightness_48 ?_
      rw [nI_add]
      refine r_istore_n hX dX7_meanBrightness_49 (Nat.le_of_ble_eq_true rfl) rfl ?_
      refine r_iinc (v := nI (i + 1)) hX dX7_meanBrightness_50 rfl (ii1 i) rfl ?_
      refine r_goto (tgt := 24) hX dX7_meanBrightness_53 (by decide) ?_
      exact ih (i + 1) (by omega) K
set_option maxRecDepth 20000 in
set_option maxHeartbeats 4000000 in
theorem s_X7_meanBrightness (E : qE) (g : qG) (m : qM) (x : Nat) (O : kO) (hO : ObsV g m x O) (u : Nat) (hw : WfO u O) (hu : u ≤ 6144) : SpX E yX7_meanBrightness cX7_meanBrightness 3 (some .double) 8 1 6 [.ref x] g m (pW x g m (qMea O)) (pWX x g m ["java/lang/ArithmeticException"] (qMea O)) := by
  refine SpX.of (by decide) [some (.ref x), none, none] rfl rfl (Nat.le_of_ble_eq_true rfl) (fun X hX => ?_)
  obtain ⟨b0, ⟨S, ⟨hs, ad, hr, hV⟩, hR⟩, b2, b3, b4, b5, b6, b7⟩ := id hO
  have hN : qI m (x + 1) 2 = nI O.1.1.length := (hV.1 0 (by decide)).trans hR.1
  have hl := hw.len
  refine r_aload_n hX dX7_meanBrightness_0 rfl ?_
  refine r_getR hX dX7_meanBrightness_1 b0.1 fl_X7_10 b0.2.1.1 ?_
  refine r_getI hX dX7_meanBrightness_4 hs.1 fl_X7_176 ?_
  rw [hN]
  refine r_if_ne (tgt := 20) hX dX7_meanBrightness_7 (by decide) (fun c7 => ?_) (fun c7 => ?_)
  · refine r_iconst (v := 0) hX dX7_meanBrightness_20 (by decide) ?_
    refine r_istore_n hX dX7_meanBrightness_21 (Nat.le_of_ble_eq_true rfl) rfl ?_
    refine r_iconst (v := 0) hX dX7_meanBrightness_22 (by decide) ?_
    refine r_istore_n hX dX7_meanBrightness_23 (Nat.le_of_ble_eq_true rfl) rfl ?_
    refine s_X7_mean_l hX b0 hs hr hV hR hl O.1.1.length 0 (by omega) (fun j => ?_)
    have h0 : ¬ O.1.1.length = 0 := fun h => c7 (by rw [h]; rfl)
    have hsl := suB_le hw hu O.1.1.length (Nat.le_refl _)
    refine r_iload_n hX dX7_meanBrightness_56 rfl ?_
    refine r_i2d hX dX7_meanBrightness_57 ?_
    refine r_aload_n hX dX7_meanBrightness_58 rfl ?_
    refine r_getR hX dX7_meanBrightness_59 b0.1 fl_X7_10 b0.2.1.1 ?_
    refine r_getI hX dX7_meanBrightness_62 hs.1 fl_X7_176 ?_
    rw [hN]
    refine r_i2d hX dX7_meanBrightness_65 ?_
    refine r_ddiv hX dX7_meanBrightness_66 (n64_mean (by omega) (by omega) hl) ?_
    exact r_x (r_dret hX dX7_meanBrightness_67 (by rw [show qMea O = (0, _, O) from if_neg h0]; exact hO.sameW) ⟨Nat.le_of_ble_eq_true rfl, Nat.le_of_ble_eq_true rfl⟩)
  · have eR : qMea O = (1, .null, O) := if_pos (by exact (nI_eq (b := 0) (by omega) (by decide)).mp c7)
    exact r_throwS hX dX7_meanBrightness_10 dX7_meanBrightness_13 dX7_meanBrightness_14 dX7_meanBrightness_16 dX7_meanBrightness_19 th_Arithmetic_223 ⟨Nat.le_of_ble_eq_true rfl, rfl, Nat.le_of_ble_eq_true rfl⟩ ⟨Nat.le_of_ble_eq_true rfl, Nat.le_of_ble_eq_true rfl⟩ (fun n hn => by rw [eR]; exact hO.thrW hn rfl)
theorem dus_V {F : Nat → Int32} {f : Nat → Nat} (h : ∀ j, j < 12 → F j = nI (f j)) (hb : ∀ j, j < 12 → f j < 2 ^ 31) : ∀ n, n ≤ 12 → dustyN F n = dusV f n
  | 0, _ => rfl
  | n + 1, hn => by
    unfold dustyN dusV
    rw [h n (by omega), dus_V h hb n (by omega)]
    by_cases e : 0 < f n
    · rw [if_pos e, if_neg (nI_nle e (hb n (by omega)))]
    · rw [if_neg e, if_pos (show nI (f n) ≤ 0 from nI_le (b := 0) (by omega) (by decide))]
theorem ds_ge (f : Nat → Nat) {j : Nat} (hj : j < 12) : f j ≤ ds f 0 12 := by
  rw [ds12]
  rcases lt12 hj with rfl | rfl | rfl | rfl | rfl | rfl | rfl | rfl | rfl | rfl | rfl | rfl <;> omega
theorem WfO.dus {u : Nat} {O : kO} (h : WfO u O) (hu : u ≤ 6144) : O.1.2.1 3 + ds O.1.2.2 0 12 ≤ 46080020 := by have := h.1.2.2.2.2.2.1; omega
set_option maxRecDepth 20000 in
set_option maxHeartbeats 4000000 in
theorem s_X7_dustyShare (E : qE) (g : qG) (m : qM) (x : Nat) (O : kO) (hO : ObsV g m x O) (u : Nat) (hw : WfO u O) (hu : u ≤ 6144) : Sp E yX7_dustyShare cX7_dustyShare 1 (some .float) 2 0 0 [.ref x] g m (pW x g m (qSha O)) := by
  refine Sp.of (by decide) [some (.ref x)] rfl rfl (Nat.le_of_ble_eq_true rfl) (fun X hX => ?_)
  obtain ⟨b0, ⟨S, ⟨hs, ad, hr, hV⟩, hR⟩, b2, b3, b4, b5, b6, b7⟩ := id hO
  have hD : ∀ j, j < 12 → qI m (x + 1 + 9) j = nI (O.1.2.2 j) := fun j hj => (hV.2.2.1 j hj).trans (hR.2.2.2.1 j hj)
  have hdu := hw.dus hu
  refine r_aload_n hX dX7_dustyShare_0 rfl ?_
  refine r_getR hX dX7_dustyShare_1 b0.1 fl_X7_10 b0.2.1.1 ?_
  refine r_getR hX dX7_dustyShare_4 hs.1 fl_X7_249 hr.2.1 ?_
  refine r_callV hX dX7_dustyShare_7 (s_X4_dustyPlaces E g m (x + 1 + 8) (x + 1 + 9) (SkyR.ring hs hr)) ml_X7_294 rfl rfl hs.2.2.2.1 rfl ⟨Nat.le_of_ble_eq_true rfl, Nat.le_of_ble_eq_true rfl⟩ ⟨Nat.le_of_ble_eq_true rfl, Nat.le_of_ble_eq_true rfl, rfl, Nat.le_of_ble_eq_true rfl⟩ (fun v7 g7 m7 hp => ?_)
  obtain ⟨hv, hg, hm⟩ := hp
  subst v7
  subst g7
  subst m7
  rw [dus_V hD (fun j hj => by have := ds_ge O.1.2.2 hj; omega) 12 (Nat.le_refl _)]
  refine r_i2f hX dX7_dustyShare_10 ?_
  refine r_ldcWF (v := 1094713344) hX dX7_dustyShare_11 ⟨List.mem_of_getElem? (i := 640) (by decide +kernel), by decide +kernel⟩ ?_
  refine r_fdiv hX dX7_dustyShare_14 (n32_share (by have := dusV_le O.1.2.2 12; omega)) ?_
  exact r_fret hX dX7_dustyShare_15 hO.sameW ⟨Nat.le_of_ble_eq_true rfl, Nat.le_of_ble_eq_true rfl⟩
