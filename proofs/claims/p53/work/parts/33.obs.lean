/-! ===== the whole observatory, in numbers ===== -/
/-- the state, the saved one, those ahead of the latest changes (the latest first), error position, failed command, the text's signs, its length, the line -/
abbrev kO : Type := kV × Option kV × List kV × Option Nat × Option Nat × (Nat → Nat) × Nat × List Nat
abbrev oSv (O : kO) : Option kV := O.2.1
abbrev oHi (O : kO) : List kV := O.2.2.1
abbrev oEr (O : kO) : Option Nat := O.2.2.2.1
abbrev oFa (O : kO) : Option Nat := O.2.2.2.2.1
abbrev oTx (O : kO) : Nat → Nat := O.2.2.2.2.2.1
abbrev oTn (O : kO) : Nat := O.2.2.2.2.2.2.1
abbrev oLn (O : kO) : List Nat := O.2.2.2.2.2.2.2
def WfO (u : Nat) (O : kO) : Prop := WfV u O.1 ∧ (∀ V, oSv O = some V → WfV u V) ∧ (∀ V ∈ oHi O, WfV u V) ∧ (oHi O).length ≤ 8 ∧ oTn O ≤ 60 ∧ (∀ j, oTx O j < 65536) ∧ (oLn O).length ≤ 110 ∧ (∀ c ∈ oLn O, c < 128) ∧ (∀ n, oEr O = some n → n ≤ 60) ∧ (∀ n, oFa O = some n → n ≤ 60)
def RepH (T : kH) (l : List kV) : Prop := T.2.2 = l.length ∧ ∀ (i : Nat) (V : kV), l[i]? = some V → RepS (T.1 ((T.2.1 + (T.2.2 - 1 - i)) % 8)) V
theorem RepH.push {T : kH} {l : List kV} {S : kS} {V : kV} (h : RepH T l) (hS : RepS S V) (h1 : T.2.1 < 8) (h2 : T.2.2 ≤ 8) : RepH (pushH T S) ((V :: l).take 8) := by
  obtain ⟨e, hr⟩ := h
  have hlen : ((V :: l).take 8).length = if T.2.2 < 8 then T.2.2 + 1 else T.2.2 := by
    rw [List.length_take, List.length_cons]
    split <;> omega
  refine ⟨hlen.symm, fun i W hi => ?_⟩
  have hi8 : i < 8 := by
    have := (List.getElem?_eq_some_iff.mp hi).1
    rw [hlen] at this
    split at this <;> omega
  rw [List.getElem?_take, if_pos hi8] at hi
  show RepS (if ((if T.2.2 < 8 then T.2.1 else (T.2.1 + 1) % 8) + ((if T.2.2 < 8 then T.2.2 + 1 else T.2.2) - 1 - i)) % 8 = (T.2.1 + T.2.2) % 8 then S else T.1 (((if T.2.2 < 8 then T.2.1 else (T.2.1 + 1) % 8) + ((if T.2.2 < 8 then T.2.2 + 1 else T.2.2) - 1 - i)) % 8)) W
  rcases i with _ | i
  · rw [List.getElem?_cons_zero] at hi
    cases hi
    rw [if_pos (by split <;> omega)]
    exact hS
  · rw [List.getElem?_cons_succ] at hi
    have hil := (List.getElem?_eq_some_iff.mp hi).1
    have h9 := hr i W hi
    rw [if_neg (by split <;> omega)]
    have e2 : ((if T.2.2 < 8 then T.2.1 else (T.2.1 + 1) % 8) + ((if T.2.2 < 8 then T.2.2 + 1 else T.2.2) - 1 - (i + 1))) % 8 = (T.2.1 + (T.2.2 - 1 - i)) % 8 := by split <;> omega
    rw [e2]
    exact h9
theorem RepH.pop {T : kH} {l : List kV} {V : kV} (h : RepH T (V :: l)) : RepS (topH T) V ∧ RepH (popH T) l := by
  obtain ⟨e, hr⟩ := h
  have e : T.2.2 = l.length + 1 := e
  refine ⟨?_, ?_, fun i W hi => ?_⟩
  · exact hr 0 V rfl
  · show T.2.2 - 1 = _; omega
  · have hil := (List.getElem?_eq_some_iff.mp hi).1
    have h9 := hr (i + 1) W hi
    show RepS (T.1 ((T.2.1 + (T.2.2 - 1 - 1 - i)) % 8)) W
    have e2 : T.2.2 - 1 - 1 - i = T.2.2 - 1 - (i + 1) := by omega
    rw [e2]
    exact h9
/-! where it lies: the object at x, its skies at x + 1, x + 11, x + 21, the history at x + 31, the telescope at x + 113, the program at x + 120, the line at x + 136 -/
def ObH (g : qG) (m : qM) (x : Nat) (O : kO) : Prop := gAt g x (.inl 10) ∧ (qR m x 0 = some (x + 1) ∧ qR m x 1 = some (x + 11) ∧ qR m x 2 = some (x + 21) ∧ qR m x 3 = some (x + 31) ∧ qR m x 4 = some (x + 113) ∧ qR m x 5 = some (x + 120) ∧ qR m x 6 = some (x + 136)) ∧ qI m x 7 = (if (oSv O).isSome = true then 1 else 0) ∧ qI m x 8 = oI (oEr O) ∧ qI m x 9 = oI (oFa O)
def SkyQ (g : qG) (m : qM) (q : Nat) (V : kV) : Prop := ∃ S, SkyIs g m q S ∧ RepS S V
def SavQ (g : qG) (m : qM) (q : Nat) (v : Option kV) : Prop := ∃ S, SkyIs g m q S ∧ ∀ V, v = some V → RepS S V
def HisQ (g : qG) (m : qM) (h : Nat) (l : List kV) : Prop := ∃ T, HisIs g m h T ∧ RepH T l
def ProQ (g : qG) (m : qM) (q : Nat) (tx : Nat → Nat) (n : Nat) : Prop := ProS g m q ∧ qI m q 3 = nI n ∧ ∀ j, qI m (q + 1) j = nI (tx j)
def ObsV (g : qG) (m : qM) (x : Nat) (O : kO) : Prop := ObH g m x O ∧ SkyQ g m (x + 1) O.1 ∧ SavQ g m (x + 11) (oSv O) ∧ (∃ S, SkyIs g m (x + 21) S) ∧ HisQ g m (x + 31) (oHi O) ∧ TelS g m (x + 113) ∧ ProQ g m (x + 120) (oTx O) (oTn O) ∧ SbIs g m (x + 136) (oLn O)
theorem SameA.of {P : Nat → Prop} {m m' : qM} (h : OutP P m m') {a : Nat} (ha : ¬ P a) : SameA m m' a := ⟨funext fun j => (h.1 a j ha).1, funext fun j => (h.1 a j ha).2, congrFun (congrArg Prod.fst h.2) a, congrFun (congrArg Prod.snd h.2) a⟩
theorem FrP.of {P Q : Nat → Prop} {g : qG} {m m' : qM} (h : OutP P m m') (hP : ∀ a, P a → Q a) : FrP Q g m g m' := ⟨Nat.le_refl _, fun _ _ => rfl, fun a _ ha _ => SameA.of h (fun q => ha (hP a q))⟩
section
variable {P : Nat → Prop} {g : qG} {m m' : qM}
theorem ObH.out {x : Nat} {O : kO} (h : ObH g m x O) (ho : OutP P m m') (hx : ¬ P x) : ObH g m' x O := by
  obtain ⟨h1, ⟨a0, a1, a2, a3, a4, a5, a6⟩, h2, h3, h4⟩ := h
  have e : ∀ j, qI m' x j = qI m x j ∧ qR m' x j = qR m x j := fun j => ho.1 x j hx
  exact ⟨h1, ⟨(e 0).2.trans a0, (e 1).2.trans a1, (e 2).2.trans a2, (e 3).2.trans a3, (e 4).2.trans a4, (e 5).2.trans a5, (e 6).2.trans a6⟩, (e 7).1.trans h2, (e 8).1.trans h3, (e 9).1.trans h4⟩
theorem SkyQ.out {q : Nat} {V : kV} (h : SkyQ g m q V) (ho : OutP P m m') (hd : ∀ a, q ≤ a → a < q + 10 → ¬ P a) : SkyQ g m' q V := let ⟨S, h1, h2⟩ := h; ⟨S, h1.outP ho hd, h2⟩
theorem SavQ.out {q : Nat} {v : Option kV} (h : SavQ g m q v) (ho : OutP P m m') (hd : ∀ a, q ≤ a → a < q + 10 → ¬ P a) : SavQ g m' q v := let ⟨S, h1, h2⟩ := h; ⟨S, h1.outP ho hd, h2⟩
theorem HisQ.out {q : Nat} {l : List kV} (h : HisQ g m q l) (ho : OutP P m m') (hd : ∀ a, q ≤ a → a < q + 82 → ¬ P a) : HisQ g m' q l := let ⟨T, h1, h2⟩ := h; ⟨T, h1.outP ho hd, h2⟩
theorem TelS.out {q : Nat} (h : TelS g m q) (ho : OutP P m m') (hx : ¬ P q) : TelS g m' q := by
  obtain ⟨h1, a0, a1, a2, a3, a4, a5⟩ := h
  have e : ∀ j, qR m' q j = qR m q j := fun j => (ho.1 q j hx).2
  exact ⟨h1, (e 0).trans a0, (e 1).trans a1, (e 2).trans a2, (e 3).trans a3, (e 4).trans a4, (e 5).trans a5⟩
theorem ProS.out {q : Nat} (h : ProS g m q) (ho : OutP P m m') (hx : ¬ P q) (h3 : ¬ P (q + 3)) : ProS g m' q := by
  obtain ⟨h1, a0, a1, a2, a3⟩ := h
  have e : ∀ j, qR m' q j = qR m q j := fun j => (ho.1 q j hx).2
  exact ⟨h1, (e 0).trans a0, (e 1).trans a1, (e 2).trans a2, fun i hi => (ho.1 _ i h3).2.trans (a3 i hi)⟩
theorem ProQ.out {q n : Nat} {tx : Nat → Nat} (h : ProQ g m q tx n) (ho : OutP P m m') (hd : ∀ a, q ≤ a → a < q + 4 → ¬ P a) : ProQ g m' q tx n :=
  ⟨h.1.out ho (hd q (by omega) (by omega)) (hd _ (by omega) (by omega)), (ho.1 q 3 (hd q (by omega) (by omega))).1.trans h.2.1, fun j => (ho.1 _ j (hd _ (by omega) (by omega))).1.trans (h.2.2 j)⟩
theorem SbIs.outP {b : Nat} {cs : List Nat} (h : SbIs g m b cs) (ho : OutP P m m') (hb : ¬ P b) (hv : ∀ a n, P a → g.1 a ≠ some (.inr (2, n))) : SbIs g m' b cs := by
  obtain ⟨v, cap, ⟨h1, h2, h3, h4, h5, h6, h7, h8⟩, h9, h10⟩ := h
  have hnv : ¬ P v := fun q => hv v cap q h3
  exact ⟨v, cap, ⟨h1, (ho.1 b 0 hb).2.trans h2, h3, (ho.1 b 1 hb).1.trans h4, (ho.1 b 3 hb).1.trans h5, h6, h7, fun j hj => by rw [(ho.1 v j hnv).1]; exact h8 j hj⟩, fun j hj => (ho.1 v j hnv).1.trans (h9 j hj), h10⟩
theorem SkySh.n2 {q : Nat} (h : SkySh g q) {a n : Nat} (h1 : q ≤ a) (h2 : a < q + 10) : g.1 a ≠ some (.inr (2, n)) := by
  obtain ⟨a1, a2, a3, a4, a5⟩ := h
  have a1 : g.1 q = _ := a1
  have a2 : g.1 (q + 1) = _ := a2
  have a4 : g.1 (q + 8) = _ := a4
  have a5 : g.1 (q + 9) = _ := a5
  by_cases e0 : a = q
  · rw [e0, a1]; simp
  · by_cases e1 : a = q + 1
    · rw [e1, a2]; simp
    · by_cases e2 : a < q + 8
      · have a3 : g.1 (q + 2 + (a - (q + 2))) = _ := a3 (a - (q + 2)) (by omega)
        rw [show q + 2 + (a - (q + 2)) = a by omega] at a3
        rw [a3]; simp
      · by_cases e3 : a = q + 8
        · rw [e3, a4]; simp
        · rw [show a = q + 9 by omega, a5]; simp
theorem ObsV.n2 {x : Nat} {O : kO} (h : ObsV g m x O) {a n : Nat} (h1 : x ≤ a) (h2 : a < x + 136) : g.1 a ≠ some (.inr (2, n)) := by
  obtain ⟨b0, ⟨S0, b1, -⟩, ⟨S1, b2, -⟩, ⟨S2, b3⟩, ⟨T, b4, -⟩, ⟨⟨t0, t1, t2, t3, t4, t5, t6⟩, -⟩, ⟨⟨⟨p0, p1, p2, p3, p4⟩, -⟩, -⟩, b7⟩ := h
  have c0 : g.1 x = _ := b0.1
  have t0 : g.1 _ = _ := t0
  have t1 : g.1 _ = _ := t1
  have t2 : g.1 _ = _ := t2
  have t3 : g.1 _ = _ := t3
  have t4 : g.1 _ = _ := t4
  have t5 : g.1 _ = _ := t5
  have t6 : g.1 _ = _ := t6
  have p0 : g.1 _ = _ := p0
  have p1 : g.1 _ = _ := p1
  have p2 : g.1 _ = _ := p2
  have p3 : g.1 _ = _ := p3
  have d0 : g.1 (x + 31) = _ := b4.1
  have d1 : g.1 (x + 31 + 1) = _ := b4.2.2.1
  by_cases e0 : a = x
  · rw [e0, c0]; simp
  by_cases e1 : a < x + 11
  · exact b1.1.n2 (by omega) (by omega)
  by_cases e2 : a < x + 21
  · exact b2.1.n2 (by omega) (by omega)
  by_cases e3 : a < x + 31
  · exact b3.1.n2 (by omega) (by omega)
  by_cases e4 : a = x + 31
  · rw [e4, d0]; simp
  by_cases e5 : a = x + 32
  · rw [e5, d1]; simp
  by_cases e6 : a < x + 113
  · have hi : (a - (x + 33)) / 10 < 8 := by omega
    exact (b4.2.2.2.1 _ hi).2.1.n2 (by omega) (by omega)
  by_cases e7 : a < x + 120
  · obtain rfl | rfl | rfl | rfl | rfl | rfl | rfl : a = x + 113 ∨ a = x + 113 + 1 ∨ a = x + 113 + 2 ∨ a = x + 113 + 3 ∨ a = x + 113 + 4 ∨ a = x + 113 + 5 ∨ a = x + 113 + 6 := by omega
    · rw [t0]; simp
    · rw [t1]; simp
    · rw [t2]; simp
    · rw [t3]; simp
    · rw [t4]; simp
    · rw [t5]; simp
    · rw [t6]; simp
  by_cases e8 : a < x + 124
  · obtain rfl | rfl | rfl | rfl : a = x + 120 ∨ a = x + 120 + 1 ∨ a = x + 120 + 2 ∨ a = x + 120 + 3 := by omega
    · rw [p0]; simp
    · rw [p1]; simp
    · rw [p2]; simp
    · rw [p3]; simp
  · have p4 : g.1 (x + 120 + 4 + (a - (x + 124))) = _ := p4 (a - (x + 124)) (by omega)
    rw [show x + 120 + 4 + (a - (x + 124)) = a by omega] at p4
    rw [p4]; simp
/-- the state and the history change -/
theorem ObsV.ch {x : Nat} {O : kO} (h : ObsV g m x O) {V : kV} {l : List kV} (hS : SkyQ g m' (x + 1) V) (hH : HisQ g m' (x + 31) l) (ho : OutP (fun a => (x + 1 ≤ a ∧ a < x + 11) ∨ (x + 31 ≤ a ∧ a < x + 113)) m m') : ObsV g m' x (V, O.2.1, l, O.2.2.2) := by
  have hn := fun (a n : Nat) (hP : (x + 1 ≤ a ∧ a < x + 11) ∨ (x + 31 ≤ a ∧ a < x + 113)) => h.n2 (a := a) (n := n) (by omega) (by omega)
  obtain ⟨b0, b1, b2, ⟨S2, b3⟩, b4, b5, b6, b7⟩ := h
  exact ⟨b0.out ho (by omega), hS, b2.out ho (by omega), ⟨S2, b3.outP ho (by omega)⟩, hH, b5.out ho (by omega), b6.out ho (by omega), b7.outP ho (by omega) hn⟩
end
theorem ObsV.frx {P : Nat → Prop} {g : qG} {m m' : qM} {x : Nat} (ho : OutP P m m') (hP : ∀ a, P a → x ≤ a ∧ a < x + 137) : FrP (fun a => x ≤ a ∧ a < x + 137) g m g m' := FrP.of ho hP
/-! answers -/
/-- how a call of the class ends, by its number (0: it returns), its answer, the state behind -/
abbrev kR : Type := Nat × Int32 × kO
def pO (x : Nat) (g : qG) (m : qM) (R : kR) : Option Value → qG → qM → Prop := fun v g' m' => R.1 = 0 ∧ v = some (.int R.2.1) ∧ ObsV g' m' x R.2.2 ∧ FrP (fun a => x ≤ a ∧ a < x + 137) g m g' m'
def pX (x : Nat) (g : qG) (m : qM) (ns : List String) (R : kR) : String → qG → qM → Prop := fun nm g' m' => (∃ k, R.1 = k + 1 ∧ ns[k]? = some nm) ∧ ObsV g' m' x R.2.2 ∧ FrP (fun a => x ≤ a ∧ a < x + 137) g m g' m'
theorem ObsV.same {g : qG} {m : qM} {x : Nat} {O : kO} (h : ObsV g m x O) {r : Int32} : pO x g m (0, r, O) (some (.int r)) g m := ⟨rfl, rfl, h, FrP.rf _ g m⟩
theorem ObsV.thr {g : qG} {m : qM} {x : Nat} {O : kO} (h : ObsV g m x O) {ns : List String} {k n : Nat} {r : Int32} {nm : String} (hn : g.2 ≤ n) (hk : ns[k]? = some nm) : pX x g m ns (k + 1, r, O) nm (g.1, n) m := ⟨⟨k, rfl, hk⟩, h, (FrP.rf _ g m).up hn⟩
/-! ===== the commands' answers: 0, or what a call throws (1 no such index or element, 2 a bad argument, 3 a bad state, 4 not possible) ===== -/
abbrev kA : Type := Nat × Int32 × kV
def cAdd (V : kV) (p d b : Int32) : kA := if ¬ (rng p 2 60 ∧ rng d 1 60 ∧ rng b 1 20) then (2, 0, V) else if V.1.length = 6 then (3, 0, V) else (0, nI (V.2.1 1), addV V p.toNatClampNeg d.toNatClampNeg b.toNatClampNeg)
def cDrop (V : kV) (x : Int32) : kA := match plV V.1 x with
  | none => (1, 0, V)
  | some i => (0, nI (V.2.1 3 + cAt V.1 i 2), dropV V i)
def cTurn (V : kV) (x p : Int32) : kA := match plV V.1 x with
  | none => (1, 0, V)
  | some i => if ¬ rng p 2 60 then (2, 0, V) else (0, nI (cAt V.1 i 1), turnV V i p.toNatClampNeg)
def cShine (V : kV) (x a : Int32) : kA := match plV V.1 x with
  | none => (1, 0, V)
  | some i => if ¬ rng a 1 19 then (2, 0, V) else if 20 < cAt V.1 i 2 + a.toNatClampNeg then (3, 0, V) else if V.2.1 3 < 3 * a.toNatClampNeg then (4, 0, V) else (0, nI (cAt V.1 i 2 + a.toNatClampNeg), shineV V i a.toNatClampNeg)
def cDay (V : kV) (d : Int32) : kA := if ¬ rng d 1 60 then (2, 0, V) else (0, nI ((daysV d.toNatClampNeg V).2.1 5 - V.2.1 5), daysV d.toNatClampNeg V)
def cVac (V : kV) (a n : Int32) : kA := if ¬ rng a 0 11 then (1, 0, V) else if ¬ rng n 1 12 then (2, 0, V) else if V.2.1 3 + ds V.2.2 a.toNatClampNeg n.toNatClampNeg < V.2.1 4 * n.toNatClampNeg then (3, 0, V) else (0, nI (ds V.2.2 a.toNatClampNeg n.toNatClampNeg), vacV V a.toNatClampNeg n.toNatClampNeg)
def cRate (V : kV) (r : Int32) : kA := if ¬ rng r 0 9 then (2, 0, V) else (0, nI (V.2.1 4), rateV V r.toNatClampNeg)
/-- a changing call out of its command: the numbers of its clause -/
def chg (O : kO) (r : kA) (none bad state unable : Nat) : kR := if r.1 = 0 then (0, r.2.1, r.2.2, O.2.1, (O.1 :: O.2.2.1).take 8, O.2.2.2) else (if r.1 = 1 then none else if r.1 = 2 then bad else if r.1 = 3 then state else unable, 0, O)
