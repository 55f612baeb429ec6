/-! ===== the law: its script, its standing ===== -/
theorem w_room {p : Program} {l : Launch} {e : Env} {R R' : Room} {s : State} {m : MethodId} {args : Array Value} {below : List Frame} {meth : Method} {c : Code} {H : Heap} {locs : List Loc} {cells slots : Nat} {Q : State → Prop} {g : JFrame} (hf : R'.frames ≤ R.frames) (hl : R'.locals ≤ R.locals) (hc : R'.cells ≤ R.cells) (hs : R'.slots ≤ R.slots) (k : W p l e R' s m args below meth c H locs cells slots Q g) : W p l e R s m args below meth c H locs cells slots Q g := fun T hT X => k T hT ⟨X.admits, X.cas, X.clock, X.frames, by
  have h := X.room
  simp only [State.hasRoom, Bool.and_eq_true, decide_eq_true_eq] at h ⊢
  obtain ⟨⟨⟨⟨y, a, b, c, d, e⟩, f⟩, g⟩, i⟩ := h
  exact ⟨⟨⟨⟨by omega, by omega, by omega, by omega, by omega, e⟩, by omega⟩, by omega⟩, i⟩, X.hears, X.method, X.code, X.here, X.tail, X.warmed, X.limits, X.bytes, X.same⟩
/-- the script of L ints xs lies at b, below all that is written -/
def ScrX (E : qE) (X : qX) (b L : Nat) (xs : Nat → Int32) : Prop := va_X b L xs (xS X) (xS X).heap ∧ b < (xS X).heap.size ∧ ¬ qA E b
section
variable {E : qE} {y : MethodName} {cc : ByteArray} {nL : Nat} {ret : Option FieldType} {k mc ms : Nat} {tab : List ExceptionTableEntry} {X : qX} {cN sN : Nat} {Q : State → Prop} {g : qG} {m : qM} {pc : Nat} {l : List (Option Value)} {st : List Value}
theorem r_sld (hX : MC E y cc nL ret k mc ms tab X) {b L : Nat} {xs : Nat → Int32} (hs : ScrX E X b L xs) {i : Int32} {j : Nat} (hi : i = nI j) (hj : j < L) (hL : L < 2 ^ 31) (d : decode cc pc = .ok (.iaload, 1)) (kk : WS E X cN sN Q g m (pc + 1) l (.int (xs j) :: st)) : WS E X cN sN Q g m pc l (.int i :: .ref b :: st) := fun H locs ls h1 h2 h3 => by
  subst hi
  refine va_sld hX.x hX.b hs.1 hs.2.1 hs.2.2 h2 (pk_in j L hj rfl hL) d ?_
  rw [nI_clamp (by omega)]
  exact kk H locs ls h1 h2 h3
theorem r_slen (hX : MC E y cc nL ret k mc ms tab X) {b L : Nat} {xs : Nat → Int32} (hs : ScrX E X b L xs) (d : decode cc pc = .ok (.arraylength, 1)) (kk : WS E X cN sN Q g m (pc + 1) l (.int (nI L) :: st)) : WS E X cN sN Q g m pc l (.ref b :: st) := fun H locs ls h1 h2 h3 => va_slen hX.x hX.b hs.1 hs.2.1 hs.2.2 h2 d (kk H locs ls h1 h2 h3)
end
/-! what stays -/
section
variable {P : Nat → Prop} {g g' : qG} {m m' : qM}
theorem OutP.ofMF {y : Nat} (h : MF (PM y) m m') : OutP (fun a => y ≤ a ∧ a < y + 7) m m' := OutP.ofI (fun a j ha => h.1 a j ha) h.2
theorem ObsV.outQ {x : Nat} {O : kO} (h : ObsV g m x O) (ho : OutP P m m') (hP : ∀ a, P a → a < x ∨ x + 137 ≤ a) (hv : ∀ a n, P a → g.1 a ≠ some (.inr (2, n))) : ObsV g m' x O := by
  have hn : ∀ a, x ≤ a → a < x + 137 → ¬ P a := fun a h1 h2 q => by
    have := hP a q
    omega
  obtain ⟨b0, b1, b2, ⟨S2, b3⟩, b4, b5, b6, b7⟩ := h
  exact ⟨b0.out ho (hn _ (by omega) (by omega)), b1.out ho (fun a h1 h2 => hn a (by omega) (by omega)), b2.out ho (fun a h1 h2 => hn a (by omega) (by omega)), ⟨S2, b3.outP ho (fun a h1 h2 => hn a (by omega) (by omega))⟩, b4.out ho (fun a h1 h2 => hn a (by omega) (by omega)), b5.out ho (hn _ (by omega) (by omega)), b6.out ho (fun a h1 h2 => hn a (by omega) (by omega)), b7.outP ho (hn _ (by omega) (by omega)) hv⟩
theorem ModSh.n2 {y : Nat} (h : ModSh g y) {a n : Nat} (h1 : y ≤ a) (h2 : a < y + 7) : g.1 a ≠ some (.inr (2, n)) := by
  obtain ⟨a0, a1, a2, a3, a4, a5, a6⟩ := h
  have a0 : g.1 y = _ := a0
  have a1 : g.1 (y + 1) = _ := a1
  have a2 : g.1 (y + 2) = _ := a2
  have a3 : g.1 (y + 3) = _ := a3
  have a4 : g.1 (y + 4) = _ := a4
  have a5 : g.1 (y + 5) = _ := a5
  have a6 : g.1 (y + 6) = _ := a6
  obtain rfl | rfl | rfl | rfl | rfl | rfl | rfl : a = y ∨ a = y + 1 ∨ a = y + 2 ∨ a = y + 3 ∨ a = y + 4 ∨ a = y + 5 ∨ a = y + 6 := by omega
  · rw [a0]; simp
  · rw [a1]; simp
  · rw [a2]; simp
  · rw [a3]; simp
  · rw [a4]; simp
  · rw [a5]; simp
  · rw [a6]; simp
theorem ModV.frp {y : Nat} {O : kO} (h : ModV g m y O) (hF : FrP P g m g' m') (hP : ∀ a, y ≤ a → a < y + 7 → ¬ P a) (hk : ∀ a sh, gAt g a sh → a < g.2) : ModV g' m' y O := by
  have hsh := h.1.1.1
  have hlt : ∀ a, y ≤ a → a < y + 7 → a < g.2 := fun a h1 h2 => Nat.lt_of_lt_of_le h2 (by have := hk _ _ hsh.2.2.2.2.2.2; omega)
  have hS : ∀ a, y ≤ a → a < y + 7 → SameA m m' a := fun a h1 h2 => hF.2.2 a (hlt a h1 h2) (hP a h1 h2) (fun n => hsh.n2 h1 h2)
  have hrf := h.1.1.2
  obtain ⟨⟨-, rest⟩, l6, hR⟩ := h.fr (m' := (m'.1, m.2)) (fun a j hb => by
    have ha : y ≤ a ∧ a < y + 7 := by
      unfold PB at hb
      omega
    exact congrFun (hS a ha.1 ha.2).1 j) rfl
  have hr : ∀ j, qR m' y j = qR m y j := fun j => congrFun (hS y (Nat.le_refl _) (by omega)).2.1 j
  obtain ⟨a0, a1, a2, a3, a4, a5, a6⟩ := hsh
  obtain ⟨r0, r1, r2, r3, r4, r5⟩ := hrf
  exact ⟨⟨⟨⟨hF.gAt a0 (hk _ _ a0), hF.gAt a1 (hk _ _ a1), hF.gAt a2 (hk _ _ a2), hF.gAt a3 (hk _ _ a3), hF.gAt a4 (hk _ _ a4), hF.gAt a5 (hk _ _ a5), hF.gAt a6 (hk _ _ a6)⟩, (hr 1).trans r0, (hr 5).trans r1, (hr 6).trans r2, (hr 7).trans r3, (hr 13).trans r4, (hr 15).trans r5⟩, rest⟩, l6, hR⟩
end
/-- what stands between two calls of the law: the class's object at x, the reference at x + 138, the rows of answers at x + 145, x + 146 -/
def LI (x u : Nat) (O : kO) (g : qG) (m : qM) : Prop := ObsV g m x O ∧ ModV g m (x + 138) O ∧ gAt g (x + 145) (.inr (3, 1)) ∧ gAt g (x + 146) (.inr (4, 1)) ∧ WfO u O
/-- behind a call of the class -/
def LJ (x u : Nat) (O O' : kO) (g : qG) (m : qM) : Prop := ObsV g m x O' ∧ ModV g m (x + 138) O ∧ gAt g (x + 145) (.inr (3, 1)) ∧ gAt g (x + 146) (.inr (4, 1)) ∧ WfO u O
section
variable {x u : Nat} {O O' : kO} {g g' : qG} {m m' : qM}
theorem LI.frp {P : Nat → Prop} (h : LI x u O g m) (hO : ObsV g' m' x O') (hF : FrP P g m g' m') (hP : ∀ a, P a → a < x + 138 ∨ x + 145 ≤ a) (hk : ∀ a sh, gAt g a sh → a < g.2) : LJ x u O O' g' m' := by
  obtain ⟨-, h2, h3, h4, h5⟩ := h
  exact ⟨hO, h2.frp hF (fun a h1 h2 q => by have := hP a q; omega) hk, hF.gAt h3 (hk _ _ h3), hF.gAt h4 (hk _ _ h4), h5⟩
theorem LI.lp {w : Nat} (h : LI x u O g m) (hO : ObsV g' m' x O') (hF : FrP (LPw x w) g m g' m') (hw : w = x + 145 ∨ w = x + 146) (hk : ∀ a sh, gAt g a sh → a < g.2) : LJ x u O O' g' m' := h.frp hO hF (fun a q => by unfold LPw at q; omega) hk
theorem LI.lx (h : LI x u O g m) (hO : ObsV g' m' x O') (hF : FrP (fun a => x ≤ a ∧ a < x + 137) g m g' m') (hk : ∀ a sh, gAt g a sh → a < g.2) : LJ x u O O' g' m' := h.frp hO hF (fun a q => by omega) hk
theorem LJ.fin (h : LJ x u O O' g m) (hM : ModV g m' (x + 138) O') (hF : MF (PM (x + 138)) m m') {u' : Nat} (hw : WfO u' O') : LI x u' O' g m' := by
  obtain ⟨h1, h2, h3, h4, -⟩ := h
  have hs := h2.1.1.1
  exact ⟨h1.outQ (OutP.ofMF hF) (fun a q => by omega) (fun a n q => hs.n2 q.1 (by omega)), hM, h3, h4, hw⟩
end
theorem MF.qJ {P : Nat → Nat → Prop} {m m' : qM} (h : MF P m m') (a j : Nat) : qJ m' a j = qJ m a j := by
  show m'.2.2.1 a j = m.2.2.1 a j
  rw [h.2]
theorem MF.qD {P : Nat → Nat → Prop} {m m' : qM} (h : MF P m m') (a j : Nat) : qD m' a j = qD m a j := by
  show m'.2.2.2 a j = m.2.2.2 a j
  rw [h.2]
theorem lg_self (a : Int64) : lg_cmp a a = 0 := (lg_cmp_eq a a).mpr rfl
theorem r0_of {n : Nat} (h : n < 5) (h2 : nI n = 0) : n = 0 := (nI_eq (b := 0) (by omega) (by decide)).mp h2
