/-! ===== CometObservatory: commands carried out ===== -/
def cCmd (V : kV) (k : Nat) (a b c : Int32) : kA := if k = 0 then cAdd V a b c else if k = 1 then cDrop V a else if k = 2 then cTurn V a b else if k = 3 then cShine V a b else if k = 4 then cDay V a else if k = 5 then cVac V a b else cRate V a
theorem cAdd_wf {u : Nat} {V : kV} (h : WfV u V) (p d b : Int32) : WfV (u + 1) (cAdd V p d b).2.2 := by
  unfold cAdd
  by_cases h1 : rng p 2 60 ∧ rng d 1 60 ∧ rng b 1 20
  · rw [if_neg (not_not_intro h1)]
    by_cases h2 : V.1.length = 6
    · rw [if_pos h2]; exact h.mono (by omega)
    · rw [if_neg h2]
      obtain ⟨p9, a1, a2, rfl, hp9⟩ := rng_to h1.1 (by decide) (by decide)
      obtain ⟨d9, a3, a4, rfl, hd9⟩ := rng_to h1.2.1 (by decide) (by decide)
      obtain ⟨b9, a5, a6, rfl, hb9⟩ := rng_to h1.2.2 (by decide) (by decide)
      have hl := h.1
      have h9 : WfW (u + 1) (60 * u) (20 + 7500 * u) (360 * u) (addV V p9 d9 b9) := WfW.add h ⟨a1, a2⟩ ⟨a3, a4⟩ ⟨a5, a6⟩ (by omega)
      show WfV (u + 1) (addV V _ _ _)
      rw [hp9, hd9, hb9]
      exact h9.mono (Nat.le_refl _) (by omega) (by omega) (by omega)
  · rw [if_pos h1]; exact h.mono (by omega)
theorem cDrop_wf {u : Nat} {V : kV} (h : WfV u V) (c : Int32) : WfV (u + 1) (cDrop V c).2.2 := by
  rcases hp : plV V.1 c with _ | i
  · rw [cDrop_n hp]; exact h.mono (by omega)
  · rw [cDrop_s hp]
    exact (WfW.drop h (plV_lt hp).1).mono (by omega) (by omega) (by omega) (by omega)
theorem cTurn_wf {u : Nat} {V : kV} (h : WfV u V) (c p : Int32) : WfV (u + 1) (cTurn V c p).2.2 := by
  rcases hp : plV V.1 c with _ | i
  · rw [cTurn_n hp]; exact h.mono (by omega)
  · rw [cTurn_s hp]
    by_cases h1 : rng p 2 60
    · rw [if_neg (not_not_intro h1)]
      obtain ⟨p9, a1, a2, rfl, hp9⟩ := rng_to h1 (by decide) (by decide)
      show WfV (u + 1) (turnV V i _)
      rw [hp9]
      exact (WfW.turn h (plV_lt hp).1 ⟨a1, a2⟩).mono (by omega) (by omega) (by omega) (by omega)
    · rw [if_pos h1]; exact h.mono (by omega)
theorem cShine_wf {u : Nat} {V : kV} (h : WfV u V) (c a : Int32) : WfV (u + 1) (cShine V c a).2.2 := by
  rcases hp : plV V.1 c with _ | i
  · rw [cShine_n hp]; exact h.mono (by omega)
  · rw [cShine_s hp]
    by_cases h1 : rng a 1 19
    · rw [if_neg (not_not_intro h1)]
      by_cases h2 : 20 < cAt V.1 i 2 + a.toNatClampNeg
      · rw [if_pos h2]; exact h.mono (by omega)
      · rw [if_neg h2]
        by_cases h3 : V.2.1 3 < 3 * a.toNatClampNeg
        · rw [if_pos h3]; exact h.mono (by omega)
        · rw [if_neg h3]
          exact (WfW.shine h (plV_lt hp).1 (by omega)).mono (by omega) (by omega) (by omega) (by omega)
    · rw [if_pos h1]; exact h.mono (by omega)
theorem cDay_wf {u : Nat} {V : kV} (h : WfV u V) (d : Int32) : WfV (u + 1) (cDay V d).2.2 := by
  unfold cDay
  by_cases h1 : rng d 1 60
  · rw [if_neg (not_not_intro h1)]
    obtain ⟨d9, a1, a2, rfl, hd9⟩ := rng_to h1 (by decide) (by decide)
    show WfV (u + 1) (daysV _ V)
    rw [hd9]
    exact (WfW.days d9 h).mono (by omega) (by omega) (by omega) (by omega)
  · rw [if_pos h1]; exact h.mono (by omega)
theorem cVac_wf {u : Nat} {V : kV} (h : WfV u V) (a n : Int32) : WfV (u + 1) (cVac V a n).2.2 := by
  unfold cVac
  by_cases h1 : rng a 0 11
  · rw [if_neg (not_not_intro h1)]
    by_cases h2 : rng n 1 12
    · rw [if_neg (not_not_intro h2)]
      obtain ⟨n9, a1, a2, rfl, hn9⟩ := rng_to h2 (by decide) (by decide)
      rw [hn9]
      split
      · exact h.mono (by omega)
      · exact (WfW.vac h a2).mono (by omega) (by omega) (by omega) (by omega)
    · rw [if_pos h2]; exact h.mono (by omega)
  · rw [if_pos h1]; exact h.mono (by omega)
theorem cRate_wf {u : Nat} {V : kV} (h : WfV u V) (r : Int32) : WfV (u + 1) (cRate V r).2.2 := by
  unfold cRate
  by_cases h1 : rng r 0 9
  · rw [if_neg (not_not_intro h1)]
    obtain ⟨r9, a1, a2, rfl, hr9⟩ := rng_to h1 (by decide) (by decide)
    show WfV (u + 1) (rateV V _)
    rw [hr9]
    exact (WfW.rate h a2).mono (by omega) (by omega) (by omega) (by omega)
  · rw [if_pos h1]; exact h.mono (by omega)
theorem cCmd_wf {u : Nat} {V : kV} (h : WfV u V) (k : Nat) (a b c : Int32) : WfV (u + 1) (cCmd V k a b c).2.2 := by
  unfold cCmd
  split
  · exact cAdd_wf h a b c
  · split
    · exact cDrop_wf h a
    · split
      · exact cTurn_wf h a b
      · split
        · exact cShine_wf h a b
        · split
          · exact cDay_wf h a
          · split
            · exact cVac_wf h a b
            · exact cRate_wf h a
theorem cCmd0 (V : kV) (a b c : Int32) : cCmd V 0 a b c = cAdd V a b c := by unfold cCmd; simp
theorem cCmd1 (V : kV) (a b c : Int32) : cCmd V 1 a b c = cDrop V a := by unfold cCmd; simp
theorem cCmd2 (V : kV) (a b c : Int32) : cCmd V 2 a b c = cTurn V a b := by unfold cCmd; simp
theorem cCmd3 (V : kV) (a b c : Int32) : cCmd V 3 a b c = cShine V a b := by unfold cCmd; simp
theorem cCmd4 (V : kV) (a b c : Int32) : cCmd V 4 a b c = cDay V a := by unfold cCmd; simp
theorem cCmd5 (V : kV) (a b c : Int32) : cCmd V 5 a b c = cVac V a b := by unfold cCmd; simp
theorem cCmd6 (V : kV) (a b c : Int32) : cCmd V 6 a b c = cRate V a := by unfold cCmd; simp
/-- a command's end: whether it could, the sky behind -/
def pC (x : Nat) (g : qG) (m : qM) (r : kA) : Option Value → qG → qM → Prop := fun v g' m' => v = some (.int (if r.1 = 0 then 1 else 0)) ∧ g' = g ∧ SkyQ g m' (x + 1) r.2.2 ∧ Outs (x + 1) 10 m m'
theorem pC_no {x : Nat} {g : qG} {m : qM} {V : kV} {r : kA} (h : SkyQ g m (x + 1) V) {k : Nat} (e : r = (k + 1, 0, V)) : pC x g m r (some (.int 0)) g m := by
  subst e
  exact ⟨rfl, rfl, h, Outs.rf _ _ m⟩
theorem pC_ok {x : Nat} {g : qG} {m m' : qM} {V' : kV} {r : kA} {v : Int32} (h : SkyQ g m' (x + 1) V') (ho : Outs (x + 1) 10 m m') (e : r = (0, v, V')) : pC x g m r (some (.int 1)) g m' := by
  subst e
  exact ⟨rfl, rfl, h, ho⟩
