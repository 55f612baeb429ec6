/-! ===== the bounds after a call ===== -/
theorem chg_0 {O : kO} {r : kA} {a b s u : Nat} (h : r.1 = 0) : chg O r a b s u = (0, r.2.1, r.2.2, O.2.1, (O.1 :: O.2.2.1).take 8, O.2.2.2) := if_pos h
theorem WfO.up {u u' : Nat} {O : kO} (h : WfO u O) (hu : u ≤ u') : WfO u' O := by
  obtain ⟨a1, a2, a3, a4⟩ := h
  exact ⟨a1.mono hu, fun V hV => (a2 V hV).mono hu, fun V hV => (a3 V hV).mono hu, a4⟩
theorem wf_chg {u u' : Nat} {O : kO} (h : WfO u O) {r : kA} (hr : WfV u' r.2.2) (hu : u ≤ u') (a b s t : Nat) : WfO u' (chg O r a b s t).2.2 := by
  by_cases e : r.1 = 0
  · rw [chg_0 e]
    obtain ⟨a1, a2, a3, a4, a5⟩ := h.up hu
    refine ⟨hr, a2, fun V hV => ?_, ?_, a5⟩
    · rcases List.mem_cons.mp (List.mem_of_mem_take hV) with rfl | hV
      · exact a1
      · exact a3 V hV
    · show ((O.1 :: O.2.2.1).take 8).length ≤ 8
      rw [List.length_take]; omega
  · unfold chg
    rw [if_neg e]
    exact h.up hu
theorem addO_wf {u : Nat} {O : kO} (h : WfO u O) (p d b : Int32) : WfO (u + 12) (addO O p d b).2.2 := wf_chg h ((cAdd_wf h.1 p d b).mono (by omega)) (by omega) _ _ _ _
theorem dropO_wf {u : Nat} {O : kO} (h : WfO u O) (c : Int32) : WfO (u + 12) (dropO O c).2.2 := wf_chg h ((cDrop_wf h.1 c).mono (by omega)) (by omega) _ _ _ _
theorem turnO_wf {u : Nat} {O : kO} (h : WfO u O) (c p : Int32) : WfO (u + 12) (turnO O c p).2.2 := wf_chg h ((cTurn_wf h.1 c p).mono (by omega)) (by omega) _ _ _ _
theorem shineO_wf {u : Nat} {O : kO} (h : WfO u O) (c p : Int32) : WfO (u + 12) (shineO O c p).2.2 := wf_chg h ((cShine_wf h.1 c p).mono (by omega)) (by omega) _ _ _ _
theorem dayO_wf {u : Nat} {O : kO} (h : WfO u O) (d : Int32) : WfO (u + 12) (dayO O d).2.2 := wf_chg h ((cDay_wf h.1 d).mono (by omega)) (by omega) _ _ _ _
theorem vacO_wf {u : Nat} {O : kO} (h : WfO u O) (a n : Int32) : WfO (u + 12) (vacO O a n).2.2 := wf_chg h ((cVac_wf h.1 a n).mono (by omega)) (by omega) _ _ _ _
theorem rateO_wf {u : Nat} {O : kO} (h : WfO u O) (r : Int32) : WfO (u + 12) (rateO O r).2.2 := wf_chg h ((cRate_wf h.1 r).mono (by omega)) (by omega) _ _ _ _
theorem setLn_wf {u : Nat} {O : kO} (h : WfO u O) {l : List Nat} (h1 : l.length ≤ 110) (h2 : ∀ c ∈ l, c < 128) : WfO (u + 12) (setLn O l) := by
  obtain ⟨a1, a2, a3, a4, a5, a6, a7, a8, a9⟩ := h.up (u' := u + 12) (by omega)
  exact ⟨a1, a2, a3, a4, a5, a6, h1, h2, a9⟩
theorem wcO_wf {u : Nat} {O : kO} (h : WfO u O) (c : Int32) : WfO (u + 12) (wcO O c).2.2 := by
  unfold wcO
  split
  · exact h.up (by omega)
  · rename_i i e
    refine setLn_wf h ?_ (fun x hx => ?_)
    · have d0 := digs_le (cAt O.1.1 i 0)
      have d1 := digs_le (cAt O.1.1 i 1)
      have d2 := digs_le (cAt O.1.1 i 2)
      have d3 := digs_le (cAt O.1.1 i 3)
      unfold cLine
      simp only [List.length_append, decL_len, List.length_cons, List.length_nil]
      omega
    · unfold cLine at hx
      simp only [List.mem_append, List.mem_singleton, List.nil_append] at hx
      rcases hx with (((((hx | hx) | hx) | hx) | hx) | hx) | hx
      all_goals first | exact decL_lt hx | omega
theorem rLine_lt {f : Nat → Nat} : ∀ (k : Nat) (x : Nat), x ∈ rLine f k → x < 128
  | 0, x, hx => absurd hx List.not_mem_nil
  | k + 1, x, hx => by
    unfold rLine at hx
    rcases List.mem_append.mp hx with hx | hx
    · split at hx
      · rcases List.mem_append.mp hx with hx | hx
        · exact rLine_lt k x hx
        · rw [List.mem_singleton] at hx; omega
      · exact rLine_lt k x hx
    · exact decL_lt hx
theorem wrO_wf {u : Nat} {O : kO} (h : WfO u O) (hu : u ≤ 6144) : WfO (u + 12) (wrO O).2.2 := by
  refine setLn_wf h ?_ (fun x hx => rLine_lt 12 x hx)
  have h8 : ∀ j, j < 12 → digs (O.1.2.2 j) ≤ 8 := fun j hj => digs_8 (by
    have h1 := ds_ge O.1.2.2 hj
    have h2 := h.dus hu
    omega)
  have := rLine_len h8 12 (Nat.le_refl _)
  omega
/-! a program run -/
