/-! ===== the bounds after a call ===== -/
theorem WfO.up {u u' : Nat} {O : kO} (h : WfO u O) (hu : u ≤ u') : WfO u' O := by
  obtain ⟨a1, a2, a3, a4⟩ := h
  exact ⟨a1.mono hu, fun V hV => (a2 V hV).mono hu, fun V hV => (a3 V hV).mono hu, a4⟩
theorem wf_chg {u u' : Nat} {O : kO} (h : WfO u O) {r : kA} (hr : WfV u' r.2.2) (hu : u ≤ u') (a b s t : Nat) : WfO u' (chg O r a b s t).2.2 := by
  by_cases e : r.1 = 0
  · rw [chg_0 e]
    obtain ⟨a1, a2, a3, a4, a5⟩ := h.up hu
    refine ⟨hr, a2, fun V hV => ?_, ?_, a5⟩
    · rcases List.mem_cons.mp (List.mem_of_mem_take hV) with rfl | hV
      · exact a1
      · exact a3 V hV
    · show ((O.1 :: O.2.2.1).take 8).length ≤ 8
      rw [List.length_take]; omega
  · unfold chg
    rw [if_neg e]
    exact h.up hu
theorem addO_wf {u : Nat} {O : kO} (h : WfO u O) (p d b : Int32) : WfO (u + 12) (addO O p d b).2.2 := wf_chg h ((cAdd_wf h.1 p d b).mono (by omega)) (by omega) _ _ _ _
theorem dropO_wf {u : Nat} {O : kO} (h : WfO u O) (c : Int32) : WfO (u + 12) (dropO O c).2.2 := wf_chg h ((cDrop_wf h.1 c).mono (by omega)) (by omega) _ _ _ _
theorem turnO_wf {u : Nat} {O : kO} (h : WfO u O) (c p : Int32) : WfO (u + 12) (turnO O c p).2.2 := wf_chg h ((cTurn_wf h.1 c p).mono (by omega)) (by omega) _ _ _ _
theorem shineO_wf {u : Nat} {O : kO} (h : WfO u O) (c p : Int32) : WfO (u + 12) (shineO O c p).2.2 := wf_chg h ((cShine_wf h.1 c p).mono (by omega)) (by omega) _ _ _ _
theorem dayO_wf {u : Nat} {O : kO} (h : WfO u O) (d : Int32) : WfO (u + 12) (dayO O d).2.2 := wf_chg h ((cDay_wf h.1 d).mono (by omega)) (by omega) _ _ _ _
theorem vacO_wf {u : Nat} {O : kO} (h : WfO u O) (a n : Int32) : WfO (u + 12) (vacO O a n).2.2 := wf_chg h ((cVac_wf h.1 a n).mono (by omega)) (by omega) _ _ _ _
theorem rateO_wf {u : Nat} {O : kO} (h : WfO u O) (r : Int32) : WfO (u + 12) (rateO O r).2.2 := wf_chg h ((cRate_wf h.1 r).mono (by omega)) (by omega) _ _ _ _
theorem undoO_wf {u : Nat} {O : kO} (h : WfO u O) : WfO (u + 12) (undoO O).2.2 := by
  unfold undoO
  split
  · exact h.up (by omega)
  · rename_i V l e
    obtain ⟨a1, a2, a3, a4, a5⟩ := h.up (u' := u + 12) (by omega)
    have a3 : ∀ W ∈ O.2.2.1, WfV (u + 12) W := a3
    have a4 : O.2.2.1.length ≤ 8 := a4
    rw [e] at a3 a4
    rw [List.length_cons] at a4
    exact ⟨a3 V List.mem_cons_self, a2, fun W hW => a3 W (List.mem_cons_of_mem _ hW), by show l.length ≤ 8; omega, a5⟩
theorem saveO_wf {u : Nat} {O : kO} (h : WfO u O) : WfO (u + 12) (saveO O).2.2 := by
  obtain ⟨a1, a2, a3⟩ := h.up (u' := u + 12) (by omega)
  refine ⟨a1, fun V hV => ?_, a3⟩
  have hV : some O.1 = some V := hV
  cases hV
  exact a1
theorem restO_wf {u : Nat} {O : kO} (h : WfO u O) : WfO (u + 12) (restO O).2.2 := by
  unfold restO
  split
  · exact h.up (by omega)
  · rename_i V e
    obtain ⟨a1, a2, a3, a4, a5⟩ := h.up (u' := u + 12) (by omega)
    refine ⟨a2 V e, fun W hW => ?_, fun W hW => absurd hW List.not_mem_nil, Nat.zero_le 8, a5⟩
    have hW : some V = some W := hW
    cases hW
    exact a2 V e
theorem appO_wf {u : Nat} {O : kO} (h : WfO u O) {e : Nat} (he : e < 65536) : WfO (u + 12) (appO O e).2.2 := by
  unfold appO
  by_cases h6 : oTn O < 60
  · rw [if_pos h6]
    obtain ⟨a1, a2, a3, a4, a5, a6, a7⟩ := h.up (u' := u + 12) (by omega)
    refine ⟨a1, a2, a3, a4, by show oTn O + 1 ≤ 60; omega, fun j => ?_, a7⟩
    show (if j = oTn O then e else oTx O j) < 65536
    split
    · exact he
    · exact a6 j
  · rw [if_neg h6]; exact h.up (by omega)
theorem setLn_wf {u : Nat} {O : kO} (h : WfO u O) {l : List Nat} (h1 : l.length ≤ 110) (h2 : ∀ c ∈ l, c < 128) : WfO (u + 12) (setLn O l) := by
  obtain ⟨a1, a2, a3, a4, a5, a6, a7, a8, a9⟩ := h.up (u' := u + 12) (by omega)
  exact ⟨a1, a2, a3, a4, a5, a6, h1, h2, a9⟩
theorem wcO_wf {u : Nat} {O : kO} (h : WfO u O) (c : Int32) : WfO (u + 12) (wcO O c).2.2 := by
  unfold wcO
  split
  · exact h.up (by omega)
  · rename_i i e
    refine setLn_wf h ?_ (fun x hx => ?_)
    · have d0 := digs_le (cAt O.1.1 i 0)
      have d1 := digs_le (cAt O.1.1 i 1)
      have d2 := digs_le (cAt O.1.1 i 2)
      have d3 := digs_le (cAt O.1.1 i 3)
      unfold cLine
      simp only [List.length_append, decL_len, List.length_cons, List.length_nil]
      omega
    · unfold cLine at hx
      simp only [List.mem_append, List.mem_singleton, List.nil_append] at hx
      rcases hx with (((((hx | hx) | hx) | hx) | hx) | hx) | hx
      all_goals first | exact decL_lt hx | omega
theorem rLine_lt {f : Nat → Nat} : ∀ (k : Nat) (x : Nat), x ∈ rLine f k → x < 128
  | 0, x, hx => absurd hx List.not_mem_nil
  | k + 1, x, hx => by
    unfold rLine at hx
    rcases List.mem_append.mp hx with hx | hx
    · split at hx
      · rcases List.mem_append.mp hx with hx | hx
        · exact rLine_lt k x hx
        · rw [List.mem_singleton] at hx; omega
      · exact rLine_lt k x hx
    · exact decL_lt hx
theorem wrO_wf {u : Nat} {O : kO} (h : WfO u O) (hu : u ≤ 6144) : WfO (u + 12) (wrO O).2.2 := by
  refine setLn_wf h ?_ (fun x hx => rLine_lt 12 x hx)
  have h8 : ∀ j, j < 12 → digs (O.1.2.2 j) ≤ 8 := fun j hj => digs_8 (by
    have h1 := ds_ge O.1.2.2 hj
    have h2 := h.dus hu
    omega)
  have := rLine_len h8 12 (Nat.le_refl _)
  omega
/-! a program run -/
theorem rNs_le {tx : Nat → Int32} {n d : Nat} : ∀ (k i p : Nat) (f : Nat → Int32), p ≤ n → (rNs tx n d k i p f).2.1 ≤ n
  | 0, _, _, _, hp => hp
  | k + 1, i, p, f, hp => by
    unfold rNs
    by_cases h1 : 0 < i ∧ ¬ (p < n ∧ tx p = 32)
    · rw [if_pos h1]; exact hp
    · rw [if_neg h1]
      have hq : (if 0 < i then p + 1 else p) ≤ n := by
        by_cases h2 : 0 < i
        · rw [if_pos h2]
          have : p < n := Classical.byContradiction (fun h3 => h1 ⟨h2, fun q => h3 q.1⟩)
          omega
        · rw [if_neg h2]; exact hp
      generalize (if 0 < i then p + 1 else p) = q at hq ⊢
      by_cases h2 : digA tx n q = true
      · rw [if_pos h2]
        exact rNs_le k (i + 1) _ _ (rN_le d q 0 hq).2
      · rw [if_neg h2]; exact hq
theorem rCm_le {tx : Nat → Int32} {n p : Nat} (hp : p ≤ n) : (rCm tx n p).2.1 ≤ n := by
  have h := rW_le (tx := tx) hp 7 0 0 (by omega)
  unfold rCm
  split
  · rename_i p' e
    rw [e] at h
    exact h.2
  · rename_i i p' e
    rw [e] at h
    exact rNs_le _ _ _ _ h.2
theorem pRs_le {tx : Nat → Int32} {n : Nat} : ∀ (k c p : Nat) (cs : Nat → kC), p ≤ n → (pRs tx n k c p cs).2.1 ≤ n ∧ (pRs tx n k c p cs).2.2.1 ≤ c + k
  | 0, c, p, _, hp => ⟨hp, Nat.le_refl _⟩
  | k + 1, c, p, cs, hp => by
    have h := rCm_le (tx := tx) hp
    unfold pRs
    by_cases h1 : (rCm tx n p).1 = true
    · rw [if_pos h1]
      by_cases h2 : (rCm tx n p).2.1 = n
      · rw [if_pos h2]; exact ⟨h, by show c + 1 ≤ _; omega⟩
      · rw [if_neg h2]
        by_cases h3 : (rCm tx n p).2.1 < n ∧ tx (rCm tx n p).2.1 = 59
        · rw [if_pos h3]
          have := pRs_le (tx := tx) (n := n) k (c + 1) ((rCm tx n p).2.1 + 1) (fun j => if j = c then (rCm tx n p).2.2 else cs j) (by omega)
          exact ⟨this.1, by omega⟩
        · rw [if_neg h3]; exact ⟨h, by show c + 1 ≤ _; omega⟩
    · rw [if_neg h1]; exact ⟨h, by show c ≤ _; omega⟩
theorem goC_in {cs : Nat → kC} : ∀ (k i u : Nat) (V : kV), WfV u V → WfV (u + k) (goC cs k i V).2 ∧ ∀ j, (goC cs k i V).1 = some j → j < i + k
  | 0, _, _, _, h => ⟨h, fun j hj => (nomatch hj)⟩
  | k + 1, i, u, V, h => by
    unfold goC
    by_cases e : (cC V (cs i)).1 = 0
    · rw [if_pos e]
      have h1 : WfV (u + 1) (cC V (cs i)).2.2 := cCmd_wf h _ _ _ _
      have h2 := goC_in (cs := cs) k (i + 1) (u + 1) _ h1
      refine ⟨h2.1.mono (by omega), fun j hj => ?_⟩
      have := h2.2 j hj
      omega
    · rw [if_neg e]
      refine ⟨h.mono (by omega), fun j hj => ?_⟩
      have hj : some i = some j := hj
      cases hj
      omega
theorem runO_wf {u : Nat} {O : kO} (h : WfO u O) : WfO (u + 12) (runO O).2.2 := by
  obtain ⟨p1, p2⟩ := pRs_le (tx := fun j => nI (oTx O j)) (n := oTn O) 12 0 0 (fun _ => (0, fun _ => 0)) (Nat.zero_le _)
  have p1 : (oCm O).2.1 ≤ oTn O := p1
  have p2 : (oCm O).2.2.1 ≤ 0 + 12 := p2
  obtain ⟨g1, g2⟩ := goC_in (cs := (oCm O).2.2.2) (oCm O).2.2.1 0 u O.1 h.1
  obtain ⟨a1, a2, a3, a4, a5, a6, a7, a8, a9, a10⟩ := h.up (u' := u + 12) (by omega)
  unfold runO
  by_cases hr : (oCm O).1 = true
  · rw [if_pos hr]
    split
    · rename_i V' e
      rw [e] at g1
      refine ⟨g1.mono (by omega), a2, fun V hV => ?_, ?_, Nat.zero_le 60, a6, a7, a8, a9, a10⟩
      · rcases List.mem_cons.mp (List.mem_of_mem_take hV) with rfl | hV
        · exact a1
        · exact a3 V hV
      · show ((O.1 :: O.2.2.1).take 8).length ≤ 8
        rw [List.length_take]; omega
    · rename_i i V' e
      have hi := g2 i (congrArg Prod.fst e)
      refine ⟨a1, a2, a3, a4, Nat.zero_le 60, a6, a7, a8, a9, fun n hn => ?_⟩
      have hn : some i = some n := hn
      cases hn
      omega
  · rw [if_neg hr]
    refine ⟨a1, a2, a3, a4, Nat.zero_le 60, a6, a7, a8, fun n hn => ?_, a10⟩
    have hn : some (oCm O).2.1 = some n := hn
    cases hn
    omega
