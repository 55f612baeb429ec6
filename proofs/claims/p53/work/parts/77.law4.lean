/-! ===== the law: its loops over the comets ===== -/
/-- something new beside the one memory -/
theorem Jn.new {g h G : qG} {m n M : qM} (j : Jn g m h n G M) (hk : ∀ a sh, gAt G a sh → a < G.2) (sh : qSh) : Jn (g.1, G.2 + 1) m (gNew (h.1, G.2) sh) (wZ n G.2) (gNew G sh) (wZ M G.2) := by
  refine ⟨rfl, rfl, fun a s1 ha => ?_, fun a s1 ha => ?_, fun a ⟨s1, h1⟩ ⟨s2, h2⟩ => ?_⟩
  · obtain ⟨k1, k2⟩ := j.2.2.1 a s1 ha
    have hl := hk a s1 k1
    exact ⟨gNew_old k1 hl, k2.wZ (Nat.ne_of_lt hl)⟩
  · by_cases e : a = G.2
    · subst e
      have : s1 = sh := Option.some.inj (ha.symm.trans (if_pos rfl))
      subst this
      refine ⟨gNew_at G s1, ?_, ?_, ?_, ?_⟩
      · show (fun j => if G.2 = G.2 then 0 else M.1 G.2 j) = fun j => if G.2 = G.2 then 0 else n.1 G.2 j
        simp
      · show (fun j => if G.2 = G.2 then none else M.2.1 G.2 j) = fun j => if G.2 = G.2 then none else n.2.1 G.2 j
        simp
      · show (fun j => if G.2 = G.2 then 0 else M.2.2.1 G.2 j) = fun j => if G.2 = G.2 then 0 else n.2.2.1 G.2 j
        simp
      · show (fun j => if G.2 = G.2 then 0 else M.2.2.2 G.2 j) = fun j => if G.2 = G.2 then 0 else n.2.2.2 G.2 j
        simp
    · have ha' : h.1 a = some s1 := (if_neg e).symm.trans ha
      obtain ⟨k1, k2⟩ := j.2.2.2.1 a s1 ha'
      refine ⟨gNew_old k1 (hk a s1 k1), ?_⟩
      have h9 := ((SameA.rf n a).wZ (b := G.2) e).sy.tr (k2.wZ (b := G.2) e)
      exact h9
  · have h1 : g.1 a = some s1 := h1
    have hl := hk a s1 (j.2.2.1 a s1 h1).1
    have h2 : (if a = G.2 then some sh else h.1 a) = some s2 := h2
    rw [if_neg (Nat.ne_of_lt hl)] at h2
    exact j.2.2.2.2 a ⟨s1, h1⟩ ⟨s2, h2⟩
theorem qAt_n {O : kO} {i : Nat} (hi : i < O.1.1.length) (hl : O.1.1.length ≤ 6) : qAt O (nI i) = (0, nI (cAt O.1.1 i 0), O) := by
  refine (if_pos ⟨nI_pos' (by omega), nI_lt hi (by omega)⟩).trans ?_
  rw [nI_clamp (by omega)]
theorem qEx_n {u : Nat} {O : kO} (hw : WfO u O) (hu : u ≤ 6144) {i : Nat} (hi : i < O.1.1.length) : qEx O (nI (cAt O.1.1 i 0)) = (0, 1, O) := by
  unfold qEx
  rw [plV_id hw hu hi]
  rfl
theorem wcO_at {u : Nat} {O : kO} (hw : WfO u O) (hu : u ≤ 6144) {i : Nat} (hi : i < O.1.1.length) : wcO O (nI (cAt O.1.1 i 0)) = (0, nI (cLine (cAt O.1.1 i)).length, setLn O (cLine (cAt O.1.1 i))) := wcO_s (plV_id hw hu hi)
theorem cLine_len (c : Nat → Nat) : (cLine c).length ≤ 39 := by
  have d0 := digs_le (c 0)
  have d1 := digs_le (c 1)
  have d2 := digs_le (c 2)
  have d3 := digs_le (c 3)
  unfold cLine
  simp only [List.length_append, decL_len, List.length_cons, List.length_nil]
  omega
theorem cLine_lt (c : Nat → Nat) : ∀ x ∈ cLine c, x < 128 := fun x hx => by
  unfold cLine at hx
  simp only [List.mem_append, List.mem_singleton, List.nil_append] at hx
  rcases hx with (((((hx | hx) | hx) | hx) | hx) | hx) | hx
  all_goals first | exact decL_lt hx | omega
theorem qAli_n {u : Nat} {O : kO} (hw : WfO u O) (hu : u ≤ 6144) (h0 : 0 < O.1.1.length) : qAli O = (0, .long (lN (lcmV O.1.1 O.1.1.length)), O) := by
  rw [ali_eq hw hu]
  exact if_neg (by omega)
/-- both ways to a meeting say the same -/
theorem day_of {u : Nat} {O : kO} (hw : WfO u O) (hu : u ≤ 6144) {i j : Nat} (hi : i < O.1.1.length) (hj : j < O.1.1.length) : ∃ day : Int32,
    ((if (qMeet mWalk O (nI (cAt O.1.1 i 0)) (nI (cAt O.1.1 j 0))).1 = 0 then (qMeet mWalk O (nI (cAt O.1.1 i 0)) (nI (cAt O.1.1 j 0))).2.1 else if (qMeet mWalk O (nI (cAt O.1.1 i 0)) (nI (cAt O.1.1 j 0))).1 = 1 then -30000 else if (qMeet mWalk O (nI (cAt O.1.1 i 0)) (nI (cAt O.1.1 j 0))).1 = 2 then -20000 else -15000) = day ∧ (qMeet mWalk O (nI (cAt O.1.1 i 0)) (nI (cAt O.1.1 j 0))).2.2 = O) ∧
    ((if (qMeet mEuclid O (nI (cAt O.1.1 j 0)) (nI (cAt O.1.1 i 0))).1 = 0 then (qMeet mEuclid O (nI (cAt O.1.1 j 0)) (nI (cAt O.1.1 i 0))).2.1 else if (qMeet mEuclid O (nI (cAt O.1.1 j 0)) (nI (cAt O.1.1 i 0))).1 = 1 then -30000 else if (qMeet mEuclid O (nI (cAt O.1.1 j 0)) (nI (cAt O.1.1 i 0))).1 = 2 then -20000 else -15000) = day ∧ (qMeet mEuclid O (nI (cAt O.1.1 j 0)) (nI (cAt O.1.1 i 0))).2.2 = O) ∧
    ((j = i ∧ day = -20000) ∨ (j ≠ i ∧ ¬ day = -20000 ∧ ((day = -15000 ∧ ∀ r, ¬ IsMt (cAt O.1.1 i 1) (cAt O.1.1 i 3) (cAt O.1.1 j 1) (cAt O.1.1 j 3) r) ∨ ∃ M, FirMt (cAt O.1.1 i 1) (cAt O.1.1 i 3) (cAt O.1.1 j 1) (cAt O.1.1 j 3) M ∧ day = nI M))) := by
  by_cases e : j = i
  · rw [e, meet_self hw hu hi mWalk, meet_self hw hu hi mEuclid]
    exact ⟨-20000, ⟨rfl, rfl⟩, ⟨rfl, rfl⟩, Or.inl ⟨rfl, rfl⟩⟩
  · have bi := hw.com hu hi
    have bj := hw.com hu hj
    have hD := hw.day hu
    rcases meet_of hw hu hi hj (fun q => e q.symm) with ⟨M, hM, e1, e2⟩ | ⟨hn, e1, e2⟩
    · rw [e1, e2]
      have hb := hM.bd (by omega) (by omega)
      have hpp : cAt O.1.1 i 1 * cAt O.1.1 j 1 ≤ 60 * 60 := Nat.mul_le_mul bi.2.1 bj.2.1
      have h9 : (0 : Int32) ≤ nI M := nI_pos' (by omega)
      exact ⟨nI M, ⟨rfl, rfl⟩, ⟨rfl, rfl⟩, Or.inr ⟨e, fun q => by rw [q] at h9; exact absurd h9 (by decide), Or.inr ⟨M, hM, rfl⟩⟩⟩
    · rw [e1, e2]
      exact ⟨-15000, ⟨rfl, rfl⟩, ⟨rfl, rfl⟩, Or.inr ⟨e, by decide, Or.inl ⟨rfl, hn⟩⟩⟩
set_option maxRecDepth 20000 in
set_option maxHeartbeats 4000000 in
theorem s_law_step {E : qE} {X : qX} {Q : State → Prop} (hX : MC E yL_law cL_law 21 (some .boolean) 1475 600390 7287040 [] X) {x u t : Nat} {O : kO} {g : qG} {m : qM} (hO : ObsV g m x O) (hw : WfO u O) (hu : u ≤ 6144) {i j br dd co wo : Nat} {day : Int32} (hi : i < O.1.1.length) (hj : j < O.1.1.length) {cN sN : Nat} (hc : cN ≤ 600390) (hs : sN ≤ 7287040) (K : ∀ f : Int32, ((f = -15000 ∧ ∀ r, ¬ IsMt (cAt O.1.1 i 1) (cAt O.1.1 i 3) (cAt O.1.1 j 1) (cAt O.1.1 j 3) r) ∨ ∃ M, FirMt (cAt O.1.1 i 1) (cAt O.1.1 i 3) (cAt O.1.1 j 1) (cAt O.1.1 j 3) M ∧ f = nI M) → WS E X cN sN Q g m 516 [some (.ref (eT E 2)), some (.ref x), some (.int (nI t)), some (.int (nI O.1.1.length)), some (.int (nI br)), some (.int 0), some (.int 0), some (.int (nI dd)), some (.int (nI co)), some (.int (nI wo)), some (.int (nI i)), some (.int (nI (cAt O.1.1 i 0))), some (.int (nI (cAt O.1.1 i 2))), some (.int (nI (cAt O.1.1 i 1))), some (.int (nI (cAt O.1.1 i 3))), some (.int (nI j)), some (.int (nI (cAt O.1.1 j 0))), some (.int day), some (.int (nI (max (cAt O.1.1 i 3) (cAt O.1.1 j 3)))), some (.int f), none] []) : ∀ (k s : Nat), s + k = cAt O.1.1 i 1 * cAt O.1.1 j 1 → ∀ f : Int32, ((f = -15000 ∧ ∀ r, r < s → ¬ IsMt (cAt O.1.1 i 1) (cAt O.1.1 i 3) (cAt O.1.1 j 1) (cAt O.1.1 j 3) (max (cAt O.1.1 i 3) (cAt O.1.1 j 3) + r)) ∨ ∃ M, FirMt (cAt O.1.1 i 1) (cAt O.1.1 i 3) (cAt O.1.1 j 1) (cAt O.1.1 j 3) M ∧ f = nI M) → WS E X cN sN Q g m 439 [some (.ref (eT E 2)), some (.ref x), some (.int (nI t)), some (.int (nI O.1.1.length)), some (.int (nI br)), some (.int 0), some (.int 0), some (.int (nI dd)), some (.int (nI co)), some (.int (nI wo)), some (.int (nI i)), some (.int (nI (cAt O.1.1 i 0))), some (.int (nI (cAt O.1.1 i 2))), some (.int (nI (cAt O.1.1 i 1))), some (.int (nI (cAt O.1.1 i 3))), some (.int (nI j)), some (.int (nI (cAt O.1.1 j 0))), some (.int day), some (.int (nI (max (cAt O.1.1 i 3) (cAt O.1.1 j 3)))), some (.int f), some (.int (nI s))] [] := by
  have bi := hw.com hu hi
  have bj := hw.com hu hj
  have hD := hw.day hu
  have hpp : cAt O.1.1 i 1 * cAt O.1.1 j 1 ≤ 60 * 60 := Nat.mul_le_mul bi.2.1 bj.2.1
  have hKend : ∀ f : Int32, (∃ M, FirMt (cAt O.1.1 i 1) (cAt O.1.1 i 3) (cAt O.1.1 j 1) (cAt O.1.1 j 3) M ∧ f = nI M) → ∀ s, WS E X cN sN Q g m 516 [some (.ref (eT E 2)), some (.ref x), some (.int (nI t)), some (.int (nI O.1.1.length)), some (.int (nI br)), some (.int 0), some (.int 0), some (.int (nI dd)), some (.int (nI co)), some (.int (nI wo)), some (.int (nI i)), some (.int (nI (cAt O.1.1 i 0))), some (.int (nI (cAt O.1.1 i 2))), some (.int (nI (cAt O.1.1 i 1))), some (.int (nI (cAt O.1.1 i 3))), some (.int (nI j)), some (.int (nI (cAt O.1.1 j 0))), some (.int day), some (.int (nI (max (cAt O.1.1 i 3) (cAt O.1.1 j 3)))), some (.int f), some (.int (nI s))] [] := fun f hf s => r_keep [true, true, true, true, true, true, true, true, true, true, true, true, true, true, true, true, true, true, true, true, false] (K f (Or.inr hf))
  intro k
  induction k with
  | zero =>
    intro s hs2 f hf
    refine r_iload hX dL_law_439 rfl ?_
    refine r_iload hX dL_law_441 rfl ?_
    refine r_aload_n hX dL_law_443 rfl ?_
    refine r_iload hX dL_law_444 rfl ?_
    refine r_callV hX dL_law_446 (z_X7_period E g m x O hO u hw hu j hj) ml_L_113 rfl rfl hO.1.1 rfl ⟨Nat.le_of_ble_eq_true rfl, Nat.le_of_ble_eq_true rfl⟩ ⟨by omega, by omega, rfl, Nat.le_of_ble_eq_true rfl⟩ (fun v446 g446 m446 hp => ?_)
    obtain ⟨hv, hg, hm⟩ := hp
    subst v446
    subst g446
    subst m446
    refine r_imul hX dL_law_449 ?_
    rw [pk_mul]
    refine r_icmp_ge (tgt := 516) hX dL_law_450 (by decide) (fun c450 => ?_) (fun c450 => ?_)
    · rcases hf with ⟨h1, h2⟩ | hf
      · subst h1
        refine r_keep [true, true, true, true, true, true, true, true, true, true, true, true, true, true, true, true, true, true, true, true, false] (K (-15000) (Or.inl ⟨rfl, fun r hr => ?_⟩))
        rcases mt_dec (cAt O.1.1 i 1) (cAt O.1.1 i 3) (cAt O.1.1 j 1) (cAt O.1.1 j 3) with ⟨M, hM⟩ | hn
        · have hb := hM.bd (by omega) (by omega)
          have h9 := hM.1.1
          have h8 := hM.1.2.2.1
          refine h2 (M - (max (cAt O.1.1 i 3) (cAt O.1.1 j 3))) (by omega) ?_
          rw [show max (cAt O.1.1 i 3) (cAt O.1.1 j 3) + (M - (max (cAt O.1.1 i 3) (cAt O.1.1 j 3))) = M by omega]
          exact hM.1
        · exact hn r hr
      · exact hKend f hf s
    · exact absurd (nI_le (a := cAt O.1.1 i 1 * cAt O.1.1 j 1) (b := s) (by omega) (by omega)) c450
  | succ k ih =>
    intro s hs2 f hf
    refine r_iload hX dL_law_439 rfl ?_
    refine r_iload hX dL_law_441 rfl ?_
    refine r_aload_n hX dL_law_443 rfl ?_
    refine r_iload hX dL_law_444 rfl ?_
    refine r_callV hX dL_law_446 (z_X7_period E g m x O hO u hw hu j hj) ml_L_113 rfl rfl hO.1.1 rfl ⟨Nat.le_of_ble_eq_true rfl, Nat.le_of_ble_eq_true rfl⟩ ⟨by omega, by omega, rfl, Nat.le_of_ble_eq_true rfl⟩ (fun v446 g446 m446 hp => ?_)
    obtain ⟨hv, hg, hm⟩ := hp
    subst v446
    subst g446
    subst m446
    refine r_imul hX dL_law_449 ?_
    rw [pk_mul]
    refine r_icmp_ge (tgt := 516) hX dL_law_450 (by decide) (fun c450 => ?_) (fun c450 => ?_)
    · exact absurd c450 (nI_ge (by omega) (by omega))
    · refine r_iload hX dL_law_453 rfl ?_
      refine r_sipush (v := (-15000)) hX dL_law_455 (by decide) ?_
      refine r_icmp_ne (tgt := 516) hX dL_law_458 (by decide) (fun c458 => ?_) (fun c458 => ?_)
      · refine hKend f (hf.resolve_left (fun h => c458 h.1)) s
      · rcases hf with ⟨h1, h2⟩ | ⟨M, hM, h1⟩
        · subst h1
          have hm12 : max (cAt O.1.1 i 3) (cAt O.1.1 j 3) + s < 2 ^ 30 := by omega
          refine r_iload hX dL_law_461 rfl ?_
          refine r_iload hX dL_law_463 rfl ?_
          refine r_iadd hX dL_law_465 ?_
          rw [nI_add]
          refine r_iload hX dL_law_466 rfl ?_
          refine r_isub hX dL_law_468 ?_
          rw [pk_sub (by omega)]
          refine r_iload hX dL_law_469 rfl ?_
          refine r_irem hX dL_law_471 (nI_ne0 (by omega) (by omega)) ?_
          rw [pk_rem (by omega) (by omega) (by omega)]
          refine r_if_ne (tgt := 505) hX dL_law_472 (by decide) (fun c472 => ?_) (fun c472 => ?_)
          · refine r_sipush (v := (-15000)) hX dL_law_505 (by decide) ?_
            refine r_istore hX dL_law_508 (Nat.le_of_ble_eq_true rfl) rfl ?_
            refine r_iinc (v := nI (s + 1)) hX dL_law_510 rfl (nI_1 s) rfl ?_
            refine r_goto (tgt := 439) hX dL_law_513 (by decide) ?_
            exact ih (s + 1) (by omega) _ (Or.inl ⟨rfl, fun r hr hmt => by
              rcases Nat.lt_or_ge r s with q | q
              · exact h2 r q hmt
              · rw [show r = s by omega] at hmt; exact c472 (by rw [(mt_at.mp hmt).1]; rfl)⟩)
          · refine r_iload hX dL_law_475 rfl ?_
            refine r_iload hX dL_law_477 rfl ?_
            refine r_iadd hX dL_law_479 ?_
            rw [nI_add]
            refine r_aload_n hX dL_law_480 rfl ?_
            refine r_iload hX dL_law_481 rfl ?_
            refine r_callV hX dL_law_483 (z_X7_nextPass E g m x O hO u hw hu j hj) ml_L_116 rfl rfl hO.1.1 rfl ⟨Nat.le_of_ble_eq_true rfl, Nat.le_of_ble_eq_true rfl⟩ ⟨by omega, by omega, rfl, Nat.le_of_ble_eq_true rfl⟩ (fun v483 g483 m483 hp => ?_)
            obtain ⟨hv, hg, hm⟩ := hp
            subst v483
            subst g483
            subst m483
            refine r_isub hX dL_law_486 ?_
            rw [pk_sub (by omega)]
            refine r_aload_n hX dL_law_487 rfl ?_
            refine r_iload hX dL_law_488 rfl ?_
            refine r_callV hX dL_law_490 (z_X7_period E g m x O hO u hw hu j hj) ml_L_113 rfl rfl hO.1.1 rfl ⟨Nat.le_of_ble_eq_true rfl, Nat.le_of_ble_eq_true rfl⟩ ⟨by omega, by omega, rfl, Nat.le_of_ble_eq_true rfl⟩ (fun v490 g490 m490 hp => ?_)
            obtain ⟨hv, hg, hm⟩ := hp
            subst v490
            subst g490
            subst m490
            refine r_irem hX dL_law_493 (nI_ne0 (by omega) (by omega)) ?_
            rw [pk_rem (by omega) (by omega) (by omega)]
            refine r_if_ne (tgt := 505) hX dL_law_494 (by decide) (fun c494 => ?_) (fun c494 => ?_)
            · refine r_sipush (v := (-15000)) hX dL_law_505 (by decide) ?_
              refine r_istore hX dL_law_508 (Nat.le_of_ble_eq_true rfl) rfl ?_
              refine r_iinc (v := nI (s + 1)) hX dL_law_510 rfl (nI_1 s) rfl ?_
              refine r_goto (tgt := 439) hX dL_law_513 (by decide) ?_
              exact ih (s + 1) (by omega) _ (Or.inl ⟨rfl, fun r hr hmt => by
                rcases Nat.lt_or_ge r s with q | q
                · exact h2 r q hmt
                · rw [show r = s by omega] at hmt; exact c494 (by rw [(mt_at.mp hmt).2]; rfl)⟩)
            · refine r_iload hX dL_law_497 rfl ?_
              refine r_iload hX dL_law_499 rfl ?_
              refine r_iadd hX dL_law_501 ?_
              rw [nI_add]
              refine r_goto (tgt := 508) hX dL_law_502 (by decide) ?_
              refine r_istore hX dL_law_508 (Nat.le_of_ble_eq_true rfl) rfl ?_
              have e1 := (nI_eq (b := 0) (by have := Nat.mod_le (max (cAt O.1.1 i 3) (cAt O.1.1 j 3) + s - cAt O.1.1 i 3) (cAt O.1.1 i 1); omega) (by decide)).mp c472
              have e2 := (nI_eq (b := 0) (by have := Nat.mod_le (max (cAt O.1.1 i 3) (cAt O.1.1 j 3) + s - cAt O.1.1 j 3) (cAt O.1.1 j 1); omega) (by decide)).mp c494
              refine r_iinc (v := nI (s + 1)) hX dL_law_510 rfl (nI_1 s) rfl ?_
              refine r_goto (tgt := 439) hX dL_law_513 (by decide) ?_
              refine ih (s + 1) (by omega) _ (Or.inr ⟨max (cAt O.1.1 i 3) (cAt O.1.1 j 3) + s, ⟨mt_at.mpr ⟨e1, e2⟩, fun y hy => ?_⟩, rfl⟩)
              have h9 := hy.1
              have h8 := hy.2.2.1
              refine Classical.byContradiction (fun hlt => h2 (y - max (cAt O.1.1 i 3) (cAt O.1.1 j 3)) (by omega) ?_)
              rw [show max (cAt O.1.1 i 3) (cAt O.1.1 j 3) + (y - max (cAt O.1.1 i 3) (cAt O.1.1 j 3)) = y by omega]
              exact hy
        · have hb := hM.bd (by omega) (by omega)
          have h9 : (0 : Int32) ≤ f := by rw [h1]; exact nI_pos' (by omega)
          rw [c458] at h9
          exact absurd h9 (by decide)
set_option maxRecDepth 20000 in
set_option maxHeartbeats 4000000 in
theorem s_law_pass {E : qE} {X : qX} {Q : State → Prop} (hX : MC E yL_law cL_law 21 (some .boolean) 1475 600390 7287040 [] X) {x u t : Nat} {O : kO} (hw : WfO u O) (hu : u ≤ 6144) {i br dd co wo : Nat} (hi : i < O.1.1.length) (hd : dd ≤ 60) (hco : co ≤ 100000) (hwo : wo ≤ 100000) {cN sN : Nat} (hc : cN ≤ 600390) (hs : sN ≤ 7287040) (K : ∀ (g : qG) (m : qM), ObsV g m x O → WS E X cN sN Q g m 337 [some (.ref (eT E 2)), some (.ref x), some (.int (nI t)), some (.int (nI O.1.1.length)), some (.int (nI br)), some (.int 0), some (.int 0), some (.int (nI dd)), some (.int (nI (co + pjC (cAt O.1.1 i) (O.1.2.1 2 + dd) (cAt O.1.1 i 2)))), some (.int (nI (wo + wjC (cAt O.1.1 i) (O.1.2.1 2 + dd) (cAt O.1.1 i 2)))), some (.int (nI i)), some (.int (nI (cAt O.1.1 i 0))), some (.int (nI (cAt O.1.1 i 2))), some (.int (nI (cAt O.1.1 i 1))), some (.int (nI (cAt O.1.1 i 3))), none, none, none, none, none, none] []) : ∀ (k j : Nat), j + k = cAt O.1.1 i 2 → ∀ (g : qG) (m : qM), ObsV g m x O → WS E X cN sN Q g m 290 [some (.ref (eT E 2)), some (.ref x), some (.int (nI t)), some (.int (nI O.1.1.length)), some (.int (nI br)), some (.int 0), some (.int 0), some (.int (nI dd)), some (.int (nI (co + pjC (cAt O.1.1 i) (O.1.2.1 2 + dd) j))), some (.int (nI (wo + wjC (cAt O.1.1 i) (O.1.2.1 2 + dd) j))), some (.int (nI i)), some (.int (nI (cAt O.1.1 i 0))), some (.int (nI (cAt O.1.1 i 2))), some (.int (nI (cAt O.1.1 i 1))), some (.int (nI (cAt O.1.1 i 3))), some (.int (nI j)), none, none, none, none, none] [] := by
  have bi := hw.com hu hi
  have hD := hw.day hu
  intro k
  induction k with
  | zero =>
    intro j hj g m hO
    have e0 : j = cAt O.1.1 i 2 := by omega
    refine r_iload hX dL_law_290 rfl ?_
    refine r_iload hX dL_law_292 rfl ?_
    refine r_icmp_ge (tgt := 337) hX dL_law_294 (by decide) (fun c294 => ?_) (fun c294 => ?_)
    · rw [e0]
      exact r_keep [true, true, true, true, true, true, true, true, true, true, true, true, true, true, true, false] (K g m hO)
    · exact absurd (nI_le (a := cAt O.1.1 i 2) (b := j) (by omega) (by omega)) c294
  | succ k ih =>
    intro j hj g m hO
    have w1 := wjC_le (c := (cAt O.1.1 i)) (T := (O.1.2.1 2 + dd)) bi.2.2.2.1 j
    have p1 := pjC_le (c := (cAt O.1.1 i)) (T := (O.1.2.1 2 + dd)) j
    have hjp : j * cAt O.1.1 i 1 ≤ 20 * 60 := Nat.mul_le_mul (by omega) bi.2.1
    refine r_iload hX dL_law_290 rfl ?_
    refine r_iload hX dL_law_292 rfl ?_
    refine r_icmp_ge (tgt := 337) hX dL_law_294 (by decide) (fun c294 => ?_) (fun c294 => ?_)
    · exact absurd c294 (nI_ge (by omega) (by omega))
    · refine r_iload hX dL_law_297 rfl ?_
      refine r_iload hX dL_law_299 rfl ?_
      refine r_iload hX dL_law_301 rfl ?_
      refine r_imul hX dL_law_303 ?_
      rw [pk_mul]
      refine r_iadd hX dL_law_304 ?_
      rw [nI_add]
      refine r_aload_n hX dL_law_305 rfl ?_
      refine r_callV hX dL_law_306 (s_X7_day E g m x O hO u hw hu) ml_L_119 rfl rfl hO.1.1 rfl ⟨Nat.le_of_ble_eq_true rfl, Nat.le_of_ble_eq_true rfl⟩ ⟨by omega, by omega, rfl, Nat.le_of_ble_eq_true rfl⟩ (fun v306 g306 m306 hp => ?_)
      obtain ⟨-, hv, hO306, -⟩ := hp
      replace hv : v306 = some (.int (nI (O.1.2.1 2))) := hv
      subst v306
      refine r_iload hX dL_law_309 rfl ?_
      refine r_iadd hX dL_law_311 ?_
      rw [nI_add]
      refine r_icmp_le (tgt := 318) hX dL_law_312 (by decide) (fun c312 => ?_) (fun c312 => ?_)
      · have hle := (nI_leI (by omega) (by omega)).mp c312
        have e1 : pjC (cAt O.1.1 i) (O.1.2.1 2 + dd) (j + 1) = pjC (cAt O.1.1 i) (O.1.2.1 2 + dd) j + 1 := by
          show _ + (if _ then _ else _) = _
          rw [if_pos hle]
        have e2 : wjC (cAt O.1.1 i) (O.1.2.1 2 + dd) (j + 1) = wjC (cAt O.1.1 i) (O.1.2.1 2 + dd) j + (cAt O.1.1 i 2 - j) := by
          show _ + (if _ then _ else _) = _
          rw [if_pos hle]
        refine r_iinc (v := nI (co + pjC (cAt O.1.1 i) (O.1.2.1 2 + dd) j + 1)) hX dL_law_318 rfl (nI_1 _) rfl ?_
        refine r_iload hX dL_law_321 rfl ?_
        refine r_iload hX dL_law_323 rfl ?_
        refine r_iload hX dL_law_325 rfl ?_
        refine r_isub hX dL_law_327 ?_
        rw [pk_sub (by omega)]
        refine r_iadd hX dL_law_328 ?_
        rw [nI_add]
        refine r_istore hX dL_law_329 (Nat.le_of_ble_eq_true rfl) rfl ?_
        refine r_iinc (v := nI (j + 1)) hX dL_law_331 rfl (nI_1 j) rfl ?_
        refine r_goto (tgt := 290) hX dL_law_334 (by decide) ?_
        have h9 := ih (j + 1) (by omega) g306 m306 hO306
        rw [e1, e2, ← Nat.add_assoc, ← Nat.add_assoc] at h9
        exact h9
      · have hle : ¬ cAt O.1.1 i 3 + j * cAt O.1.1 i 1 ≤ (O.1.2.1 2 + dd) := fun q => c312 (nI_le q (by omega))
        have e1 : pjC (cAt O.1.1 i) (O.1.2.1 2 + dd) (j + 1) = pjC (cAt O.1.1 i) (O.1.2.1 2 + dd) j := by
          show _ + (if _ then _ else _) = _
          rw [if_neg hle]; rfl
        have e2 : wjC (cAt O.1.1 i) (O.1.2.1 2 + dd) (j + 1) = wjC (cAt O.1.1 i) (O.1.2.1 2 + dd) j := by
          show _ + (if _ then _ else _) = _
          rw [if_neg hle]; rfl
        refine r_goto (tgt := 331) hX dL_law_315 (by decide) ?_
        refine r_iinc (v := nI (j + 1)) hX dL_law_331 rfl (nI_1 j) rfl ?_
        refine r_goto (tgt := 290) hX dL_law_334 (by decide) ?_
        have h9 := ih (j + 1) (by omega) g306 m306 hO306
        rw [e1, e2] at h9
        exact h9
set_option maxRecDepth 20000 in
set_option maxHeartbeats 4000000 in
theorem s_law_oth {E : qE} {X : qX} {Q : State → Prop} (hX : MC E yL_law cL_law 21 (some .boolean) 1475 600390 7287040 [] X) {x u t : Nat} {O : kO} (hw : WfO u O) (hu : u ≤ 6144) {i br dd co wo : Nat} (hi : i < O.1.1.length) {c0 s0 : Nat} (hc0 : c0 ≤ 600000) (hs0 : s0 ≤ 7000000) (K : ∀ (g : qG) (m : qM), ObsV g m x O → ∀ cN sN : Nat, cN ≤ c0 + 42 → sN ≤ s0 + 252 → WS E X cN sN Q g m 531 [some (.ref (eT E 2)), some (.ref x), some (.int (nI t)), some (.int (nI O.1.1.length)), some (.int (nI br)), some (.int 0), some (.int 0), some (.int (nI dd)), some (.int (nI co)), some (.int (nI wo)), some (.int (nI i)), some (.int (nI (cAt O.1.1 i 0))), some (.int (nI (cAt O.1.1 i 2))), some (.int (nI (cAt O.1.1 i 1))), some (.int (nI (cAt O.1.1 i 3))), none, none, none, none, none, none] []) : ∀ (k j : Nat), j + k = O.1.1.length → ∀ (g : qG) (m : qM), ObsV g m x O → ∀ cN sN : Nat, cN ≤ c0 + 7 * j → sN ≤ s0 + 42 * j → WS E X cN sN Q g m 340 [some (.ref (eT E 2)), some (.ref x), some (.int (nI t)), some (.int (nI O.1.1.length)), some (.int (nI br)), some (.int 0), some (.int 0), some (.int (nI dd)), some (.int (nI co)), some (.int (nI wo)), some (.int (nI i)), some (.int (nI (cAt O.1.1 i 0))), some (.int (nI (cAt O.1.1 i 2))), some (.int (nI (cAt O.1.1 i 1))), some (.int (nI (cAt O.1.1 i 3))), some (.int (nI j)), none, none, none, none, none] [] := by
  have hl6 := hw.len
  have bi := hw.com hu hi
  have hD := hw.day hu
  intro k
  induction k with
  | zero =>
    intro j hj g m hO cN sN hc hs
    have e0 : j = O.1.1.length := by omega
    refine r_iload hX dL_law_340 rfl ?_
    refine r_iload_n hX dL_law_342 rfl ?_
    refine r_icmp_ge (tgt := 531) hX dL_law_343 (by decide) (fun c343 => ?_) (fun c343 => ?_)
    · exact r_keep [true, true, true, true, true, true, true, true, true, true, true, true, true, true, true, false, false, false, false, false, false] (K g m hO cN sN (by omega) (by omega))
    · exact absurd (nI_le (a := O.1.1.length) (b := j) (by omega) (by omega)) c343
  | succ k ih =>
    intro j hj g m hO cN sN hc hs
    have hjl : j < O.1.1.length := by omega
    have bj := hw.com hu hjl
    obtain ⟨day, ⟨d1, d2⟩, ⟨d3, d4⟩, hdd⟩ := day_of hw hu hi hjl
    refine r_iload hX dL_law_340 rfl ?_
    refine r_iload_n hX dL_law_342 rfl ?_
    refine r_icmp_ge (tgt := 531) hX dL_law_343 (by decide) (fun c343 => ?_) (fun c343 => ?_)
    · exact absurd c343 (nI_ge hjl (by omega))
    · refine r_aload_n hX dL_law_346 rfl ?_
      refine r_iload hX dL_law_347 rfl ?_
      refine r_callVX hX dL_law_349 (s_X7_cometAt E g m x O hO u hw hu (nI j)) ml_L_49 mk_L_49 rfl rfl hO.1.1 rfl ⟨Nat.le_of_ble_eq_true rfl, Nat.le_of_ble_eq_true rfl⟩ ⟨by omega, by omega, rfl, Nat.le_of_ble_eq_true rfl⟩ (fun v349 g349 m349 hp => ?_) (fun nm gx mx hp => ?_)
      rotate_left
      · obtain ⟨⟨k9, hk9, -⟩, -⟩ := hp
        rw [qAt_n (by omega) hw.len] at hk9
        exact absurd hk9 (Nat.succ_ne_zero k9).symm
      obtain ⟨-, hv, hO349, -⟩ := hp
      rw [qAt_n (by omega) hw.len] at hv hO349
      replace hv : v349 = some (.int (nI (cAt O.1.1 j 0))) := hv
      subst v349
      refine r_istore hX dL_law_352 (Nat.le_of_ble_eq_true rfl) rfl ?_
      refine r_aload_n hX dL_law_354 rfl ?_
      refine r_iload hX dL_law_355 rfl ?_
      refine r_iload hX dL_law_357 rfl ?_
      refine r_callH hX dL_law_359 (s_L_nextMeeting E g349 m349 x O hO349 u hw hu (nI (cAt O.1.1 i 0)) (nI (cAt O.1.1 j 0))) ml_L_163 rfl rfl ⟨Nat.le_of_ble_eq_true rfl, Nat.le_of_ble_eq_true rfl⟩ ⟨by omega, by omega, rfl, Nat.le_of_ble_eq_true rfl⟩ (fun v359 g359 m359 hp => ?_)
      obtain ⟨hv, hO359⟩ := hp
      rw [d2] at hO359
      rw [d1] at hv
      subst v359
      refine r_istore hX dL_law_362 (Nat.le_of_ble_eq_true rfl) rfl ?_
      refine r_iload hX dL_law_364 rfl ?_
      refine r_aload_n hX dL_law_366 rfl ?_
      refine r_iload hX dL_law_367 rfl ?_
      refine r_iload hX dL_law_369 rfl ?_
      refine r_callH hX dL_law_371 (s_L_nextMeetingByRemainders E g359 m359 x O hO359 u hw hu (nI (cAt O.1.1 j 0)) (nI (cAt O.1.1 i 0))) ml_L_165 rfl rfl ⟨Nat.le_of_ble_eq_true rfl, Nat.le_of_ble_eq_true rfl⟩ ⟨by omega, by omega, rfl, Nat.le_of_ble_eq_true rfl⟩ (fun v371 g371 m371 hp => ?_)
      obtain ⟨hv, hO371⟩ := hp
      rw [d4] at hO371
      rw [d3] at hv
      subst v371
      refine r_icmp_ne (tgt := 405) hX dL_law_374 (by decide) (fun c374 => ?_) (fun c374 => ?_)
      · exact absurd rfl c374
      · rcases hdd with ⟨e, ed⟩ | ⟨e, ed, hfc⟩
        · refine r_iload hX dL_law_377 rfl ?_
          refine r_iload hX dL_law_379 rfl ?_
          refine r_icmp_ne (tgt := 388) hX dL_law_381 (by decide) (fun c381 => ?_) (fun c381 => ?_)
          · exact absurd (by rw [e]) c381
          · refine r_iconst (v := 1) hX dL_law_384 (by decide) ?_
            refine r_goto (tgt := 389) hX dL_law_385 (by decide) ?_
            refine r_iload hX dL_law_389 rfl ?_
            refine r_sipush (v := (-20000)) hX dL_law_391 (by decide) ?_
            refine r_icmp_ne (tgt := 401) hX dL_law_394 (by decide) (fun c394 => ?_) (fun c394 => ?_)
            · exact absurd ed c394
            · refine r_iconst (v := 1) hX dL_law_397 (by decide) ?_
              refine r_goto (tgt := 402) hX dL_law_398 (by decide) ?_
              refine r_icmp_eq (tgt := 407) hX dL_law_402 (by decide) (fun c402 => ?_) (fun c402 => ?_)
              · refine r_iload hX dL_law_407 rfl ?_
                refine r_sipush (v := (-20000)) hX dL_law_409 (by decide) ?_
                refine r_icmp_ne (tgt := 418) hX dL_law_412 (by decide) (fun c412 => ?_) (fun c412 => ?_)
                · exact absurd ed c412
                · refine r_goto (tgt := 525) hX dL_law_415 (by decide) ?_
                  refine r_iinc (v := nI (j + 1)) hX dL_law_525 rfl (nI_1 j) rfl ?_
                  refine r_goto (tgt := 340) hX dL_law_528 (by decide) ?_
                  exact r_keep [true, true, true, true, true, true, true, true, true, true, true, true, true, true, true, true, false, false, false, false, false] (ih (j + 1) (by omega) g371 m371 hO371 _ _ (by omega) (by omega))
              · exact absurd rfl c402
        · refine r_iload hX dL_law_377 rfl ?_
          refine r_iload hX dL_law_379 rfl ?_
          refine r_icmp_ne (tgt := 388) hX dL_law_381 (by decide) (fun c381 => ?_) (fun c381 => ?_)
          · refine r_iconst (v := 0) hX dL_law_388 (by decide) ?_
            refine r_iload hX dL_law_389 rfl ?_
            refine r_sipush (v := (-20000)) hX dL_law_391 (by decide) ?_
            refine r_icmp_ne (tgt := 401) hX dL_law_394 (by decide) (fun c394 => ?_) (fun c394 => ?_)
            · refine r_iconst (v := 0) hX dL_law_401 (by decide) ?_
              refine r_icmp_eq (tgt := 407) hX dL_law_402 (by decide) (fun c402 => ?_) (fun c402 => ?_)
              · refine r_iload hX dL_law_407 rfl ?_
                refine r_sipush (v := (-20000)) hX dL_law_409 (by decide) ?_
                refine r_icmp_ne (tgt := 418) hX dL_law_412 (by decide) (fun c412 => ?_) (fun c412 => ?_)
                · refine r_iload hX dL_law_418 rfl ?_
                  refine r_aload_n hX dL_law_420 rfl ?_
                  refine r_iload hX dL_law_421 rfl ?_
                  refine r_callV hX dL_law_423 (z_X7_nextPass E g371 m371 x O hO371 u hw hu j hjl) ml_L_116 rfl rfl hO371.1.1 rfl ⟨Nat.le_of_ble_eq_true rfl, Nat.le_of_ble_eq_true rfl⟩ ⟨by omega, by omega, rfl, Nat.le_of_ble_eq_true rfl⟩ (fun v423 g423 m423 hp => ?_)
                  obtain ⟨hv, hg, hm⟩ := hp
                  subst v423
                  subst g423
                  subst m423
                  refine r_mmax hX dL_law_426 mm_L_167 ⟨Nat.le_of_ble_eq_true rfl, rfl, Nat.le_of_ble_eq_true rfl⟩ ⟨by omega, by omega⟩ ?_
                  rw [mxN (by omega) (by omega)]
                  refine r_istore hX dL_law_429 (Nat.le_of_ble_eq_true rfl) rfl ?_
                  refine r_sipush (v := (-15000)) hX dL_law_431 (by decide) ?_
                  refine r_istore hX dL_law_434 (Nat.le_of_ble_eq_true rfl) rfl ?_
                  refine r_iconst (v := 0) hX dL_law_436 (by decide) ?_
                  refine r_istore hX dL_law_437 (Nat.le_of_ble_eq_true rfl) rfl ?_
                  refine s_law_step hX hO371 hw hu hi hjl (by omega) (by omega) (fun f hf => ?_) _ 0 (Nat.zero_add _) (-15000) (Or.inl ⟨rfl, fun r hr => absurd hr (Nat.not_lt_zero r)⟩)
                  have efd : f = day := by
                    rcases hf with ⟨f1, f2⟩ | ⟨M, hM, f1⟩
                    · rcases hfc with ⟨q1, -⟩ | ⟨N, hN, -⟩
                      · rw [f1, q1]
                      · exact absurd hN.1 (f2 N)
                    · rcases hfc with ⟨-, q2⟩ | ⟨N, hN, q1⟩
                      · exact absurd hM.1 (q2 M)
                      · rw [f1, q1, hM.uniq hN]
                  refine r_iload hX dL_law_516 rfl ?_
                  refine r_iload hX dL_law_518 rfl ?_
                  refine r_icmp_eq (tgt := 525) hX dL_law_520 (by decide) (fun c520 => ?_) (fun c520 => ?_)
                  · refine r_iinc (v := nI (j + 1)) hX dL_law_525 rfl (nI_1 j) rfl ?_
                    refine r_goto (tgt := 340) hX dL_law_528 (by decide) ?_
                    exact r_keep [true, true, true, true, true, true, true, true, true, true, true, true, true, true, true, true, false, false, false, false, false] (ih (j + 1) (by omega) g371 m371 hO371 _ _ (by omega) (by omega))
                  · exact absurd efd c520
                · exact absurd c412 ed
              · exact absurd rfl c402
            · exact absurd c394 ed
          · exact absurd ((nI_eq (by omega) (by omega)).mp c381) e
set_option maxRecDepth 20000 in
set_option maxHeartbeats 4000000 in
theorem s_law_rank {E : qE} {X : qX} {Q : State → Prop} (hX : MC E yL_law cL_law 21 (some .boolean) 1475 600390 7287040 [] X) {x u t : Nat} {O : kO} (hw : WfO u O) (hu : u ≤ 6144) {i br dd co wo : Nat} (hi : i < O.1.1.length) {c0 s0 : Nat} (hc0 : c0 ≤ 600000) (hs0 : s0 ≤ 7000000) (K : ∀ (g : qG) (m : qM), ObsV g m x O → ∀ cN sN : Nat, cN ≤ c0 + 2 → sN ≤ s0 + 12 → WS E X cN sN Q g m 616 [some (.ref (eT E 2)), some (.ref x), some (.int (nI t)), some (.int (nI O.1.1.length)), some (.int (nI br)), some (.int 0), some (.int 0), some (.int (nI dd)), some (.int (nI co)), some (.int (nI wo)), some (.int (nI i)), some (.int (nI (cAt O.1.1 i 0))), some (.int (nI (cAt O.1.1 i 2))), some (.int (nI (cAt O.1.1 i 1))), some (.int (nI (cAt O.1.1 i 3))), none, none, none, none, none, none] []) (g : qG) (m : qM) (hO : ObsV g m x O) : WS E X c0 s0 Q g m 531 [some (.ref (eT E 2)), some (.ref x), some (.int (nI t)), some (.int (nI O.1.1.length)), some (.int (nI br)), some (.int 0), some (.int 0), some (.int (nI dd)), some (.int (nI co)), some (.int (nI wo)), some (.int (nI i)), some (.int (nI (cAt O.1.1 i 0))), some (.int (nI (cAt O.1.1 i 2))), some (.int (nI (cAt O.1.1 i 1))), some (.int (nI (cAt O.1.1 i 3))), none, none, none, none, none, none] [] := by
  have hl6 := hw.len
  have hD := hw.day hu
  refine r_iload hX dL_law_531 rfl ?_
  refine r_if_ne (tgt := 539) hX dL_law_533 (by decide) (fun c533 => ?_) (fun c533 => ?_)
  · have hi0 : 0 < i := Nat.pos_of_ne_zero (fun q => c533 (by rw [q]; rfl))
    obtain ⟨ia, hia, hra, ea⟩ := rank_at hw (k := i - 1) (by omega)
    obtain ⟨ic, hic, hrc, ec⟩ := rank_at hw (k := i) hi
    have hord := rank_ord hw hia hic hra (by rw [hrc]; omega)
    have ba := hw.com hu hia
    have bc := hw.com hu hic
    refine r_aload_n hX dL_law_539 rfl ?_
    refine r_iload hX dL_law_540 rfl ?_
    refine r_iconst (v := 1) hX dL_law_542 (by decide) ?_
    refine r_isub hX dL_law_543 ?_
    rw [show nI i - (1 : Int32) = nI (i - 1) from pk_sub (b := 1) (by omega)]
    refine r_callVX hX dL_law_544 (s_X7_cometAtRank E g m x O hO u hw hu (nI (i - 1))) ml_L_52 mk_L_52 rfl rfl hO.1.1 rfl ⟨Nat.le_of_ble_eq_true rfl, Nat.le_of_ble_eq_true rfl⟩ ⟨by omega, by omega, rfl, Nat.le_of_ble_eq_true rfl⟩ (fun v544 g544 m544 hp => ?_) (fun nm gx mx hp => ?_)
    rotate_left
    · obtain ⟨⟨k9, hk9, -⟩, -⟩ := hp
      rw [ea] at hk9
      exact absurd hk9 (Nat.succ_ne_zero k9).symm
    obtain ⟨-, hv, hO544, -⟩ := hp
    rw [ea] at hv hO544
    subst v544
    refine r_istore hX dL_law_547 (Nat.le_of_ble_eq_true rfl) rfl ?_
    refine r_aload_n hX dL_law_549 rfl ?_
    refine r_iload hX dL_law_550 rfl ?_
    refine r_callVX hX dL_law_552 (s_X7_cometAtRank E g544 m544 x O hO544 u hw hu (nI i)) ml_L_52 mk_L_52 rfl rfl hO544.1.1 rfl ⟨Nat.le_of_ble_eq_true rfl, Nat.le_of_ble_eq_true rfl⟩ ⟨by omega, by omega, rfl, Nat.le_of_ble_eq_true rfl⟩ (fun v552 g552 m552 hp => ?_) (fun nm gx mx hp => ?_)
    rotate_left
    · obtain ⟨⟨k9, hk9, -⟩, -⟩ := hp
      rw [ec] at hk9
      exact absurd hk9 (Nat.succ_ne_zero k9).symm
    obtain ⟨-, hv, hO552, -⟩ := hp
    rw [ec] at hv hO552
    subst v552
    refine r_istore hX dL_law_555 (Nat.le_of_ble_eq_true rfl) rfl ?_
    refine r_aload_n hX dL_law_557 rfl ?_
    refine r_iload hX dL_law_558 rfl ?_
    refine r_callV hX dL_law_560 (z_X7_brightness E g552 m552 x O hO552 u hw hu ia hia) ml_L_110 rfl rfl hO552.1.1 rfl ⟨Nat.le_of_ble_eq_true rfl, Nat.le_of_ble_eq_true rfl⟩ ⟨by omega, by omega, rfl, Nat.le_of_ble_eq_true rfl⟩ (fun v560 g560 m560 hp => ?_)
    obtain ⟨hv, hg, hm⟩ := hp
    subst v560
    subst g560
    subst m560
    refine r_aload_n hX dL_law_563 rfl ?_
    refine r_iload hX dL_law_564 rfl ?_
    refine r_callV hX dL_law_566 (z_X7_brightness E g552 m552 x O hO552 u hw hu ic hic) ml_L_110 rfl rfl hO552.1.1 rfl ⟨Nat.le_of_ble_eq_true rfl, Nat.le_of_ble_eq_true rfl⟩ ⟨by omega, by omega, rfl, Nat.le_of_ble_eq_true rfl⟩ (fun v566 g566 m566 hp => ?_)
    obtain ⟨hv, hg, hm⟩ := hp
    subst v566
    subst g566
    subst m566
    refine r_isub hX dL_law_569 ?_
    rw [pk_sub (by omega)]
    refine r_istore hX dL_law_570 (Nat.le_of_ble_eq_true rfl) rfl ?_
    refine r_aload_n hX dL_law_572 rfl ?_
    refine r_iload hX dL_law_573 rfl ?_
    refine r_callV hX dL_law_575 (z_X7_nextPass E g552 m552 x O hO552 u hw hu ic hic) ml_L_116 rfl rfl hO552.1.1 rfl ⟨Nat.le_of_ble_eq_true rfl, Nat.le_of_ble_eq_true rfl⟩ ⟨by omega, by omega, rfl, Nat.le_of_ble_eq_true rfl⟩ (fun v575 g575 m575 hp => ?_)
    obtain ⟨hv, hg, hm⟩ := hp
    subst v575
    subst g575
    subst m575
    refine r_aload_n hX dL_law_578 rfl ?_
    refine r_iload hX dL_law_579 rfl ?_
    refine r_callV hX dL_law_581 (z_X7_nextPass E g552 m552 x O hO552 u hw hu ia hia) ml_L_116 rfl rfl hO552.1.1 rfl ⟨Nat.le_of_ble_eq_true rfl, Nat.le_of_ble_eq_true rfl⟩ ⟨by omega, by omega, rfl, Nat.le_of_ble_eq_true rfl⟩ (fun v581 g581 m581 hp => ?_)
    obtain ⟨hv, hg, hm⟩ := hp
    subst v581
    subst g581
    subst m581
    refine r_isub hX dL_law_584 ?_
    refine r_istore hX dL_law_585 (Nat.le_of_ble_eq_true rfl) rfl ?_
    refine r_iload hX dL_law_587 rfl ?_
    refine r_if_lt (tgt := 614) hX dL_law_589 (by decide) (fun c589 => ?_) (fun c589 => ?_)
    · exact absurd c589 (nI_pos (by omega))
    · refine r_iload hX dL_law_592 rfl ?_
      refine r_if_ne (tgt := 616) hX dL_law_594 (by decide) (fun c594 => ?_) (fun c594 => ?_)
      · exact r_keep [true, true, true, true, true, true, true, true, true, true, true, true, true, true, true, false, false, false, false, false, false] (K g552 m552 hO552 _ _ (by omega) (by omega))
      · have e594 := (nI_eq (b := 0) (by omega) (by decide)).mp c594
        refine r_iload hX dL_law_597 rfl ?_
        refine r_if_lt (tgt := 614) hX dL_law_599 (by decide) (fun c599 => ?_) (fun c599 => ?_)
        · exact absurd c599 (by rw [pk_sub (by omega)]; exact nI_pos (by omega))
        · refine r_iload hX dL_law_602 rfl ?_
          refine r_if_ne (tgt := 616) hX dL_law_604 (by decide) (fun c604 => ?_) (fun c604 => ?_)
          · exact r_keep [true, true, true, true, true, true, true, true, true, true, true, true, true, true, true, false, false, false, false, false, false] (K g552 m552 hO552 _ _ (by omega) (by omega))
          · have e604 : cAt O.1.1 ic 3 - cAt O.1.1 ia 3 = 0 := (nI_eq (b := 0) (by omega) (by decide)).mp (by rw [← pk_sub (show cAt O.1.1 ia 3 ≤ cAt O.1.1 ic 3 by omega)]; exact c604)
            refine r_iload hX dL_law_607 rfl ?_
            refine r_iload hX dL_law_609 rfl ?_
            refine r_icmp_le (tgt := 616) hX dL_law_611 (by decide) (fun c611 => ?_) (fun c611 => ?_)
            · exact r_keep [true, true, true, true, true, true, true, true, true, true, true, true, true, true, true, false, false, false, false, false, false] (K g552 m552 hO552 _ _ (by omega) (by omega))
            · exact absurd (nI_le (a := cAt O.1.1 ia 0) (b := cAt O.1.1 ic 0) (by omega) (by omega)) c611
  · refine r_goto (tgt := 616) hX dL_law_536 (by decide) ?_
    exact K g m hO c0 s0 (by omega) (by omega)
set_option maxRecDepth 20000 in
set_option maxHeartbeats 4000000 in
theorem s_law_b1 {E : qE} {X : qX} {Q : State → Prop} (hX : MC E yL_law cL_law 21 (some .boolean) 1475 600390 7287040 [] X) {x u t : Nat} {O : kO} (hw : WfO u O) (hu : u ≤ 6144) {i br dd co wo : Nat} (hi : i < O.1.1.length) {c0 s0 : Nat} (hc0 : c0 ≤ 600000) (hs0 : s0 ≤ 7000000) (K : ∀ (g : qG) (m : qM), ObsV g m x O → ∀ cN sN : Nat, cN ≤ c0 + 2 → sN ≤ s0 + 12 → WS E X cN sN Q g m 205 [some (.ref (eT E 2)), some (.ref x), some (.int (nI t)), some (.int (nI O.1.1.length)), some (.int (nI br)), some (.int 0), some (.int 0), some (.int (nI dd)), some (.int (nI co)), some (.int (nI wo)), some (.int (nI i)), some (.int (nI (cAt O.1.1 i 0))), some (.int (nI (cAt O.1.1 i 2))), some (.int (nI (cAt O.1.1 i 1))), some (.int (nI (cAt O.1.1 i 3))), none, none, none, none, none, none] []) (g : qG) (m : qM) (hO : ObsV g m x O) : WS E X c0 s0 Q g m 57 [some (.ref (eT E 2)), some (.ref x), some (.int (nI t)), some (.int (nI O.1.1.length)), some (.int (nI br)), some (.int 0), some (.int 0), some (.int (nI dd)), some (.int (nI co)), some (.int (nI wo)), some (.int (nI i)), none, none, none, none, none, none, none, none, none, none] [] := by
  have hl6 := hw.len
  have hD := hw.day hu
  have bi := hw.com hu hi
  refine r_iload hX dL_law_57 rfl ?_
  refine r_iload_n hX dL_law_59 rfl ?_
  refine r_icmp_ge (tgt := 622) hX dL_law_60 (by decide) (fun c60 => ?_) (fun c60 => ?_)
  · exact absurd c60 (nI_ge hi (by omega))
  · refine r_aload_n hX dL_law_63 rfl ?_
    refine r_iload hX dL_law_64 rfl ?_
    refine r_callVX hX dL_law_66 (s_X7_cometAt E g m x O hO u hw hu (nI i)) ml_L_49 mk_L_49 rfl rfl hO.1.1 rfl ⟨Nat.le_of_ble_eq_true rfl, Nat.le_of_ble_eq_true rfl⟩ ⟨by omega, by omega, rfl, Nat.le_of_ble_eq_true rfl⟩ (fun v66 g66 m66 hp => ?_) (fun nm gx mx hp => ?_)
    rotate_left
    · obtain ⟨⟨k9, hk9, -⟩, -⟩ := hp
      rw [qAt_n (by omega) hw.len] at hk9
      exact absurd hk9 (Nat.succ_ne_zero k9).symm
    obtain ⟨-, hv, hO66, -⟩ := hp
    rw [qAt_n (by omega) hw.len] at hv hO66
    replace hv : v66 = some (.int (nI (cAt O.1.1 i 0))) := hv
    subst v66
    refine r_istore hX dL_law_69 (Nat.le_of_ble_eq_true rfl) rfl ?_
    refine r_aload_n hX dL_law_71 rfl ?_
    refine r_iload hX dL_law_72 rfl ?_
    refine r_callV hX dL_law_74 (z_X7_brightness E g66 m66 x O hO66 u hw hu i hi) ml_L_110 rfl rfl hO66.1.1 rfl ⟨Nat.le_of_ble_eq_true rfl, Nat.le_of_ble_eq_true rfl⟩ ⟨by omega, by omega, rfl, Nat.le_of_ble_eq_true rfl⟩ (fun v74 g74 m74 hp => ?_)
    obtain ⟨hv, hg, hm⟩ := hp
    subst v74
    subst g74
    subst m74
    refine r_istore hX dL_law_77 (Nat.le_of_ble_eq_true rfl) rfl ?_
    refine r_aload_n hX dL_law_79 rfl ?_
    refine r_iload hX dL_law_80 rfl ?_
    refine r_callV hX dL_law_82 (z_X7_period E g66 m66 x O hO66 u hw hu i hi) ml_L_113 rfl rfl hO66.1.1 rfl ⟨Nat.le_of_ble_eq_true rfl, Nat.le_of_ble_eq_true rfl⟩ ⟨by omega, by omega, rfl, Nat.le_of_ble_eq_true rfl⟩ (fun v82 g82 m82 hp => ?_)
    obtain ⟨hv, hg, hm⟩ := hp
    subst v82
    subst g82
    subst m82
    refine r_istore hX dL_law_85 (Nat.le_of_ble_eq_true rfl) rfl ?_
    refine r_aload_n hX dL_law_87 rfl ?_
    refine r_iload hX dL_law_88 rfl ?_
    refine r_callV hX dL_law_90 (z_X7_nextPass E g66 m66 x O hO66 u hw hu i hi) ml_L_116 rfl rfl hO66.1.1 rfl ⟨Nat.le_of_ble_eq_true rfl, Nat.le_of_ble_eq_true rfl⟩ ⟨by omega, by omega, rfl, Nat.le_of_ble_eq_true rfl⟩ (fun v90 g90 m90 hp => ?_)
    obtain ⟨hv, hg, hm⟩ := hp
    subst v90
    subst g90
    subst m90
    refine r_istore hX dL_law_93 (Nat.le_of_ble_eq_true rfl) rfl ?_
    refine r_iload hX dL_law_95 rfl ?_
    refine r_iconst (v := 1) hX dL_law_97 (by decide) ?_
    refine r_icmp_lt (tgt := 203) hX dL_law_98 (by decide) (fun c98 => ?_) (fun c98 => ?_)
    · exact absurd c98 (nI_nlt (b := 1) (by omega) (by omega))
    · refine r_iload hX dL_law_101 rfl ?_
      refine r_bipush (v := 20) hX dL_law_103 (by decide) ?_
      refine r_icmp_gt (tgt := 203) hX dL_law_105 (by decide) (fun c105 => ?_) (fun c105 => ?_)
      · exact absurd c105 (nI_nlt (a := 20) (by omega) (by decide))
      · refine r_iload hX dL_law_108 rfl ?_
        refine r_iconst (v := 2) hX dL_law_110 (by decide) ?_
        refine r_icmp_lt (tgt := 203) hX dL_law_111 (by decide) (fun c111 => ?_) (fun c111 => ?_)
        · exact absurd c111 (nI_nlt (b := 2) (by omega) (by omega))
        · refine r_iload hX dL_law_114 rfl ?_
          refine r_bipush (v := 60) hX dL_law_116 (by decide) ?_
          refine r_icmp_gt (tgt := 203) hX dL_law_118 (by decide) (fun c118 => ?_) (fun c118 => ?_)
          · exact absurd c118 (nI_nlt (a := 60) (by omega) (by decide))
          · refine r_iload hX dL_law_121 rfl ?_
            refine r_aload_n hX dL_law_123 rfl ?_
            refine r_callV hX dL_law_124 (s_X7_day E g66 m66 x O hO66 u hw hu) ml_L_119 rfl rfl hO66.1.1 rfl ⟨Nat.le_of_ble_eq_true rfl, Nat.le_of_ble_eq_true rfl⟩ ⟨by omega, by omega, rfl, Nat.le_of_ble_eq_true rfl⟩ (fun v124 g124 m124 hp => ?_)
            obtain ⟨-, hv, hO124, -⟩ := hp
            replace hv : v124 = some (.int (nI (O.1.2.1 2))) := hv
            subst v124
            refine r_icmp_le (tgt := 203) hX dL_law_127 (by decide) (fun c127 => ?_) (fun c127 => ?_)
            · exact absurd c127 (nI_ge (by omega) (by omega))
            · refine r_iload hX dL_law_130 rfl ?_
              refine r_aload_n hX dL_law_132 rfl ?_
              refine r_callV hX dL_law_133 (s_X7_day E g124 m124 x O hO124 u hw hu) ml_L_119 rfl rfl hO124.1.1 rfl ⟨Nat.le_of_ble_eq_true rfl, Nat.le_of_ble_eq_true rfl⟩ ⟨by omega, by omega, rfl, Nat.le_of_ble_eq_true rfl⟩ (fun v133 g133 m133 hp => ?_)
              obtain ⟨-, hv, hO133, -⟩ := hp
              replace hv : v133 = some (.int (nI (O.1.2.1 2))) := hv
              subst v133
              refine r_bipush (v := 60) hX dL_law_136 (by decide) ?_
              refine r_iadd hX dL_law_138 ?_
              rw [show nI (O.1.2.1 2) + (60 : Int32) = nI (O.1.2.1 2 + 60) from nI_add _ 60]
              refine r_icmp_gt (tgt := 203) hX dL_law_139 (by decide) (fun c139 => ?_) (fun c139 => ?_)
              · exact absurd c139 (nI_nlt (by omega) (by omega))
              · refine r_aload_n hX dL_law_142 rfl ?_
                refine r_iload hX dL_law_143 rfl ?_
                refine r_callV hX dL_law_145 (z_X7_tail E g133 m133 x O hO133 u hw hu i hi) ml_L_122 rfl rfl hO133.1.1 rfl ⟨Nat.le_of_ble_eq_true rfl, Nat.le_of_ble_eq_true rfl⟩ ⟨by omega, by omega, rfl, Nat.le_of_ble_eq_true rfl⟩ (fun v145 g145 m145 hp => ?_)
                obtain ⟨hv, hg, hm⟩ := hp
                subst v145
                subst g145
                subst m145
                refine r_iconst (v := 1) hX dL_law_148 (by decide) ?_
                refine r_iload hX dL_law_149 rfl ?_
                refine r_iconst (v := 5) hX dL_law_151 (by decide) ?_
                refine r_idiv hX dL_law_152 (by decide) ?_
                rw [show nI (cAt O.1.1 i 2) / (5 : Int32) = nI (cAt O.1.1 i 2 / 5) from pk_div (d := 5) (by omega) (by decide) (by decide)]
                refine r_iadd hX dL_law_153 ?_
                rw [show (1 : Int32) + nI (cAt O.1.1 i 2 / 5) = nI (1 + cAt O.1.1 i 2 / 5) from nI_add 1 _]
                refine r_icmp_ne (tgt := 203) hX dL_law_154 (by decide) (fun c154 => ?_) (fun c154 => ?_)
                · exact absurd rfl c154
                · refine r_aload_n hX dL_law_157 rfl ?_
                  refine r_iload hX dL_law_158 rfl ?_
                  refine r_callV hX dL_law_160 (z_X7_lastPass E g133 m133 x O hO133 u hw hu i hi) ml_L_125 rfl rfl hO133.1.1 rfl ⟨Nat.le_of_ble_eq_true rfl, Nat.le_of_ble_eq_true rfl⟩ ⟨by omega, by omega, rfl, Nat.le_of_ble_eq_true rfl⟩ (fun v160 g160 m160 hp => ?_)
                  obtain ⟨hv, hg, hm⟩ := hp
                  subst v160
                  subst g160
                  subst m160
                  refine r_iload hX dL_law_163 rfl ?_
                  refine r_iload hX dL_law_165 rfl ?_
                  refine r_iconst (v := 1) hX dL_law_167 (by decide) ?_
                  refine r_isub hX dL_law_168 ?_
                  rw [show nI (cAt O.1.1 i 2) - (1 : Int32) = nI (cAt O.1.1 i 2 - 1) from pk_sub (b := 1) (by omega)]
                  refine r_iload hX dL_law_169 rfl ?_
                  refine r_imul hX dL_law_171 ?_
                  rw [pk_mul]
                  refine r_iadd hX dL_law_172 ?_
                  rw [nI_add]
                  refine r_icmp_ne (tgt := 203) hX dL_law_173 (by decide) (fun c173 => ?_) (fun c173 => ?_)
                  · exact absurd rfl c173
                  · refine r_aload_n hX dL_law_176 rfl ?_
                    refine r_iload hX dL_law_177 rfl ?_
                    refine r_callV hX dL_law_179 (s_X7_exists E g133 m133 x O hO133 u hw hu (nI (cAt O.1.1 i 0))) ml_L_128 rfl rfl hO133.1.1 rfl ⟨Nat.le_of_ble_eq_true rfl, Nat.le_of_ble_eq_true rfl⟩ ⟨by omega, by omega, rfl, Nat.le_of_ble_eq_true rfl⟩ (fun v179 g179 m179 hp => ?_)
                    obtain ⟨-, hv, hO179, -⟩ := hp
                    rw [qEx_n hw hu hi] at hv hO179
                    replace hv : v179 = some (.int 1) := hv
                    subst v179
                    refine r_if_eq (tgt := 203) hX dL_law_182 (by decide) (fun c182 => ?_) (fun c182 => ?_)
                    · exact absurd c182 (by decide)
                    · refine r_iload hX dL_law_185 rfl ?_
                      refine r_if_le (tgt := 205) hX dL_law_187 (by decide) (fun c187 => ?_) (fun c187 => ?_)
                      · exact K g179 m179 hO179 _ _ (by omega) (by omega)
                      · have hi0 : 0 < i := Nat.pos_of_ne_zero (fun q => c187 (by rw [q]; decide))
                        refine r_iload hX dL_law_190 rfl ?_
                        refine r_aload_n hX dL_law_192 rfl ?_
                        refine r_iload hX dL_law_193 rfl ?_
                        refine r_iconst (v := 1) hX dL_law_195 (by decide) ?_
                        refine r_isub hX dL_law_196 ?_
                        rw [show nI i - (1 : Int32) = nI (i - 1) from pk_sub (b := 1) (by omega)]
                        refine r_callVX hX dL_law_197 (s_X7_cometAt E g179 m179 x O hO179 u hw hu (nI (i - 1))) ml_L_49 mk_L_49 rfl rfl hO179.1.1 rfl ⟨Nat.le_of_ble_eq_true rfl, Nat.le_of_ble_eq_true rfl⟩ ⟨by omega, by omega, rfl, Nat.le_of_ble_eq_true rfl⟩ (fun v197 g197 m197 hp => ?_) (fun nm gx mx hp => ?_)
                        rotate_left
                        · obtain ⟨⟨k9, hk9, -⟩, -⟩ := hp
                          rw [qAt_n (by omega) hw.len] at hk9
                          exact absurd hk9 (Nat.succ_ne_zero k9).symm
                        obtain ⟨-, hv, hO197, -⟩ := hp
                        rw [qAt_n (by omega) hw.len] at hv hO197
                        replace hv : v197 = some (.int (nI (cAt O.1.1 (i - 1) 0))) := hv
                        subst v197
                        refine r_icmp_gt (tgt := 205) hX dL_law_200 (by decide) (fun c200 => ?_) (fun c200 => ?_)
                        · exact K g197 m197 hO197 _ _ (by omega) (by omega)
                        · have b9 := hw.com hu (i := i - 1) (by omega)
                          exact absurd (nI_lt (hw.1.asc (i := i - 1) (j := i) (by omega) hi) (by omega)) c200
set_option maxRecDepth 20000 in
set_option maxHeartbeats 4000000 in
theorem s_law_b2 {E : qE} {X : qX} {Q : State → Prop} (hX : MC E yL_law cL_law 21 (some .boolean) 1475 600390 7287040 [] X) {x u t : Nat} {O : kO} (hw : WfO u O) (hu : u ≤ 6144) {i br dd co wo : Nat} (hi : i < O.1.1.length) {c0 s0 : Nat} (hc0 : c0 ≤ 600000) (hs0 : s0 ≤ 7000000) (K : ∀ (g : qG) (m : qM), ObsV g m x (setLn O (cLine (cAt O.1.1 i))) → ∀ cN sN : Nat, cN ≤ c0 + 140 → sN ≤ s0 + 6000 → WS E X cN sN Q g m 265 [some (.ref (eT E 2)), some (.ref x), some (.int (nI t)), some (.int (nI O.1.1.length)), some (.int (nI br)), some (.int 0), some (.int 0), some (.int (nI dd)), some (.int (nI co)), some (.int (nI wo)), some (.int (nI i)), some (.int (nI (cAt O.1.1 i 0))), some (.int (nI (cAt O.1.1 i 2))), some (.int (nI (cAt O.1.1 i 1))), some (.int (nI (cAt O.1.1 i 3))), none, none, none, none, none, none] []) (g : qG) (m : qM) (hO : ObsV g m x O) : WS E X c0 s0 Q g m 205 [some (.ref (eT E 2)), some (.ref x), some (.int (nI t)), some (.int (nI O.1.1.length)), some (.int (nI br)), some (.int 0), some (.int 0), some (.int (nI dd)), some (.int (nI co)), some (.int (nI wo)), some (.int (nI i)), some (.int (nI (cAt O.1.1 i 0))), some (.int (nI (cAt O.1.1 i 2))), some (.int (nI (cAt O.1.1 i 1))), some (.int (nI (cAt O.1.1 i 3))), none, none, none, none, none, none] [] := by
  have hl6 := hw.len
  have hD := hw.day hu
  have bi := hw.com hu hi
  have hw2 : WfO u (setLn O (cLine (cAt O.1.1 i))) := setLn_same hw (by have := cLine_len (cAt O.1.1 i); omega) (cLine_lt _)
  have z0 := digs_le (cAt O.1.1 i 0)
  have z1 := digs_le (cAt O.1.1 i 1)
  have z2 := digs_le (cAt O.1.1 i 2)
  have z3 := digs_le (cAt O.1.1 i 3)
  refine r_aload_n hX dL_law_205 rfl ?_
  refine r_aload_n hX dL_law_206 rfl ?_
  refine r_iload hX dL_law_207 rfl ?_
  refine r_callVX hX dL_law_209 (s_X7_writeComet E g m x O hO u hw hu (nI (cAt O.1.1 i 0))) ml_L_132 mk_L_132 rfl rfl hO.1.1 rfl ⟨Nat.le_of_ble_eq_true rfl, Nat.le_of_ble_eq_true rfl⟩ ⟨by omega, by omega, rfl, Nat.le_of_ble_eq_true rfl⟩ (fun v209 g209 m209 hp => ?_) (fun nm gx mx hp => ?_)
  rotate_left
  · obtain ⟨⟨k9, hk9, -⟩, -⟩ := hp
    rw [wcO_at hw hu hi] at hk9
    exact absurd hk9 (Nat.succ_ne_zero k9).symm
  obtain ⟨-, hv, hO209, -⟩ := hp
  rw [wcO_at hw hu hi] at hv hO209
  replace hv : v209 = some (.int (nI (cLine (cAt O.1.1 i)).length)) := hv
  subst v209
  refine r_known (fun hk209 => ?_)
  have jn := (Jn.one g209 m209).new hk209 (.inl 1)
  refine r_new hX dL_law_212 nl_L_135 (by omega) (by omega) ?_
  refine r_dup hX dL_law_215 rfl ?_
  refine r_callI hX dL_law_216 (Sp.join jn.sy (s_J4_init _ (gNew ((fun _ => none, g209.2) : qG) (.inl 1)) (wZ m209 g209.2) g209.2 (gNew_at _ _) rfl (qI_wZ_s _ _ _))) ml_L_137 rfl rfl ⟨Nat.le_of_ble_eq_true rfl, Nat.le_of_ble_eq_true rfl⟩ ⟨by omega, by omega, rfl, Nat.le_of_ble_eq_true rfl⟩ (fun v216 g216 m216 hp => ?_)
  obtain ⟨h216, n216, ⟨hv, -, hB216, -⟩, j216⟩ := hp
  have j216 := j216.sy
  subst v216
  refine r_iload hX dL_law_219 rfl ?_
  refine r_callV hX dL_law_221 (Sp.join j216.sy (s_J4_appI _ h216 n216 g209.2 [] hB216 (cAt O.1.1 i 0) (by omega) (by simp only [List.length_append, decL_len, List.length_nil, List.length_cons]; omega))) ml_L_138 rfl rfl (j216.2.2.2.1 _ _ hB216.choose_spec.choose_spec.1.1).1 rfl ⟨Nat.le_of_ble_eq_true rfl, Nat.le_of_ble_eq_true rfl⟩ ⟨by omega, by omega, rfl, Nat.le_of_ble_eq_true rfl⟩ (fun v221 g221 m221 hp => ?_)
  obtain ⟨h221, n221, ⟨hv, hB221, -⟩, j221⟩ := hp
  have j221 := j221.sy
  subst v221
  refine r_ldcS (i := 0) (tx := "*") hX dL_law_224 rfl ?_
  refine r_callV hX dL_law_226 (Sp.join j221.sy (t_J4_appS _ (Jn.one h221 n221) g209.2 ([] ++ decL (cAt O.1.1 i 0)) hB221 (eS E 0) (eV E 0) [42] ⟨Or.inl ⟨0, [42], rfl, rfl, rfl, rfl⟩, by decide, by decide⟩ (by simp only [List.length_append, decL_len, List.length_nil, List.length_cons]; omega))) ml_L_144 rfl rfl (j221.2.2.2.1 _ _ hB221.choose_spec.choose_spec.1.1).1 rfl ⟨Nat.le_of_ble_eq_true rfl, Nat.le_of_ble_eq_true rfl⟩ ⟨by omega, by omega, rfl, Nat.le_of_ble_eq_true rfl⟩ (fun v226 g226 m226 hp => ?_)
  obtain ⟨h226, n226, ⟨hv, ga, ma, hBa, ja⟩, j226⟩ := hp
  have j226 := j226.sy
  have hB226 := hBa.sub ja.2.2.1
  subst v226
  refine r_iload hX dL_law_229 rfl ?_
  refine r_callV hX dL_law_231 (Sp.join j226.sy (s_J4_appI _ h226 n226 g209.2 (([] ++ decL (cAt O.1.1 i 0)) ++ [42]) hB226 (cAt O.1.1 i 2) (by omega) (by simp only [List.length_append, decL_len, List.length_nil, List.length_cons]; omega))) ml_L_138 rfl rfl (j226.2.2.2.1 _ _ hB226.choose_spec.choose_spec.1.1).1 rfl ⟨Nat.le_of_ble_eq_true rfl, Nat.le_of_ble_eq_true rfl⟩ ⟨by omega, by omega, rfl, Nat.le_of_ble_eq_true rfl⟩ (fun v231 g231 m231 hp => ?_)
  obtain ⟨h231, n231, ⟨hv, hB231, -⟩, j231⟩ := hp
  have j231 := j231.sy
  subst v231
  refine r_ldcS (i := 1) (tx := "/") hX dL_law_234 rfl ?_
  refine r_callV hX dL_law_236 (Sp.join j231.sy (t_J4_appS _ (Jn.one h231 n231) g209.2 ((([] ++ decL (cAt O.1.1 i 0)) ++ [42]) ++ decL (cAt O.1.1 i 2)) hB231 (eS E 1) (eV E 1) [47] ⟨Or.inl ⟨1, [47], rfl, rfl, rfl, rfl⟩, by decide, by decide⟩ (by simp only [List.length_append, decL_len, List.length_nil, List.length_cons]; omega))) ml_L_144 rfl rfl (j231.2.2.2.1 _ _ hB231.choose_spec.choose_spec.1.1).1 rfl ⟨Nat.le_of_ble_eq_true rfl, Nat.le_of_ble_eq_true rfl⟩ ⟨by omega, by omega, rfl, Nat.le_of_ble_eq_true rfl⟩ (fun v236 g236 m236 hp => ?_)
  obtain ⟨h236, n236, ⟨hv, ga, ma, hBa, ja⟩, j236⟩ := hp
  have j236 := j236.sy
  have hB236 := hBa.sub ja.2.2.1
  subst v236
  refine r_iload hX dL_law_239 rfl ?_
  refine r_callV hX dL_law_241 (Sp.join j236.sy (s_J4_appI _ h236 n236 g209.2 (((([] ++ decL (cAt O.1.1 i 0)) ++ [42]) ++ decL (cAt O.1.1 i 2)) ++ [47]) hB236 (cAt O.1.1 i 1) (by omega) (by simp only [List.length_append, decL_len, List.length_nil, List.length_cons]; omega))) ml_L_138 rfl rfl (j236.2.2.2.1 _ _ hB236.choose_spec.choose_spec.1.1).1 rfl ⟨Nat.le_of_ble_eq_true rfl, Nat.le_of_ble_eq_true rfl⟩ ⟨by omega, by omega, rfl, Nat.le_of_ble_eq_true rfl⟩ (fun v241 g241 m241 hp => ?_)
  obtain ⟨h241, n241, ⟨hv, hB241, -⟩, j241⟩ := hp
  have j241 := j241.sy
  subst v241
  refine r_ldcS (i := 2) (tx := "@") hX dL_law_244 rfl ?_
  refine r_callV hX dL_law_246 (Sp.join j241.sy (t_J4_appS _ (Jn.one h241 n241) g209.2 ((((([] ++ decL (cAt O.1.1 i 0)) ++ [42]) ++ decL (cAt O.1.1 i 2)) ++ [47]) ++ decL (cAt O.1.1 i 1)) hB241 (eS E 2) (eV E 2) [64] ⟨Or.inl ⟨2, [64], rfl, rfl, rfl, rfl⟩, by decide, by decide⟩ (by simp only [List.length_append, decL_len, List.length_nil, List.length_cons]; omega))) ml_L_144 rfl rfl (j241.2.2.2.1 _ _ hB241.choose_spec.choose_spec.1.1).1 rfl ⟨Nat.le_of_ble_eq_true rfl, Nat.le_of_ble_eq_true rfl⟩ ⟨by omega, by omega, rfl, Nat.le_of_ble_eq_true rfl⟩ (fun v246 g246 m246 hp => ?_)
  obtain ⟨h246, n246, ⟨hv, ga, ma, hBa, ja⟩, j246⟩ := hp
  have j246 := j246.sy
  have hB246 := hBa.sub ja.2.2.1
  subst v246
  refine r_iload hX dL_law_249 rfl ?_
  refine r_callV hX dL_law_251 (Sp.join j246.sy (s_J4_appI _ h246 n246 g209.2 (((((([] ++ decL (cAt O.1.1 i 0)) ++ [42]) ++ decL (cAt O.1.1 i 2)) ++ [47]) ++ decL (cAt O.1.1 i 1)) ++ [64]) hB246 (cAt O.1.1 i 3) (by omega) (by simp only [List.length_append, decL_len, List.length_nil, List.length_cons]; omega))) ml_L_138 rfl rfl (j246.2.2.2.1 _ _ hB246.choose_spec.choose_spec.1.1).1 rfl ⟨Nat.le_of_ble_eq_true rfl, Nat.le_of_ble_eq_true rfl⟩ ⟨by omega, by omega, rfl, Nat.le_of_ble_eq_true rfl⟩ (fun v251 g251 m251 hp => ?_)
  obtain ⟨h251, n251, ⟨hv, hB251, -⟩, j251⟩ := hp
  have j251 := j251.sy
  subst v251
  refine r_callV hX dL_law_254 (Sp.join j251.sy (t_J4_toString _ h251 n251 g209.2 ((((((([] ++ decL (cAt O.1.1 i 0)) ++ [42]) ++ decL (cAt O.1.1 i 2)) ++ [47]) ++ decL (cAt O.1.1 i 1)) ++ [64]) ++ decL (cAt O.1.1 i 3)) hB251)) ml_L_151 rfl rfl (j251.2.2.2.1 _ _ hB251.choose_spec.choose_spec.1.1).1 rfl ⟨Nat.le_of_ble_eq_true rfl, Nat.le_of_ble_eq_true rfl⟩ ⟨by omega, by omega, rfl, Nat.le_of_ble_eq_true rfl⟩ (fun v254 g254 m254 hp => ?_)
  obtain ⟨h254, n254, ⟨hv, -, hT254, -⟩, j254⟩ := hp
  have j254 := j254.sy
  subst v254
  refine r_callS hX dL_law_257 (s_L_isLine E j254 x (setLn O (cLine (cAt O.1.1 i))) hO209 u hw2 hu h251.2 (h251.2 + 1) (cLine (cAt O.1.1 i)) ⟨Or.inr hT254, cLine_lt _, by have := cLine_len (cAt O.1.1 i); omega⟩ rfl) ml_L_155 rfl rfl ⟨Nat.le_of_ble_eq_true rfl, Nat.le_of_ble_eq_true rfl⟩ ⟨by omega, by omega, rfl, Nat.le_of_ble_eq_true rfl⟩ (fun v257 g257 m257 hp => ?_)
  obtain ⟨hv, g9, m9, hO9, j9⟩ := hp
  subst v257
  refine r_sub j9.2.2.1 j9.1 ?_
  refine r_if_ne (tgt := 265) hX dL_law_260 (by decide) (fun c260 => ?_) (fun c260 => ?_)
  · exact K g9 m9 hO9 _ _ (by omega) (by omega)
  · exact absurd c260 (by decide)
set_option maxRecDepth 20000 in
set_option maxHeartbeats 4000000 in
theorem s_law_b3 {E : qE} {X : qX} {Q : State → Prop} (hX : MC E yL_law cL_law 21 (some .boolean) 1475 600390 7287040 [] X) {x u t : Nat} {O : kO} (hw : WfO u O) (hu : u ≤ 6144) {i br dd co wo : Nat} (hi : i < O.1.1.length) (hbr : br ≤ 1000) {c0 s0 : Nat} (hc0 : c0 ≤ 600000) (hs0 : s0 ≤ 7000000) (K : ∀ (g : qG) (m : qM), ObsV g m x O → ∀ cN sN : Nat, cN ≤ c0 + 1 → sN ≤ s0 + 6 → WS E X cN sN Q g m 287 [some (.ref (eT E 2)), some (.ref x), some (.int (nI t)), some (.int (nI O.1.1.length)), some (.int (nI (br + cAt O.1.1 i 2))), some (.int 0), some (.int 0), some (.int (nI dd)), some (.int (nI co)), some (.int (nI wo)), some (.int (nI i)), some (.int (nI (cAt O.1.1 i 0))), some (.int (nI (cAt O.1.1 i 2))), some (.int (nI (cAt O.1.1 i 1))), some (.int (nI (cAt O.1.1 i 3))), none, none, none, none, none, none] []) (g : qG) (m : qM) (hO : ObsV g m x O) : WS E X c0 s0 Q g m 265 [some (.ref (eT E 2)), some (.ref x), some (.int (nI t)), some (.int (nI O.1.1.length)), some (.int (nI br)), some (.int 0), some (.int 0), some (.int (nI dd)), some (.int (nI co)), some (.int (nI wo)), some (.int (nI i)), some (.int (nI (cAt O.1.1 i 0))), some (.int (nI (cAt O.1.1 i 2))), some (.int (nI (cAt O.1.1 i 1))), some (.int (nI (cAt O.1.1 i 3))), none, none, none, none, none, none] [] := by
  have hl6 := hw.len
  have hD := hw.day hu
  have bi := hw.com hu hi
  have hlc := lcV_bd (L := O.1.1) O.1.1.length (fun i hi => by have := hw.com hu hi; omega)
  have hlc2 : lcmV O.1.1 O.1.1.length ≤ 60 ^ 6 := Nat.le_trans hlc.2 (Nat.pow_le_pow_right (by decide) hl6)
  have hdv := Nat.mod_eq_zero_of_dvd (lcmV_dvd (L := O.1.1) O.1.1.length i hi)
  refine r_iload hX dL_law_265 rfl ?_
  refine r_iload hX dL_law_267 rfl ?_
  refine r_iadd hX dL_law_269 ?_
  rw [nI_add]
  refine r_istore hX dL_law_270 (Nat.le_of_ble_eq_true rfl) rfl ?_
  refine r_aload_n hX dL_law_272 rfl ?_
  refine r_callVX hX dL_law_273 (s_X7_alignment E g m x O hO u hw hu) ml_L_159 mk_L_159 rfl rfl hO.1.1 rfl ⟨Nat.le_of_ble_eq_true rfl, Nat.le_of_ble_eq_true rfl⟩ ⟨by omega, by omega, rfl, Nat.le_of_ble_eq_true rfl⟩ (fun v273 g273 m273 hp => ?_) (fun nm gx mx hp => ?_)
  rotate_left
  · obtain ⟨⟨k9, hk9, -⟩, -⟩ := hp
    rw [qAli_n hw hu (by omega)] at hk9
    exact absurd hk9 (Nat.succ_ne_zero k9).symm
  obtain ⟨-, hv, hO273, -⟩ := hp
  rw [qAli_n hw hu (by omega)] at hv hO273
  replace hv : v273 = some (.long (lN (lcmV O.1.1 O.1.1.length))) := hv
  subst v273
  refine r_iload hX dL_law_276 rfl ?_
  refine r_i2l hX dL_law_278 ?_
  rw [nI_l (by omega)]
  refine r_lrem hX dL_law_279 (fun q => absurd ((pk_lEQ (b := 0) (by omega) (by decide)).mp q) (by omega)) ?_
  rw [pk_lRem (by omega) (by omega) (by omega), hdv]
  refine r_lconst (v := 0) hX dL_law_280 (by decide) ?_
  refine r_lcmp hX dL_law_281 ?_
  rw [show lg_cmp (lN 0) 0 = 0 by decide]
  refine r_if_eq (tgt := 287) hX dL_law_282 (by decide) (fun c282 => ?_) (fun c282 => ?_)
  · exact K g273 m273 hO273 _ _ (by omega) (by omega)
  · exact absurd rfl c282
