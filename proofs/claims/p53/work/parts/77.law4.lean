/-! ===== the law: its loops over the comets ===== -/
set_option maxRecDepth 20000 in
set_option maxHeartbeats 4000000 in
theorem s_law_step {E : qE} {X : qX} {Q : State → Prop} (hX : MC E yL_law cL_law 21 (some .boolean) 1475 600390 7287040 [] X) {x u t : Nat} {O : kO} {g : qG} {m : qM} (hO : ObsV g m x O) (hw : WfO u O) (hu : u ≤ 6144) {i j br dd co wo : Nat} {day : Int32} (hi : i < O.1.1.length) (hj : j < O.1.1.length) {cN sN : Nat} (hc : cN ≤ 600390) (hs : sN ≤ 7287040) (K : ∀ f : Int32, ((f = -15000 ∧ ∀ r, ¬ IsMt (cAt O.1.1 i 1) (cAt O.1.1 i 3) (cAt O.1.1 j 1) (cAt O.1.1 j 3) r) ∨ ∃ M, FirMt (cAt O.1.1 i 1) (cAt O.1.1 i 3) (cAt O.1.1 j 1) (cAt O.1.1 j 3) M ∧ f = nI M) → WS E X cN sN Q g m 516 [some (.ref (eT E 2)), some (.ref x), some (.int (nI t)), some (.int (nI O.1.1.length)), some (.int (nI br)), some (.int 0), some (.int 0), some (.int (nI dd)), some (.int (nI co)), some (.int (nI wo)), some (.int (nI i)), some (.int (nI (cAt O.1.1 i 0))), some (.int (nI (cAt O.1.1 i 2))), some (.int (nI (cAt O.1.1 i 1))), some (.int (nI (cAt O.1.1 i 3))), some (.int (nI j)), some (.int (nI (cAt O.1.1 j 0))), some (.int day), some (.int (nI (max (cAt O.1.1 i 3) (cAt O.1.1 j 3)))), some (.int f), none] []) : ∀ (k s : Nat), s + k = cAt O.1.1 i 1 * cAt O.1.1 j 1 → ∀ f : Int32, ((f = -15000 ∧ ∀ r, r < s → ¬ IsMt (cAt O.1.1 i 1) (cAt O.1.1 i 3) (cAt O.1.1 j 1) (cAt O.1.1 j 3) (max (cAt O.1.1 i 3) (cAt O.1.1 j 3) + r)) ∨ ∃ M, FirMt (cAt O.1.1 i 1) (cAt O.1.1 i 3) (cAt O.1.1 j 1) (cAt O.1.1 j 3) M ∧ f = nI M) → WS E X cN sN Q g m 439 [some (.ref (eT E 2)), some (.ref x), some (.int (nI t)), some (.int (nI O.1.1.length)), some (.int (nI br)), some (.int 0), some (.int 0), some (.int (nI dd)), some (.int (nI co)), some (.int (nI wo)), some (.int (nI i)), some (.int (nI (cAt O.1.1 i 0))), some (.int (nI (cAt O.1.1 i 2))), some (.int (nI (cAt O.1.1 i 1))), some (.int (nI (cAt O.1.1 i 3))), some (.int (nI j)), some (.int (nI (cAt O.1.1 j 0))), some (.int day), some (.int (nI (max (cAt O.1.1 i 3) (cAt O.1.1 j 3)))), some (.int f), some (.int (nI s))] [] := by
  have bi := hw.com hu hi
  have bj := hw.com hu hj
  have hD := hw.day hu
  have hpp : cAt O.1.1 i 1 * cAt O.1.1 j 1 ≤ 60 * 60 := Nat.mul_le_mul bi.2.1 bj.2.1
  have hKend : ∀ f : Int32, (∃ M, FirMt (cAt O.1.1 i 1) (cAt O.1.1 i 3) (cAt O.1.1 j 1) (cAt O.1.1 j 3) M ∧ f = nI M) → ∀ s, WS E X cN sN Q g m 516 [some (.ref (eT E 2)), some (.ref x), some (.int (nI t)), some (.int (nI O.1.1.length)), some (.int (nI br)), some (.int 0), some (.int 0), some (.int (nI dd)), some (.int (nI co)), some (.int (nI wo)), some (.int (nI i)), some (.int (nI (cAt O.1.1 i 0))), some (.int (nI (cAt O.1.1 i 2))), some (.int (nI (cAt O.1.1 i 1))), some (.int (nI (cAt O.1.1 i 3))), some (.int (nI j)), some (.int (nI (cAt O.1.1 j 0))), some (.int day), some (.int (nI (max (cAt O.1.1 i 3) (cAt O.1.1 j 3)))), some (.int f), some (.int (nI s))] [] := fun f hf s => r_keep [true, true, true, true, true, true, true, true, true, true, true, true, true, true, true, true, true, true, true, true, false] (K f (Or.inr hf))
  intro k
  induction k with
  | zero =>
    intro s hs2 f hf
    refine r_iload hX dL_law_439 rfl ?_
    refine r_iload hX dL_law_441 rfl ?_
    refine r_aload_n hX dL_law_443 rfl ?_
    refine r_iload hX dL_law_444 rfl ?_
    refine r_callV hX dL_law_446 (z_X7_period E g m x O hO u hw hu j hj) ml_L_113 rfl rfl hO.1.1 rfl ⟨Nat.le_of_ble_eq_true rfl, Nat.le_of_ble_eq_true rfl⟩ ⟨by omega, by omega, rfl, Nat.le_of_ble_eq_true rfl⟩ (fun v446 g446 m446 hp => ?_)
    obtain ⟨hv, hg, hm⟩ := hp
    subst v446
    subst g446
    subst m446
    refine r_imul hX dL_law_449 ?_
    rw [pk_mul]
    refine r_icmp_ge (tgt := 516) hX dL_law_450 (by decide) (fun c450 => ?_) (fun c450 => ?_)
    · rcases hf with ⟨h1, h2⟩ | hf
      · subst h1
        refine r_keep [true, true, true, true, true, true, true, true, true, true, true, true, true, true, true, true, true, true, true, true, false] (K (-15000) (Or.inl ⟨rfl, fun r hr => ?_⟩))
        rcases mt_dec (cAt O.1.1 i 1) (cAt O.1.1 i 3) (cAt O.1.1 j 1) (cAt O.1.1 j 3) with ⟨M, hM⟩ | hn
        · have hb := hM.bd (by omega) (by omega)
          have h9 := hM.1.1
          have h8 := hM.1.2.2.1
          refine h2 (M - (max (cAt O.1.1 i 3) (cAt O.1.1 j 3))) (by omega) ?_
          rw [show max (cAt O.1.1 i 3) (cAt O.1.1 j 3) + (M - (max (cAt O.1.1 i 3) (cAt O.1.1 j 3))) = M by omega]
          exact hM.1
        · exact hn r hr
      · exact hKend f hf s
    · exact absurd (nI_le (a := cAt O.1.1 i 1 * cAt O.1.1 j 1) (b := s) (by omega) (by omega)) c450
  | succ k ih =>
    intro s hs2 f hf
    refine r_iload hX dL_law_439 rfl ?_
    refine r_iload hX dL_law_441 rfl ?_
    refine r_aload_n hX dL_law_443 rfl ?_
    refine r_iload hX dL_law_444 rfl ?_
    refine r_callV hX dL_law_446 (z_X7_period E g m x O hO u hw hu j hj) ml_L_113 rfl rfl hO.1.1 rfl ⟨Nat.le_of_ble_eq_true rfl, Nat.le_of_ble_eq_true rfl⟩ ⟨by omega, by omega, rfl, Nat.le_of_ble_eq_true rfl⟩ (fun v446 g446 m446 hp => ?_)
    obtain ⟨hv, hg, hm⟩ := hp
    subst v446
    subst g446
    subst m446
    refine r_imul hX dL_law_449 ?_
    rw [pk_mul]
    refine r_icmp_ge (tgt := 516) hX dL_law_450 (by decide) (fun c450 => ?_) (fun c450 => ?_)
    · exact absurd c450 (nI_ge (by omega) (by omega))
    · refine r_iload hX dL_law_453 rfl ?_
      refine r_sipush (v := (-15000)) hX dL_law_455 (by decide) ?_
      refine r_icmp_ne (tgt := 516) hX dL_law_458 (by decide) (fun c458 => ?_) (fun c458 => ?_)
      · refine hKend f (hf.resolve_left (fun h => c458 h.1)) s
      · rcases hf with ⟨h1, h2⟩ | ⟨M, hM, h1⟩
        · subst h1
          have hm12 : max (cAt O.1.1 i 3) (cAt O.1.1 j 3) + s < 2 ^ 30 := by omega
          refine r_iload hX dL_law_461 rfl ?_
          refine r_iload hX dL_law_463 rfl ?_
          refine r_iadd hX dL_law_465 ?_
          rw [nI_add]
          refine r_iload hX dL_law_466 rfl ?_
          refine r_isub hX dL_law_468 ?_
          rw [pk_sub (by omega)]
          refine r_iload hX dL_law_469 rfl ?_
          refine r_irem hX dL_law_471 (nI_ne0 (by omega) (by omega)) ?_
          rw [pk_rem (by omega) (by omega) (by omega)]
          refine r_if_ne (tgt := 505) hX dL_law_472 (by decide) (fun c472 => ?_) (fun c472 => ?_)
          · refine r_sipush (v := (-15000)) hX dL_law_505 (by decide) ?_
            refine r_istore hX dL_law_508 (Nat.le_of_ble_eq_true rfl) rfl ?_
            refine r_iinc (v := nI (s + 1)) hX dL_law_510 rfl (nI_1 s) rfl ?_
            refine r_goto (tgt := 439) hX dL_law_513 (by decide) ?_
            exact ih (s + 1) (by omega) _ (Or.inl ⟨rfl, fun r hr hmt => by
              rcases Nat.lt_or_ge r s with q | q
              · exact h2 r q hmt
              · rw [show r = s by omega] at hmt; exact c472 (by rw [(mt_at.mp hmt).1]; rfl)⟩)
          · refine r_iload hX dL_law_475 rfl ?_
            refine r_iload hX dL_law_477 rfl ?_
            refine r_iadd hX dL_law_479 ?_
            rw [nI_add]
            refine r_aload_n hX dL_law_480 rfl ?_
            refine r_iload hX dL_law_481 rfl ?_
            refine r_callV hX dL_law_483 (z_X7_nextPass E g m x O hO u hw hu j hj) ml_L_116 rfl rfl hO.1.1 rfl ⟨Nat.le_of_ble_eq_true rfl, Nat.le_of_ble_eq_true rfl⟩ ⟨by omega, by omega, rfl, Nat.le_of_ble_eq_true rfl⟩ (fun v483 g483 m483 hp => ?_)
            obtain ⟨hv, hg, hm⟩ := hp
            subst v483
            subst g483
            subst m483
            refine r_isub hX dL_law_486 ?_
            rw [pk_sub (by omega)]
            refine r_aload_n hX dL_law_487 rfl ?_
            refine r_iload hX dL_law_488 rfl ?_
            refine r_callV hX dL_law_490 (z_X7_period E g m x O hO u hw hu j hj) ml_L_113 rfl rfl hO.1.1 rfl ⟨Nat.le_of_ble_eq_true rfl, Nat.le_of_ble_eq_true rfl⟩ ⟨by omega, by omega, rfl, Nat.le_of_ble_eq_true rfl⟩ (fun v490 g490 m490 hp => ?_)
            obtain ⟨hv, hg, hm⟩ := hp
            subst v490
            subst g490
            subst m490
            refine r_irem hX dL_law_493 (nI_ne0 (by omega) (by omega)) ?_
            rw [pk_rem (by omega) (by omega) (by omega)]
            refine r_if_ne (tgt := 505) hX dL_law_494 (by decide) (fun c494 => ?_) (fun c494 => ?_)
            · refine r_sipush (v := (-15000)) hX dL_law_505 (by decide) ?_
              refine r_istore hX dL_law_508 (Nat.le_of_ble_eq_true rfl) rfl ?_
              refine r_iinc (v := nI (s + 1)) hX dL_law_510 rfl (nI_1 s) rfl ?_
              refine r_goto (tgt := 439) hX dL_law_513 (by decide) ?_
              exact ih (s + 1) (by omega) _ (Or.inl ⟨rfl, fun r hr hmt => by
                rcases Nat.lt_or_ge r s with q | q
                · exact h2 r q hmt
                · rw [show r = s by omega] at hmt; exact c494 (by rw [(mt_at.mp hmt).2]; rfl)⟩)
            · refine r_iload hX dL_law_497 rfl ?_
              refine r_iload hX dL_law_499 rfl ?_
              refine r_iadd hX dL_law_501 ?_
              rw [nI_add]
              refine r_goto (tgt := 508) hX dL_law_502 (by decide) ?_
              refine r_istore hX dL_law_508 (Nat.le_of_ble_eq_true rfl) rfl ?_
              have e1 := (nI_eq (b := 0) (by have := Nat.mod_le (max (cAt O.1.1 i 3) (cAt O.1.1 j 3) + s - cAt O.1.1 i 3) (cAt O.1.1 i 1); omega) (by decide)).mp c472
              have e2 := (nI_eq (b := 0) (by have := Nat.mod_le (max (cAt O.1.1 i 3) (cAt O.1.1 j 3) + s - cAt O.1.1 j 3) (cAt O.1.1 j 1); omega) (by decide)).mp c494
              refine r_iinc (v := nI (s + 1)) hX dL_law_510 rfl (nI_1 s) rfl ?_
              refine r_goto (tgt := 439) hX dL_law_513 (by decide) ?_
              refine ih (s + 1) (by omega) _ (Or.inr ⟨max (cAt O.1.1 i 3) (cAt O.1.1 j 3) + s, ⟨mt_at.mpr ⟨e1, e2⟩, fun y hy => ?_⟩, rfl⟩)
              have h9 := hy.1
              have h8 := hy.2.2.1
              refine Classical.byContradiction (fun hlt => h2 (y - max (cAt O.1.1 i 3) (cAt O.1.1 j 3)) (by omega) ?_)
              rw [show max (cAt O.1.1 i 3) (cAt O.1.1 j 3) + (y - max (cAt O.1.1 i 3) (cAt O.1.1 j 3)) = y by omega]
              exact hy
        · have hb := hM.bd (by omega) (by omega)
          have h9 : (0 : Int32) ≤ f := by rw [h1]; exact nI_pos' (by omega)
          rw [c458] at h9
          exact absurd h9 (by decide)
