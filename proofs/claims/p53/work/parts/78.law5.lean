/-! ===== the law: all comets; the plans ===== -/
set_option maxRecDepth 20000 in
set_option maxHeartbeats 4000000 in
theorem s_law_com {E : qE} {X : qX} {Q : State → Prop} (hX : MC E yL_law cL_law 21 (some .boolean) 1475 600390 7287040 [] X) {x u t : Nat} {V : kV} {dd : Nat} (hd : dd ≤ 60) (hu : u ≤ 6144) {c0 s0 : Nat} (hc0 : c0 ≤ 500000) (hs0 : s0 ≤ 6000000) (K : ∀ (O : kO) (g : qG) (m : qM), O.1 = V → WfO u O → ObsV g m x O → ∀ cN sN : Nat, cN ≤ c0 + 1200 → sN ≤ s0 + 42000 → WS E X cN sN Q g m 622 [some (.ref (eT E 2)), some (.ref x), some (.int (nI t)), some (.int (nI V.1.length)), some (.int (nI (suB V.1 V.1.length))), some (.int 0), some (.int 0), some (.int (nI dd)), some (.int (nI (pAhV V.1 (V.2.1 2 + dd) V.1.length))), some (.int (nI (wAhV V.1 (V.2.1 2 + dd) V.1.length))), none, none, none, none, none, none, none, none, none, none, none] []) : ∀ (k i : Nat), i + k = V.1.length → ∀ (O : kO) (g : qG) (m : qM), O.1 = V → WfO u O → ObsV g m x O → ∀ cN sN : Nat, cN ≤ c0 + 200 * i → sN ≤ s0 + 7000 * i → WS E X cN sN Q g m 57 [some (.ref (eT E 2)), some (.ref x), some (.int (nI t)), some (.int (nI V.1.length)), some (.int (nI (suB V.1 i))), some (.int 0), some (.int 0), some (.int (nI dd)), some (.int (nI (pAhV V.1 (V.2.1 2 + dd) i))), some (.int (nI (wAhV V.1 (V.2.1 2 + dd) i))), some (.int (nI i)), none, none, none, none, none, none, none, none, none, none] [] := by
  intro k
  induction k with
  | zero =>
    intro i hi O g m hV hw hO cN sN hc hs
    have hl6 : V.1.length ≤ 6 := by rw [← hV]; exact hw.len
    have e0 : i = V.1.length := by omega
    subst e0
    refine r_iload hX dL_law_57 rfl ?_
    refine r_iload_n hX dL_law_59 rfl ?_
    refine r_icmp_ge (tgt := 622) hX dL_law_60 (by decide) (fun c60 => ?_) (fun c60 => ?_)
    · exact r_keep [true, true, true, true, true, true, true, true, true, true, false, false, false, false, false, false, false, false, false, false, false] (K O g m hV hw hO cN sN (by omega) (by omega))
    · exact absurd (nI_le (a := V.1.length) (b := V.1.length) (Nat.le_refl _) (by omega)) c60
  | succ k ih =>
    intro i hi O g m hV hw hO cN sN hc hs
    subst hV
    have hl6 := hw.len
    have hil : i < O.1.1.length := by omega
    have hb20 : ∀ j, j < i → cAt O.1.1 j 2 ≤ 20 := fun j hj => (hw.com hu (i := j) (by omega)).2.2.2.1
    have q1 := suB_le hw hu i (by omega)
    have q2 := pAhV_le (L := O.1.1) (T := O.1.2.1 2 + dd) i hb20
    have q3 := wAhV_le (L := O.1.1) (T := O.1.2.1 2 + dd) i hb20
    have hw2 : WfO u (setLn O (cLine (cAt O.1.1 i))) := setLn_same hw (by have := cLine_len (cAt O.1.1 i); omega) (cLine_lt _)
    refine s_law_b1 (c0 := cN) (s0 := sN) hX hw hu hil (by omega) (by omega) (fun g1 m1 hO1 cN1 sN1 hc1 hs1 => ?_) g m hO
    refine s_law_b2 (c0 := cN1) (s0 := sN1) hX hw hu hil (by omega) (by omega) (fun g2 m2 hO2 cN2 sN2 hc2 hs2 => ?_) g1 m1 hO1
    refine s_law_b3 (O := (setLn O (cLine (cAt O.1.1 i)))) (c0 := cN2) (s0 := sN2) hX hw2 hu (i := i) hil (br := suB O.1.1 i) (by omega) (by omega) (by omega) (fun g3 m3 hO3 cN3 sN3 hc3 hs3 => ?_) g2 m2 hO2
    refine r_iconst (v := 0) hX dL_law_287 (by decide) ?_
    refine r_istore hX dL_law_288 (Nat.le_of_ble_eq_true rfl) rfl ?_
    refine s_law_pass (O := (setLn O (cLine (cAt O.1.1 i)))) (co := pAhV O.1.1 (O.1.2.1 2 + dd) i) (wo := wAhV O.1.1 (O.1.2.1 2 + dd) i) (cN := cN3) (sN := sN3) hX hw2 hu (i := i) hil hd (by omega) (by omega) (by omega) (by omega) (fun g4 m4 hO4 => ?_) _ 0 (Nat.zero_add _) g3 m3 hO3
    refine r_iconst (v := 0) hX dL_law_337 (by decide) ?_
    refine r_istore hX dL_law_338 (Nat.le_of_ble_eq_true rfl) rfl ?_
    refine s_law_oth (O := (setLn O (cLine (cAt O.1.1 i)))) (c0 := cN3) (s0 := sN3) hX hw2 hu (i := i) hil (by omega) (by omega) (fun g5 m5 hO5 cN5 sN5 hc5 hs5 => ?_) _ 0 (Nat.zero_add _) g4 m4 hO4 cN3 sN3 (by omega) (by omega)
    refine s_law_rank (O := (setLn O (cLine (cAt O.1.1 i)))) (c0 := cN5) (s0 := sN5) hX hw2 hu (i := i) hil (by omega) (by omega) (fun g6 m6 hO6 cN6 sN6 hc6 hs6 => ?_) g5 m5 hO5
    refine r_iinc (v := nI (i + 1)) hX dL_law_616 rfl (nI_1 i) rfl ?_
    refine r_goto (tgt := 57) hX dL_law_619 (by decide) ?_
    have h9 := ih (i + 1) (by omega) (setLn O (cLine (cAt O.1.1 i))) g6 m6 rfl hw2 hO6 cN6 sN6 (by omega) (by omega)
    have e8 : pAhV O.1.1 (O.1.2.1 2 + dd) (i + 1) = pAhV O.1.1 (O.1.2.1 2 + dd) i + pjC (cAt O.1.1 i) (O.1.2.1 2 + dd) (cAt O.1.1 i 2) := by
      show _ + upTo _ _ = _
      rw [pjC_all (hw.cV hil).1]
    rw [e8] at h9
    exact r_keep [true, true, true, true, true, true, true, true, true, true, true, false, false, false, false, false, false, false, false, false, false] h9
set_option maxRecDepth 20000 in
set_option maxHeartbeats 4000000 in
theorem s_law_worth {E : qE} {X : qX} {Q : State → Prop} (hX : MC E yL_law cL_law 21 (some .boolean) 1475 600390 7287040 [] X) {x u t : Nat} {O : kO} (hw : WfO u O) (hu : u ≤ 6144) {br dd : Nat} (hd : 1 ≤ dd ∧ dd ≤ 60) {c0 s0 : Nat} (hc0 : c0 ≤ 600000) (hs0 : s0 ≤ 7000000) (K : ∀ (g : qG) (m : qM), ObsV g m x O → ∀ cN sN : Nat, cN ≤ c0 + 10 → sN ≤ s0 + 60 → WS E X cN sN Q g m 745 [some (.ref (eT E 2)), some (.ref x), some (.int (nI t)), some (.int (nI O.1.1.length)), some (.int (nI br)), some (.int 0), some (.int 0), some (.int (nI dd)), none, none, none, none, none, none, none, none, none, none, none, none, none] []) (g : qG) (m : qM) (hO : ObsV g m x O) : WS E X c0 s0 Q g m 622 [some (.ref (eT E 2)), some (.ref x), some (.int (nI t)), some (.int (nI O.1.1.length)), some (.int (nI br)), some (.int 0), some (.int 0), some (.int (nI dd)), some (.int (nI (pAhV O.1.1 (O.1.2.1 2 + dd) O.1.1.length))), some (.int (nI (wAhV O.1.1 (O.1.2.1 2 + dd) O.1.1.length))), none, none, none, none, none, none, none, none, none, none, none] [] := by
  have hl6 := hw.len
  have hb20 : ∀ j, j < O.1.1.length → cAt O.1.1 j 2 ≤ 20 := fun j hj => (hw.com hu hj).2.2.2.1
  have q2 := pAhV_le (L := O.1.1) (T := O.1.2.1 2 + dd) O.1.1.length hb20
  have q3 := wAhV_le (L := O.1.1) (T := O.1.2.1 2 + dd) O.1.1.length hb20
  obtain ⟨p1, p2, p3, p4, p5⟩ := plan_of hw hu dd
  have p6 := plan_up hw hu (dd - 1)
  rw [show dd - 1 + 1 = dd by omega] at p6
  have p7 := plan_0 O.1
  refine r_aload_n hX dL_law_622 rfl ?_
  refine r_iload hX dL_law_623 rfl ?_
  refine r_callVX hX dL_law_625 (s_X7_bestWorth E g m x O hO u hw hu (nI dd)) ml_L_172 mk_L_172 rfl rfl hO.1.1 rfl ⟨Nat.le_of_ble_eq_true rfl, Nat.le_of_ble_eq_true rfl⟩ ⟨by omega, by omega, rfl, Nat.le_of_ble_eq_true rfl⟩ (fun v625 g625 m625 hp => ?_) (fun nm gx mx hp => ?_)
  rotate_left
  · obtain ⟨⟨k9, hk9, -⟩, -⟩ := hp
    rw [(qWor_n hw hu (d := dd) (by omega)).1] at hk9
    exact absurd hk9 (Nat.succ_ne_zero k9).symm
  obtain ⟨-, hv, hO625, -⟩ := hp
  rw [(qWor_n hw hu (d := dd) (by omega)).1] at hv hO625
  replace hv : v625 = some (.int (nI (bW O.1 dd))) := hv
  subst v625
  refine r_istore hX dL_law_628 (Nat.le_of_ble_eq_true rfl) rfl ?_
  refine r_aload_n hX dL_law_630 rfl ?_
  refine r_iload hX dL_law_631 rfl ?_
  refine r_callVX hX dL_law_633 (s_X7_fewestPasses E g625 m625 x O hO625 u hw hu (nI dd)) ml_L_175 mk_L_175 rfl rfl hO625.1.1 rfl ⟨Nat.le_of_ble_eq_true rfl, Nat.le_of_ble_eq_true rfl⟩ ⟨by omega, by omega, rfl, Nat.le_of_ble_eq_true rfl⟩ (fun v633 g633 m633 hp => ?_) (fun nm gx mx hp => ?_)
  rotate_left
  · obtain ⟨⟨k9, hk9, -⟩, -⟩ := hp
    rw [(qWor_n hw hu (d := dd) (by omega)).2.2.1] at hk9
    exact absurd hk9 (Nat.succ_ne_zero k9).symm
  obtain ⟨-, hv, hO633, -⟩ := hp
  rw [(qWor_n hw hu (d := dd) (by omega)).2.2.1] at hv hO633
  replace hv : v633 = some (.int (nI (bP O.1 dd))) := hv
  subst v633
  refine r_istore hX dL_law_636 (Nat.le_of_ble_eq_true rfl) rfl ?_
  refine r_aload_n hX dL_law_638 rfl ?_
  refine r_iload hX dL_law_639 rfl ?_
  refine r_callVX hX dL_law_641 (s_X7_passesIn E g633 m633 x O hO633 u hw hu (nI dd)) ml_L_178 mk_L_178 rfl rfl hO633.1.1 rfl ⟨Nat.le_of_ble_eq_true rfl, Nat.le_of_ble_eq_true rfl⟩ ⟨by omega, by omega, rfl, Nat.le_of_ble_eq_true rfl⟩ (fun v641 g641 m641 hp => ?_) (fun nm gx mx hp => ?_)
  rotate_left
  · obtain ⟨⟨k9, hk9, -⟩, -⟩ := hp
    rw [(qWor_n hw hu (d := dd) (by omega)).2.2.2] at hk9
    exact absurd hk9 (Nat.succ_ne_zero k9).symm
  obtain ⟨-, hv, hO641, -⟩ := hp
  rw [(qWor_n hw hu (d := dd) (by omega)).2.2.2] at hv hO641
  replace hv : v641 = some (.int (nI (pAhV O.1.1 (O.1.2.1 2 + dd) O.1.1.length))) := hv
  subst v641
  refine r_iload hX dL_law_644 rfl ?_
  refine r_icmp_ne (tgt := 743) hX dL_law_646 (by decide) (fun c646 => ?_) (fun c646 => ?_)
  · exact absurd rfl c646
  · refine r_aload_n hX dL_law_649 rfl ?_
    refine r_iload hX dL_law_650 rfl ?_
    refine r_callVX hX dL_law_652 (s_X7_bestWorthByDays E g641 m641 x O hO641 u hw hu (nI dd)) ml_L_181 mk_L_181 rfl rfl hO641.1.1 rfl ⟨Nat.le_of_ble_eq_true rfl, Nat.le_of_ble_eq_true rfl⟩ ⟨by omega, by omega, rfl, Nat.le_of_ble_eq_true rfl⟩ (fun v652 g652 m652 hp => ?_) (fun nm gx mx hp => ?_)
    rotate_left
    · obtain ⟨⟨k9, hk9, -⟩, -⟩ := hp
      rw [(qWor_n hw hu (d := dd) (by omega)).2.1] at hk9
      exact absurd hk9 (Nat.succ_ne_zero k9).symm
    obtain ⟨-, hv, hO652, -⟩ := hp
    rw [(qWor_n hw hu (d := dd) (by omega)).2.1] at hv hO652
    replace hv : v652 = some (.int (nI (bW O.1 dd))) := hv
    subst v652
    refine r_iload hX dL_law_655 rfl ?_
    refine r_icmp_ne (tgt := 743) hX dL_law_657 (by decide) (fun c657 => ?_) (fun c657 => ?_)
    · exact absurd rfl c657
    · refine r_iload hX dL_law_660 rfl ?_
      refine r_iload hX dL_law_662 rfl ?_
      refine r_icmp_gt (tgt := 743) hX dL_law_664 (by decide) (fun c664 => ?_) (fun c664 => ?_)
      · exact absurd c664 (nI_nlt p4 (by omega))
      · refine r_iload hX dL_law_667 rfl ?_
        refine r_aload_n hX dL_law_669 rfl ?_
        refine r_iload hX dL_law_670 rfl ?_
        refine r_iconst (v := 1) hX dL_law_672 (by decide) ?_
        refine r_isub hX dL_law_673 ?_
        rw [show nI dd - (1 : Int32) = nI (dd - 1) from pk_sub (b := 1) (by omega)]
        refine r_callVX hX dL_law_674 (s_X7_bestWorth E g652 m652 x O hO652 u hw hu (nI (dd - 1))) ml_L_172 mk_L_172 rfl rfl hO652.1.1 rfl ⟨Nat.le_of_ble_eq_true rfl, Nat.le_of_ble_eq_true rfl⟩ ⟨by omega, by omega, rfl, Nat.le_of_ble_eq_true rfl⟩ (fun v674 g674 m674 hp => ?_) (fun nm gx mx hp => ?_)
        rotate_left
        · obtain ⟨⟨k9, hk9, -⟩, -⟩ := hp
          rw [(qWor_n hw hu (d := (dd - 1)) (by omega)).1] at hk9
          exact absurd hk9 (Nat.succ_ne_zero k9).symm
        obtain ⟨-, hv, hO674, -⟩ := hp
        rw [(qWor_n hw hu (d := (dd - 1)) (by omega)).1] at hv hO674
        replace hv : v674 = some (.int (nI (bW O.1 (dd - 1)))) := hv
        subst v674
        refine r_icmp_lt (tgt := 743) hX dL_law_677 (by decide) (fun c677 => ?_) (fun c677 => ?_)
        · exact absurd c677 (nI_nlt p6 (by omega))
        · refine r_iload hX dL_law_680 rfl ?_
          refine r_iload hX dL_law_682 rfl ?_
          refine r_icmp_gt (tgt := 743) hX dL_law_684 (by decide) (fun c684 => ?_) (fun c684 => ?_)
          · exact absurd c684 (nI_nlt p5 (by omega))
          · refine r_iload hX dL_law_687 rfl ?_
            refine r_iload hX dL_law_689 rfl ?_
            refine r_icmp_gt (tgt := 743) hX dL_law_691 (by decide) (fun c691 => ?_) (fun c691 => ?_)
            · exact absurd c691 (nI_nlt p2 (by omega))
            · refine r_iload hX dL_law_694 rfl ?_
              refine r_if_ne (tgt := 703) hX dL_law_696 (by decide) (fun c696 => ?_) (fun c696 => ?_)
              · refine r_iconst (v := 0) hX dL_law_703 (by decide) ?_
                refine r_iload hX dL_law_704 rfl ?_
                refine r_if_ne (tgt := 713) hX dL_law_706 (by decide) (fun c706 => ?_) (fun c706 => ?_)
                · refine r_iconst (v := 0) hX dL_law_713 (by decide) ?_
                  refine r_icmp_ne (tgt := 743) hX dL_law_714 (by decide) (fun c714 => ?_) (fun c714 => ?_)
                  · exact absurd rfl c714
                  · refine r_bipush (v := 20) hX dL_law_717 (by decide) ?_
                    refine r_iload hX dL_law_719 rfl ?_
                    refine r_imul hX dL_law_721 ?_
                    rw [show (20 : Int32) * nI (bP O.1 dd) = nI (20 * bP O.1 dd) from pk_mul 20 _]
                    refine r_iload hX dL_law_722 rfl ?_
                    refine r_icmp_lt (tgt := 743) hX dL_law_724 (by decide) (fun c724 => ?_) (fun c724 => ?_)
                    · exact absurd c724 (nI_nlt (by omega) (by omega))
                    · refine r_aload_n hX dL_law_727 rfl ?_
                      refine r_iconst (v := 0) hX dL_law_728 (by decide) ?_
                      refine r_callVX hX dL_law_729 (s_X7_bestWorth E g674 m674 x O hO674 u hw hu (nI 0)) ml_L_172 mk_L_172 rfl rfl hO674.1.1 rfl ⟨Nat.le_of_ble_eq_true rfl, Nat.le_of_ble_eq_true rfl⟩ ⟨by omega, by omega, rfl, Nat.le_of_ble_eq_true rfl⟩ (fun v729 g729 m729 hp => ?_) (fun nm gx mx hp => ?_)
                      rotate_left
                      · obtain ⟨⟨k9, hk9, -⟩, -⟩ := hp
                        rw [(qWor_n hw hu (d := 0) (by omega)).1] at hk9
                        exact absurd hk9 (Nat.succ_ne_zero k9).symm
                      obtain ⟨-, hv, hO729, -⟩ := hp
                      rw [(qWor_n hw hu (d := 0) (by omega)).1] at hv hO729
                      replace hv : v729 = some (.int (nI (bW O.1 0))) := hv
                      subst v729
                      refine r_if_ne (tgt := 743) hX dL_law_732 (by decide) (fun c732 => ?_) (fun c732 => ?_)
                      · exact absurd (by rw [p7.1]; rfl) c732
                      · refine r_aload_n hX dL_law_735 rfl ?_
                        refine r_iconst (v := 0) hX dL_law_736 (by decide) ?_
                        refine r_callVX hX dL_law_737 (s_X7_fewestPasses E g729 m729 x O hO729 u hw hu (nI 0)) ml_L_175 mk_L_175 rfl rfl hO729.1.1 rfl ⟨Nat.le_of_ble_eq_true rfl, Nat.le_of_ble_eq_true rfl⟩ ⟨by omega, by omega, rfl, Nat.le_of_ble_eq_true rfl⟩ (fun v737 g737 m737 hp => ?_) (fun nm gx mx hp => ?_)
                        rotate_left
                        · obtain ⟨⟨k9, hk9, -⟩, -⟩ := hp
                          rw [(qWor_n hw hu (d := 0) (by omega)).2.2.1] at hk9
                          exact absurd hk9 (Nat.succ_ne_zero k9).symm
                        obtain ⟨-, hv, hO737, -⟩ := hp
                        rw [(qWor_n hw hu (d := 0) (by omega)).2.2.1] at hv hO737
                        replace hv : v737 = some (.int (nI (bP O.1 0))) := hv
                        subst v737
                        refine r_if_eq (tgt := 745) hX dL_law_740 (by decide) (fun c740 => ?_) (fun c740 => ?_)
                        · exact r_keep [true, true, true, true, true, true, true, true, false, false, false, false, false, false, false, false, false, false, false, false, false] (K g737 m737 hO737 _ _ (by omega) (by omega))
                        · exact absurd (by rw [p7.2]; rfl) c740
                · exact absurd (by rw [p3.mpr ((nI_eq (b := 0) (by omega) (by decide)).mp c706)]; rfl) c696
              · refine r_iconst (v := 1) hX dL_law_699 (by decide) ?_
                refine r_goto (tgt := 704) hX dL_law_700 (by decide) ?_
                refine r_iload hX dL_law_704 rfl ?_
                refine r_if_ne (tgt := 713) hX dL_law_706 (by decide) (fun c706 => ?_) (fun c706 => ?_)
                · exact absurd (by rw [p3.mp ((nI_eq (b := 0) (by omega) (by decide)).mp c696)]; rfl) c706
                · refine r_iconst (v := 1) hX dL_law_709 (by decide) ?_
                  refine r_goto (tgt := 714) hX dL_law_710 (by decide) ?_
                  refine r_icmp_ne (tgt := 743) hX dL_law_714 (by decide) (fun c714 => ?_) (fun c714 => ?_)
                  · exact absurd rfl c714
                  · refine r_bipush (v := 20) hX dL_law_717 (by decide) ?_
                    refine r_iload hX dL_law_719 rfl ?_
                    refine r_imul hX dL_law_721 ?_
                    rw [show (20 : Int32) * nI (bP O.1 dd) = nI (20 * bP O.1 dd) from pk_mul 20 _]
                    refine r_iload hX dL_law_722 rfl ?_
                    refine r_icmp_lt (tgt := 743) hX dL_law_724 (by decide) (fun c724 => ?_) (fun c724 => ?_)
                    · exact absurd c724 (nI_nlt (by omega) (by omega))
                    · refine r_aload_n hX dL_law_727 rfl ?_
                      refine r_iconst (v := 0) hX dL_law_728 (by decide) ?_
                      refine r_callVX hX dL_law_729 (s_X7_bestWorth E g674 m674 x O hO674 u hw hu (nI 0)) ml_L_172 mk_L_172 rfl rfl hO674.1.1 rfl ⟨Nat.le_of_ble_eq_true rfl, Nat.le_of_ble_eq_true rfl⟩ ⟨by omega, by omega, rfl, Nat.le_of_ble_eq_true rfl⟩ (fun v729 g729 m729 hp => ?_) (fun nm gx mx hp => ?_)
                      rotate_left
                      · obtain ⟨⟨k9, hk9, -⟩, -⟩ := hp
                        rw [(qWor_n hw hu (d := 0) (by omega)).1] at hk9
                        exact absurd hk9 (Nat.succ_ne_zero k9).symm
                      obtain ⟨-, hv, hO729, -⟩ := hp
                      rw [(qWor_n hw hu (d := 0) (by omega)).1] at hv hO729
                      replace hv : v729 = some (.int (nI (bW O.1 0))) := hv
                      subst v729
                      refine r_if_ne (tgt := 743) hX dL_law_732 (by decide) (fun c732 => ?_) (fun c732 => ?_)
                      · exact absurd (by rw [p7.1]; rfl) c732
                      · refine r_aload_n hX dL_law_735 rfl ?_
                        refine r_iconst (v := 0) hX dL_law_736 (by decide) ?_
                        refine r_callVX hX dL_law_737 (s_X7_fewestPasses E g729 m729 x O hO729 u hw hu (nI 0)) ml_L_175 mk_L_175 rfl rfl hO729.1.1 rfl ⟨Nat.le_of_ble_eq_true rfl, Nat.le_of_ble_eq_true rfl⟩ ⟨by omega, by omega, rfl, Nat.le_of_ble_eq_true rfl⟩ (fun v737 g737 m737 hp => ?_) (fun nm gx mx hp => ?_)
                        rotate_left
                        · obtain ⟨⟨k9, hk9, -⟩, -⟩ := hp
                          rw [(qWor_n hw hu (d := 0) (by omega)).2.2.1] at hk9
                          exact absurd hk9 (Nat.succ_ne_zero k9).symm
                        obtain ⟨-, hv, hO737, -⟩ := hp
                        rw [(qWor_n hw hu (d := 0) (by omega)).2.2.1] at hv hO737
                        replace hv : v737 = some (.int (nI (bP O.1 0))) := hv
                        subst v737
                        refine r_if_eq (tgt := 745) hX dL_law_740 (by decide) (fun c740 => ?_) (fun c740 => ?_)
                        · exact r_keep [true, true, true, true, true, true, true, true, false, false, false, false, false, false, false, false, false, false, false, false, false] (K g737 m737 hO737 _ _ (by omega) (by omega))
                        · exact absurd (by rw [p7.2]; rfl) c740
