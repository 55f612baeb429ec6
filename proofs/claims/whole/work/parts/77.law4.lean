/-! ===== the law: its loop ===== -/
theorem LI.upd {x u u' : Nat} {O : kO} {g : qG} {m : qM} (h : LI x u O g m) (hu : u ≤ u') : LI x u' O g m := ⟨h.1, h.2.1, h.2.2.1, h.2.2.2.1, h.2.2.2.2.up hu⟩
theorem sub4 {L : Nat} (hL : L ≤ 2048) {i : Nat} (hi : i ≤ 2048) : nI L - 4 < nI i ↔ L < i + 4 := by
  have e : nI L - 4 = zI ((L : Int) - 4) := by
    show nI L - nI 4 = _
    rw [zI_nI, zI_nI, zI_sub]
    rfl
  rw [e, zI_nI, zI_lt (by omega) (by omega) (by omega) (by omega)]
  omega
set_option maxRecDepth 20000 in
set_option maxHeartbeats 4000000 in
theorem s_law_sw {E : qE} {X : qX} {Q : State → Prop} {g : qG} {m : qM} {cN sN : Nat} (hX : MC E yL_law cL_law 10 (some .boolean) 1475 603072 7182442 [] X) {b L x u i : Nat} {xs : Nat → Int32} {O : kO} {z6 z7 z8 z9 : Option Value} (hs : ScrX E X b L xs) (hL : L ≤ 2048) (hi : i + 4 ≤ L) (hI : LI x u O g m) (hu : u ≤ 6144) (hcN : cN + 25 ≤ 603072) (hsN : sN + 7500 ≤ 7182442) (K : ∀ (O' : kO) (g' : qG) (m' : qM) (z6 z7 z8 z9 : Option Value), LI x (u + 12) O' g' m' → WS E X (cN + 25) (sN + 7500) Q g' m' 2383 [some (.ref b), some (.ref x), some (.ref (x + 138)), some (.ref (x + 145)), some (.ref (x + 146)), some (.int (nI i)), z6, z7, z8, z9] []) : ∀ j : Nat, j < 64 → WS E X cN sN Q g m 44 [some (.ref b), some (.ref x), some (.ref (x + 138)), some (.ref (x + 145)), some (.ref (x + 146)), some (.int (nI i)), z6, z7, z8, z9] [.int (nI j)] := by
  intro j hj
  by_cases e0 : j = 0
  · subst e0
    exact r_tableIn (tgt := 260) (off := 216) hX dL_law_44 (by decide) (by decide) (by decide +kernel) (by decide) (s_B0 hX hs hL hi hI hu hcN hsN K)
  by_cases e1 : j = 1
  · subst e1
    exact r_tableIn (tgt := 340) (off := 296) hX dL_law_44 (by decide) (by decide) (by decide +kernel) (by decide) (s_B1 hX hs hL hi hI hu hcN hsN K)
  by_cases e2 : j = 2
  · subst e2
    exact r_tableIn (tgt := 396) (off := 352) hX dL_law_44 (by decide) (by decide) (by decide +kernel) (by decide) (s_B2 hX hs hL hi hI hu hcN hsN K)
  by_cases e3 : j = 3
  · subst e3
    exact r_tableIn (tgt := 464) (off := 420) hX dL_law_44 (by decide) (by decide) (by decide +kernel) (by decide) (s_B3 hX hs hL hi hI hu hcN hsN K)
  by_cases e4 : j = 4
  · subst e4
    exact r_tableIn (tgt := 532) (off := 488) hX dL_law_44 (by decide) (by decide) (by decide +kernel) (by decide) (s_B4 hX hs hL hi hI hu hcN hsN K)
  by_cases e5 : j = 5
  · subst e5
    exact r_tableIn (tgt := 588) (off := 544) hX dL_law_44 (by decide) (by decide) (by decide +kernel) (by decide) (s_B5 hX hs hL hi hI hu hcN hsN K)
  by_cases e6 : j = 6
  · subst e6
    exact r_tableIn (tgt := 656) (off := 612) hX dL_law_44 (by decide) (by decide) (by decide +kernel) (by decide) (s_B6 hX hs hL hi hI hu hcN hsN K)
  by_cases e7 : j = 7
  · subst e7
    exact r_tableIn (tgt := 712) (off := 668) hX dL_law_44 (by decide) (by decide) (by decide +kernel) (by decide) (s_B7 hX hs hL hi hI hu hcN hsN K)
  by_cases e8 : j = 8
  · subst e8
    exact r_tableIn (tgt := 725) (off := 681) hX dL_law_44 (by decide) (by decide) (by decide +kernel) (by decide) (s_B8 hX hs hL hi hI hu hcN hsN K)
  by_cases e9 : j = 9
  · subst e9
    exact r_tableIn (tgt := 781) (off := 737) hX dL_law_44 (by decide) (by decide) (by decide +kernel) (by decide) (s_B9 hX hs hL hi hI hu hcN hsN K)
  by_cases e10 : j = 10
  · subst e10
    exact r_tableIn (tgt := 806) (off := 762) hX dL_law_44 (by decide) (by decide) (by decide +kernel) (by decide) (s_B10 hX hs hL hi hI hu hcN hsN K)
  by_cases e11 : j = 11
  · subst e11
    exact r_tableIn (tgt := 862) (off := 818) hX dL_law_44 (by decide) (by decide) (by decide +kernel) (by decide) (s_B11 hX hs hL hi hI hu hcN hsN K)
  by_cases e12 : j = 12
  · subst e12
    exact r_tableIn (tgt := 918) (off := 874) hX dL_law_44 (by decide) (by decide) (by decide +kernel) (by decide) (s_B12 hX hs hL hi hI hu hcN hsN K)
  by_cases e13 : j = 13
  · subst e13
    exact r_tableIn (tgt := 974) (off := 930) hX dL_law_44 (by decide) (by decide) (by decide +kernel) (by decide) (s_B13 hX hs hL hi hI hu hcN hsN K)
  by_cases e14 : j = 14
  · subst e14
    exact r_tableIn (tgt := 1030) (off := 986) hX dL_law_44 (by decide) (by decide) (by decide +kernel) (by decide) (s_B14 hX hs hL hi hI hu hcN hsN K)
  by_cases e15 : j = 15
  · subst e15
    exact r_tableIn (tgt := 1086) (off := 1042) hX dL_law_44 (by decide) (by decide) (by decide +kernel) (by decide) (s_B15 hX hs hL hi hI hu hcN hsN K)
  by_cases e16 : j = 16
  · subst e16
    exact r_tableIn (tgt := 1142) (off := 1098) hX dL_law_44 (by decide) (by decide) (by decide +kernel) (by decide) (s_B16 hX hs hL hi hI hu hcN hsN K)
  by_cases e17 : j = 17
  · subst e17
    exact r_tableIn (tgt := 1198) (off := 1154) hX dL_law_44 (by decide) (by decide) (by decide +kernel) (by decide) (s_B17 hX hs hL hi hI hu hcN hsN K)
  by_cases e18 : j = 18
  · subst e18
    exact r_tableIn (tgt := 1254) (off := 1210) hX dL_law_44 (by decide) (by decide) (by decide +kernel) (by decide) (s_B18 hX hs hL hi hI hu hcN hsN K)
  by_cases e19 : j = 19
  · subst e19
    exact r_tableIn (tgt := 1322) (off := 1278) hX dL_law_44 (by decide) (by decide) (by decide +kernel) (by decide) (s_B19 hX hs hL hi hI hu hcN hsN K)
  by_cases e20 : j = 20
  · subst e20
    exact r_tableIn (tgt := 1390) (off := 1346) hX dL_law_44 (by decide) (by decide) (by decide +kernel) (by decide) (s_B20 hX hs hL hi hI hu hcN hsN K)
  by_cases e21 : j = 21
  · subst e21
    exact r_tableIn (tgt := 1433) (off := 1389) hX dL_law_44 (by decide) (by decide) (by decide +kernel) (by decide) (s_B21 hX hs hL hi hI hu hcN hsN K)
  by_cases e22 : j = 22
  · subst e22
    exact r_tableIn (tgt := 1489) (off := 1445) hX dL_law_44 (by decide) (by decide) (by decide +kernel) (by decide) (s_B22 hX hs hL hi hI hu hcN hsN K)
  by_cases e23 : j = 23
  · subst e23
    exact r_tableIn (tgt := 1545) (off := 1501) hX dL_law_44 (by decide) (by decide) (by decide +kernel) (by decide) (s_B23 hX hs hL hi hI hu hcN hsN K)
  by_cases e24 : j = 24
  · subst e24
    exact r_tableIn (tgt := 1601) (off := 1557) hX dL_law_44 (by decide) (by decide) (by decide +kernel) (by decide) (s_B24 hX hs hL hi hI hu hcN hsN K)
  by_cases e25 : j = 25
  · subst e25
    exact r_tableIn (tgt := 1657) (off := 1613) hX dL_law_44 (by decide) (by decide) (by decide +kernel) (by decide) (s_B25 hX hs hL hi hI hu hcN hsN K)
  by_cases e26 : j = 26
  · subst e26
    exact r_tableIn (tgt := 1725) (off := 1681) hX dL_law_44 (by decide) (by decide) (by decide +kernel) (by decide) (s_B26 hX hs hL hi hI hu hcN hsN K)
  by_cases e27 : j = 27
  · subst e27
    exact r_tableIn (tgt := 1738) (off := 1694) hX dL_law_44 (by decide) (by decide) (by decide +kernel) (by decide) (s_B27 hX hs hL hi hI hu hcN hsN K)
  by_cases e28 : j = 28
  · subst e28
    exact r_tableIn (tgt := 1751) (off := 1707) hX dL_law_44 (by decide) (by decide) (by decide +kernel) (by decide) (s_B28 hX hs hL hi hI hu hcN hsN K)
  by_cases e29 : j = 29
  · subst e29
    exact r_tableIn (tgt := 1764) (off := 1720) hX dL_law_44 (by decide) (by decide) (by decide +kernel) (by decide) (s_B29 hX hs hL hi hI hu hcN hsN K)
  by_cases e30 : j = 30
  · subst e30
    exact r_tableIn (tgt := 1777) (off := 1733) hX dL_law_44 (by decide) (by decide) (by decide +kernel) (by decide) (s_B30 hX hs hL hi hI hu hcN hsN K)
  by_cases e31 : j = 31
  · subst e31
    exact r_tableIn (tgt := 1790) (off := 1746) hX dL_law_44 (by decide) (by decide) (by decide +kernel) (by decide) (s_B31 hX hs hL hi hI hu hcN hsN K)
  by_cases e32 : j = 32
  · subst e32
    exact r_tableIn (tgt := 1803) (off := 1759) hX dL_law_44 (by decide) (by decide) (by decide +kernel) (by decide) (s_B32 hX hs hL hi hI hu hcN hsN K)
  by_cases e33 : j = 33
  · subst e33
    exact r_tableIn (tgt := 1816) (off := 1772) hX dL_law_44 (by decide) (by decide) (by decide +kernel) (by decide) (s_B33 hX hs hL hi hI hu hcN hsN K)
  by_cases e34 : j = 34
  · subst e34
    exact r_tableIn (tgt := 1829) (off := 1785) hX dL_law_44 (by decide) (by decide) (by decide +kernel) (by decide) (s_B34 hX hs hL hi hI hu hcN hsN K)
  by_cases e35 : j = 35
  · subst e35
    exact r_tableIn (tgt := 1842) (off := 1798) hX dL_law_44 (by decide) (by decide) (by decide +kernel) (by decide) (s_B35 hX hs hL hi hI hu hcN hsN K)
  by_cases e36 : j = 36
  · subst e36
    exact r_tableIn (tgt := 1855) (off := 1811) hX dL_law_44 (by decide) (by decide) (by decide +kernel) (by decide) (s_B36 hX hs hL hi hI hu hcN hsN K)
  by_cases e37 : j = 37
  · subst e37
    exact r_tableIn (tgt := 1868) (off := 1824) hX dL_law_44 (by decide) (by decide) (by decide +kernel) (by decide) (s_B37 hX hs hL hi hI hu hcN hsN K)
  by_cases e38 : j = 38
  · subst e38
    exact r_tableIn (tgt := 1933) (off := 1889) hX dL_law_44 (by decide) (by decide) (by decide +kernel) (by decide) (s_B38 hX hs hL hi hI hu hcN hsN K)
  by_cases e39 : j = 39
  · subst e39
    exact r_tableIn (tgt := 1976) (off := 1932) hX dL_law_44 (by decide) (by decide) (by decide +kernel) (by decide) (s_B39 hX hs hL hi hI hu hcN hsN K)
  by_cases e40 : j = 40
  · subst e40
    exact r_tableIn (tgt := 1989) (off := 1945) hX dL_law_44 (by decide) (by decide) (by decide +kernel) (by decide) (s_B40 hX hs hL hi hI hu hcN hsN K)
  by_cases e41 : j = 41
  · subst e41
    exact r_tableIn (tgt := 2047) (off := 2003) hX dL_law_44 (by decide) (by decide) (by decide +kernel) (by decide) (s_B41 hX hs hL hi hI hu hcN hsN K)
  by_cases e42 : j = 42
  · subst e42
    exact r_tableIn (tgt := 2091) (off := 2047) hX dL_law_44 (by decide) (by decide) (by decide +kernel) (by decide) (s_B42 hX hs hL hi hI hu hcN hsN K)
  by_cases e43 : j = 43
  · subst e43
    exact r_tableIn (tgt := 2135) (off := 2091) hX dL_law_44 (by decide) (by decide) (by decide +kernel) (by decide) (s_B43 hX hs hL hi hI hu hcN hsN K)
  by_cases e44 : j = 44
  · subst e44
    exact r_tableIn (tgt := 2179) (off := 2135) hX dL_law_44 (by decide) (by decide) (by decide +kernel) (by decide) (s_B44 hX hs hL hi hI hu hcN hsN K)
  by_cases e45 : j = 45
  · subst e45
    exact r_tableIn (tgt := 2235) (off := 2191) hX dL_law_44 (by decide) (by decide) (by decide +kernel) (by decide) (s_B45 hX hs hL hi hI hu hcN hsN K)
  by_cases e46 : j = 46
  · subst e46
    exact r_tableIn (tgt := 2248) (off := 2204) hX dL_law_44 (by decide) (by decide) (by decide +kernel) (by decide) (s_B46 hX hs hL hi hI hu hcN hsN K)
  by_cases e47 : j = 47
  · subst e47
    exact r_tableIn (tgt := 2304) (off := 2260) hX dL_law_44 (by decide) (by decide) (by decide +kernel) (by decide) (s_B47 hX hs hL hi hI hu hcN hsN K)
  by_cases e48 : j = 48
  · subst e48
    exact r_tableIn (tgt := 2348) (off := 2304) hX dL_law_44 (by decide) (by decide) (by decide +kernel) (by decide) (s_B48 hX hs hL hi hI hu hcN hsN K)
  by_cases e49 : j = 49
  · subst e49
    exact r_tableIn (tgt := 2359) (off := 2315) hX dL_law_44 (by decide) (by decide) (by decide +kernel) (by decide) (s_B49 hX hs hL hi hI hu hcN hsN K)
  exact r_tableOut (tgt := 2383) hX dL_law_44 (Or.inr (by rw [nI_toInt (by omega)]; omega)) (by decide) (r_widen (cN' := cN + 25) (sN' := sN + 7500) (by omega) (by omega) (K _ _ _ _ _ _ _ (hI.upd (by omega))))
set_option maxRecDepth 20000 in
set_option maxHeartbeats 4000000 in
theorem s_law_l {E : qE} {X : qX} {Q : State → Prop} (hX : MC E yL_law cL_law 10 (some .boolean) 1475 603072 7182442 [] X) {b L x : Nat} {xs : Nat → Int32} (hs : ScrX E X b L xs) (hL : L ≤ 2048) (hE : ∀ (cN sN : Nat) (g : qG) (m : qM) (l : List (Option Value)), cN ≤ 603072 → sN ≤ 7182442 → l.length = 10 → WS E X cN sN Q g m 2390 l [.int 1]) : ∀ (n c : Nat) (O : kO) (g : qG) (m : qM) (z6 z7 z8 z9 : Option Value), L ≤ 4 * c + 4 * n + 3 → 4 * c ≤ L → LI x (12 * c) O g m → WS E X (150 + 25 * c) (4000 + 7500 * c) Q g m 28 [some (.ref b), some (.ref x), some (.ref (x + 138)), some (.ref (x + 145)), some (.ref (x + 146)), some (.int (nI (4 * c))), z6, z7, z8, z9] [] := by
  intro n
  induction n with
  | zero =>
    intro c O g m z6 z7 z8 z9 hn hc hI
    refine r_iload hX dL_law_28 rfl ?_
    refine r_aload_n hX dL_law_30 rfl ?_
    refine r_slen hX hs dL_law_31 ?_
    refine r_iconst (v := 4) hX dL_law_32 (by decide) ?_
    refine r_isub hX dL_law_33 ?_
    refine r_icmp_gt (tgt := 2389) hX dL_law_34 (by decide) (fun c34 => ?_) (fun c34 => ?_)
    · refine r_iconst (v := 1) hX dL_law_2389 (by decide) ?_
      exact hE _ _ _ _ _ (by omega) (by omega) rfl
    · exact absurd ((sub4 hL (by omega)).mpr (by omega)) c34
  | succ n ih =>
    intro c O g m z6 z7 z8 z9 hn hc hI
    refine r_iload hX dL_law_28 rfl ?_
    refine r_aload_n hX dL_law_30 rfl ?_
    refine r_slen hX hs dL_law_31 ?_
    refine r_iconst (v := 4) hX dL_law_32 (by decide) ?_
    refine r_isub hX dL_law_33 ?_
    refine r_icmp_gt (tgt := 2389) hX dL_law_34 (by decide) (fun c34 => ?_) (fun c34 => ?_)
    · refine r_iconst (v := 1) hX dL_law_2389 (by decide) ?_
      exact hE _ _ _ _ _ (by omega) (by omega) rfl
    · have hi : 4 * c + 4 ≤ L := Classical.byContradiction (fun h => c34 ((sub4 hL (by omega)).mpr (by omega)))
      refine r_aload_n hX dL_law_37 rfl ?_
      refine r_iload hX dL_law_38 rfl ?_
      refine r_sld hX hs (j := 4 * c) rfl (by omega) (by omega) dL_law_40 ?_
      refine r_bipush (v := 63) hX dL_law_41 (by decide) ?_
      refine r_iand hX dL_law_43 ?_
      obtain ⟨j, hj, ej⟩ := pk_andE (xs (4 * c)) (m := 63) 6 rfl
      rw [ej]
      refine s_law_sw hX hs hL hi hI (by omega) (by omega) (by omega) (fun O' g' m' z6 z7 z8 z9 hI' => ?_) j hj
      refine r_iinc (v := nI (4 * c + 4)) hX dL_law_2383 rfl (nI_add (4 * c) 4) rfl ?_
      refine r_goto (tgt := 28) hX dL_law_2386 (by decide) ?_
      have hI2 : LI x (12 * (c + 1)) O' g' m' := hI'.upd (by omega)
      have h9 := ih (c + 1) O' g' m' z6 z7 z8 z9 (by omega) (by omega) hI2
      rw [show 4 * (c + 1) = 4 * c + 4 by omega, show 150 + 25 * (c + 1) = 150 + 25 * c + 25 by omega, show 4000 + 7500 * (c + 1) = 4000 + 7500 * c + 7500 by omega] at h9
      exact h9
