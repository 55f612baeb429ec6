/-! ===== the law: the arcs; the rest of a turn; the turns; its start ===== -/
/-- the best of the first K arcs, as the law keeps it: gain, places, start -/
def bI (f : Nat → Nat) (r K : Nat) : Int32 × Int32 × Int32 := if K = 0 then (-1000, 0, 0) else (gN f r (arcV f r K).1 (arcV f r K).2, nI (arcV f r K).2, nI (arcV f r K).1)
theorem bI_s {f : Nat → Nat} {r : Nat} (hr : r ≤ 9) (hf : ds f 0 1 < 2 ^ 29) (K : Nat) : bI f r (K + 1) = if (bI f r K).1 < gN f r (K % 12) (K / 12 + 1) then (gN f r (K % 12) (K / 12 + 1), nI (K / 12 + 1), nI (K % 12)) else bI f r K := by
  have e1 : bI f r (K + 1) = (gN f r (arcV f r (K + 1)).1 (arcV f r (K + 1)).2, nI (arcV f r (K + 1)).2, nI (arcV f r (K + 1)).1) := if_neg (Nat.succ_ne_zero K)
  have e2 : arcV f r (K + 1) = if gN f r (K % 12) (K / 12 + 1) ≤ gN f r (arcV f r K).1 (arcV f r K).2 then arcV f r K else (K % 12, K / 12 + 1) := rfl
  by_cases h : K = 0
  · subst h
    have e0 : bI f r 0 = (-1000, 0, 0) := rfl
    have e3 : arcV f r (0 + 1) = (0, 1) := e2.trans (if_pos (Int32.le_refl _))
    have e4 : (-1000 : Int32) < gN f r 0 1 := by
      rw [Int32.lt_iff_toInt_lt]
      show (-1000 : Int32).toInt < (nI (ds f 0 1) - nI (r * 1)).toInt
      rw [pk_sub_toInt (by omega) (by omega), show (-1000 : Int32).toInt = -1000 by decide]
      omega
    rw [e1, e3, e0]
    exact (if_pos e4).symm
  · have e0 : bI f r K = (gN f r (arcV f r K).1 (arcV f r K).2, nI (arcV f r K).2, nI (arcV f r K).1) := if_neg h
    rw [e1, e0]
    by_cases q : gN f r (K % 12) (K / 12 + 1) ≤ gN f r (arcV f r K).1 (arcV f r K).2
    · rw [e2, if_pos q]
      exact (if_neg (Int32.not_lt.mpr q)).symm
    · rw [e2, if_neg q]
      exact (if_pos (Int32.not_le.mp q)).symm
theorem bI_144 (f : Nat → Nat) (r : Nat) : bI f r 144 = (gN f r (arcV f r n144).1 (arcV f r n144).2, nI (arcV f r n144).2, nI (arcV f r n144).1) := if_neg (by decide)
theorem qGain_n {O : kO} {a n : Nat} (ha : a < 12) (hn : 1 ≤ n ∧ n ≤ 12) : qGain O (nI a) (nI n) = (0, gN O.1.2.2 (O.1.2.1 4) a n, O) := by
  refine (if_pos ((rng_nI (by omega) (by decide) (by decide)).mpr ⟨Nat.zero_le _, by omega⟩)).trans ?_
  refine (if_pos ((rng_nI (by omega) (by decide) (by decide)).mpr hn)).trans ?_
  rw [nI_clamp (by omega), nI_clamp (by omega)]
  rfl
/-- a number compared with itself -/
def fc32 (s : Nat) : Bool := decide (Op.cmpValue (FP.fcmp (FP.fdiv (FP.i2f (nI s)) 1094713344) (FP.fdiv (FP.i2f (nI s)) 1094713344)) .l = 0)
theorem fc32_all : (List.range 13).all (fun s => fc32 s) = true := by decide +kernel
theorem fc32_at {s : Nat} (hs : s < 13) : Op.cmpValue (FP.fcmp (FP.fdiv (FP.i2f (nI s)) 1094713344) (FP.fdiv (FP.i2f (nI s)) 1094713344)) .l = 0 :=
  of_decide_eq_true (List.all_eq_true.mp fc32_all s (List.mem_range.mpr hs))
def fc64 (s n : Nat) : Bool := decide (Op.cmpValue (FP.dcmp (FP.ddiv (FP.i2d (nI s)) (FP.i2d (nI n))) (FP.ddiv (FP.i2d (nI s)) (FP.i2d (nI n)))) .l = 0)
theorem fc64_all : (List.range 121).all (fun s => (List.range 6).all (fun n => fc64 s (n + 1))) = true := by decide +kernel
theorem fc64_at {s n : Nat} (hs : s < 121) (h1 : 1 ≤ n) (h6 : n ≤ 6) : Op.cmpValue (FP.dcmp (FP.ddiv (FP.i2d (nI s)) (FP.i2d (nI n))) (FP.ddiv (FP.i2d (nI s)) (FP.i2d (nI n)))) .l = 0 := by
  have h := List.all_eq_true.mp fc64_all s (List.mem_range.mpr hs)
  have h2 := List.all_eq_true.mp h (n - 1) (List.mem_range.mpr (by omega))
  rw [show n - 1 + 1 = n by omega] at h2
  exact of_decide_eq_true h2
set_option maxRecDepth 20000 in
set_option maxHeartbeats 4000000 in
theorem s_arc_d {E : qE} {X : qX} {Q : State → Prop} (hX : MC E yL_law cL_law 21 (some .boolean) 1475 600390 7287040 [] X) {x u t : Nat} {O : kO} (hw : WfO u O) (hu : u ≤ 6144) {br dd s : Nat} {hh : Nat → Option qSh} {nn : qM} {p a : Nat} (hp : 1 ≤ p ∧ p ≤ 12) (ha : a < 12) {b1 b2 b3 : Int32} {c0 s0 : Nat} (hc0 : c0 ≤ 600000) (hs0 : s0 ≤ 7000000) (K : ∀ (g : qG) (m : qM) (G : qG) (M : qM), ObsV g m x O → Jn g m (hh, g.2) nn G M → WS E X (c0 + 12) (s0 + 72) Q G M 903 [some (.ref (eT E 2)), some (.ref x), some (.int (nI t)), some (.int (nI O.1.1.length)), some (.int (nI br)), some (.int (nI (dusV O.1.2.2 12))), some (.int (nI (ds O.1.2.2 0 12))), some (.int (nI dd)), none, none, none, none, some (.ref s), some (.int b1), some (.int b2), some (.int b3), some (.int (nI p)), some (.int (nI a)), some (.int (nI (ds O.1.2.2 a p))), none, none] []) : ∀ (n k : Nat), k + n = p → ∀ (g : qG) (m : qM) (G : qG) (M : qM), ObsV g m x O → Jn g m (hh, g.2) nn G M → WS E X (c0 + k) (s0 + 6 * k) Q G M 873 [some (.ref (eT E 2)), some (.ref x), some (.int (nI t)), some (.int (nI O.1.1.length)), some (.int (nI br)), some (.int (nI (dusV O.1.2.2 12))), some (.int (nI (ds O.1.2.2 0 12))), some (.int (nI dd)), none, none, none, none, some (.ref s), some (.int b1), some (.int b2), some (.int b3), some (.int (nI p)), some (.int (nI a)), some (.int (nI (ds O.1.2.2 a k))), some (.int (nI k)), none] [] := by
  intro n
  induction n with
  | zero =>
    intro k hk g m G M hO j
    have e0 : k = p := by omega
    subst e0
    refine r_iload hX dL_law_873 rfl ?_
    refine r_iload hX dL_law_875 rfl ?_
    refine r_icmp_ge (tgt := 903) hX dL_law_877 (by decide) (fun c877 => ?_) (fun c877 => ?_)
    · exact r_widen (cN' := c0 + 12) (sN' := s0 + 72) (by omega) (by omega) (r_keep [true, true, true, true, true, true, true, true, true, true, true, true, true, true, true, true, true, true, true, false, false] (K g m G M hO j))
    · exact absurd (Int32.le_refl _) c877
  | succ n ih =>
    intro k hk g m G M hO j
    have d1 := hw.dsK hu (a := a) (n := k) (by omega)
    have d2 := hw.dusK hu (k := (a + k) % 12) (Nat.mod_lt _ (by decide))
    have d5 : (a + k) % 12 < 12 := Nat.mod_lt _ (by decide)
    refine r_iload hX dL_law_873 rfl ?_
    refine r_iload hX dL_law_875 rfl ?_
    refine r_icmp_ge (tgt := 903) hX dL_law_877 (by decide) (fun c877 => ?_) (fun c877 => ?_)
    · exact absurd c877 (nI_ge (by omega) (by omega))
    · refine r_iload hX dL_law_880 rfl ?_
      refine r_aload_n hX dL_law_882 rfl ?_
      refine r_iload hX dL_law_883 rfl ?_
      refine r_iload hX dL_law_885 rfl ?_
      refine r_iadd hX dL_law_887 ?_
      rw [nI_add]
      refine r_bipush (v := 12) hX dL_law_888 (by decide) ?_
      refine r_irem hX dL_law_890 (by decide) ?_
      rw [show nI (a + k) - nI (a + k) / (12 : Int32) * (12 : Int32) = nI ((a + k) % 12) from pk_rem (d := 12) (by omega) (by decide) (by decide)]
      refine r_callVX hX dL_law_891 (SpX.join j (s_X7_dust (eP E (dom ((hh, g.2) : qG))) g m x O hO u hw hu (nI ((a + k) % 12)))) ml_L_61 mk_L_61 rfl rfl (j.2.2.1 x _ hO.1.1).1 rfl ⟨Nat.le_of_ble_eq_true rfl, Nat.le_of_ble_eq_true rfl⟩ ⟨by omega, by omega, rfl, Nat.le_of_ble_eq_true rfl⟩ (fun v891 g891 m891 hp => ?_) (fun nm gx mx hp => ?_)
      rotate_left
      · obtain ⟨gq, mq, ⟨⟨k9, hk9, -⟩, -⟩, -⟩ := hp
        rw [qDust_n (by omega)] at hk9
        exact absurd hk9 (Nat.succ_ne_zero k9).symm
      obtain ⟨o891, p891, ⟨-, hv, hO891, -⟩, j891⟩ := hp
      rw [qDust_n (by omega)] at hv hO891
      replace hv : v891 = some (.int (nI (O.1.2.2 ((a + k) % 12)))) := hv
      subst v891
      refine r_iadd hX dL_law_894 ?_
      rw [nI_add]
      refine r_istore hX dL_law_895 (Nat.le_of_ble_eq_true rfl) rfl ?_
      refine r_iinc (v := nI (k + 1)) hX dL_law_897 rfl (nI_1 k) rfl ?_
      refine r_goto (tgt := 873) hX dL_law_900 (by decide) ?_
      exact ih (k + 1) (by omega) o891 p891 g891 m891 hO891 j891
set_option maxRecDepth 20000 in
set_option maxHeartbeats 4000000 in
theorem s_arc_s {E : qE} {X : qX} {Q : State → Prop} (hX : MC E yL_law cL_law 21 (some .boolean) 1475 600390 7287040 [] X) {x u t : Nat} {O : kO} (hw : WfO u O) (hu : u ≤ 6144) {br dd s : Nat} {hh : Nat → Option qSh} {nn : qM} {p : Nat} (hp : 1 ≤ p ∧ p ≤ 12) {c0 s0 : Nat} (hc0 : c0 ≤ 500000) (hs0 : s0 ≤ 6000000) (K : ∀ (g : qG) (m : qM) (G : qG) (M : qM), ObsV g m x O → Jn g m (hh, g.2) nn G M → WS E X (c0 + 156) (s0 + 936) Q G M 958 [some (.ref (eT E 2)), some (.ref x), some (.int (nI t)), some (.int (nI O.1.1.length)), some (.int (nI br)), some (.int (nI (dusV O.1.2.2 12))), some (.int (nI (ds O.1.2.2 0 12))), some (.int (nI dd)), none, none, none, none, some (.ref s), some (.int (bI O.1.2.2 (O.1.2.1 4) (12 * p)).1), some (.int (bI O.1.2.2 (O.1.2.1 4) (12 * p)).2.1), some (.int (bI O.1.2.2 (O.1.2.1 4) (12 * p)).2.2), some (.int (nI p)), none, none, none, none] []) : ∀ (n a : Nat), a + n = 12 → ∀ (g : qG) (m : qM) (G : qG) (M : qM), ObsV g m x O → Jn g m (hh, g.2) nn G M → WS E X (c0 + 13 * a) (s0 + 78 * a) Q G M 860 [some (.ref (eT E 2)), some (.ref x), some (.int (nI t)), some (.int (nI O.1.1.length)), some (.int (nI br)), some (.int (nI (dusV O.1.2.2 12))), some (.int (nI (ds O.1.2.2 0 12))), some (.int (nI dd)), none, none, none, none, some (.ref s), some (.int (bI O.1.2.2 (O.1.2.1 4) (12 * (p - 1) + a)).1), some (.int (bI O.1.2.2 (O.1.2.1 4) (12 * (p - 1) + a)).2.1), some (.int (bI O.1.2.2 (O.1.2.1 4) (12 * (p - 1) + a)).2.2), some (.int (nI p)), some (.int (nI a)), none, none, none] [] := by
  have hr9 := hw.1.2.2.2.2.2.2.1
  have hd1 := hw.dsK hu (a := 0) (n := 1) (by decide)
  intro n
  induction n with
  | zero =>
    intro a ha g m G M hO j
    have e0 : a = 12 := by omega
    subst e0
    have hKe : 12 * (p - 1) + 12 = 12 * p := by omega
    have h8 := K g m G M hO j
    rw [← hKe] at h8
    refine r_iload hX dL_law_860 rfl ?_
    refine r_bipush (v := 12) hX dL_law_862 (by decide) ?_
    refine r_icmp_ge (tgt := 958) hX dL_law_864 (by decide) (fun c864 => ?_) (fun c864 => ?_)
    · exact r_widen (cN' := c0 + 156) (sN' := s0 + 936) (by omega) (by omega) (r_keep [true, true, true, true, true, true, true, true, true, true, true, true, true, true, true, true, true, false, false, false, false] h8)
    · exact absurd (Int32.le_refl 12) c864
  | succ n ih =>
    intro a ha g m G M hO j
    have ha12 : a < 12 := by omega
    have hb := bI_s (f := O.1.2.2) (r := O.1.2.1 4) hr9 (by omega) (12 * (p - 1) + a)
    rw [show (12 * (p - 1) + a) % 12 = a by omega, show (12 * (p - 1) + a) / 12 + 1 = p by omega] at hb
    refine r_iload hX dL_law_860 rfl ?_
    refine r_bipush (v := 12) hX dL_law_862 (by decide) ?_
    refine r_icmp_ge (tgt := 958) hX dL_law_864 (by decide) (fun c864 => ?_) (fun c864 => ?_)
    · exact absurd c864 (nI_ge (b := 12) ha12 (by decide))
    · refine r_iconst (v := 0) hX dL_law_867 (by decide) ?_
      refine r_istore hX dL_law_868 (Nat.le_of_ble_eq_true rfl) rfl ?_
      refine r_iconst (v := 0) hX dL_law_870 (by decide) ?_
      refine r_istore hX dL_law_871 (Nat.le_of_ble_eq_true rfl) rfl ?_
      refine s_arc_d (c0 := c0 + 13 * a) (s0 := s0 + 78 * a) hX hw hu hp ha12 (by omega) (by omega) (fun g1 m1 G1 M1 hO1 j1 => ?_) p 0 (Nat.zero_add _) g m G M hO j
      refine r_iload hX dL_law_903 rfl ?_
      refine r_iload hX dL_law_905 rfl ?_
      refine r_aload_n hX dL_law_907 rfl ?_
      refine r_callV hX dL_law_908 (Sp.join j1 (s_X7_rate _ g1 m1 x O hO1 u hw hu)) ml_L_188 rfl rfl (j1.2.2.1 x _ hO1.1.1).1 rfl ⟨Nat.le_of_ble_eq_true rfl, Nat.le_of_ble_eq_true rfl⟩ ⟨by omega, by omega, rfl, Nat.le_of_ble_eq_true rfl⟩ (fun v908 g908 m908 hp => ?_)
      obtain ⟨o908, p908, ⟨-, hv, hO908, -⟩, j908⟩ := hp
      replace hv : v908 = some (.int (nI (O.1.2.1 4))) := hv
      subst v908
      refine r_imul hX dL_law_911 ?_
      rw [pk_mul]
      refine r_isub hX dL_law_912 ?_
      rw [show nI (ds O.1.2.2 a p) - nI (p * O.1.2.1 4) = gN O.1.2.2 (O.1.2.1 4) a p by rw [Nat.mul_comm]; rfl]
      refine r_istore hX dL_law_913 (Nat.le_of_ble_eq_true rfl) rfl ?_
      refine r_aload_n hX dL_law_915 rfl ?_
      refine r_iload hX dL_law_916 rfl ?_
      refine r_iload hX dL_law_918 rfl ?_
      refine r_callVX hX dL_law_920 (SpX.join j908 (s_X7_gain _ o908 p908 x O hO908 u hw hu (nI a) (nI p))) ml_L_191 mk_L_191 rfl rfl (j908.2.2.1 x _ hO908.1.1).1 rfl ⟨Nat.le_of_ble_eq_true rfl, Nat.le_of_ble_eq_true rfl⟩ ⟨by omega, by omega, rfl, Nat.le_of_ble_eq_true rfl⟩ (fun v920 g920 m920 hp => ?_) (fun nm gx mx hp => ?_)
      rotate_left
      · obtain ⟨gq, mq, ⟨⟨k9, hk9, -⟩, -⟩, -⟩ := hp
        rw [qGain_n ha12 hp] at hk9
        exact absurd hk9 (Nat.succ_ne_zero k9).symm
      obtain ⟨o920, p920, ⟨-, hv, hO920, -⟩, j920⟩ := hp
      rw [qGain_n ha12 hp] at hv hO920
      replace hv : v920 = some (.int (gN O.1.2.2 (O.1.2.1 4) a p)) := hv
      subst v920
      refine r_iload hX dL_law_923 rfl ?_
      refine r_icmp_eq (tgt := 930) hX dL_law_925 (by decide) (fun c925 => ?_) (fun c925 => ?_)
      · refine r_iload hX dL_law_930 rfl ?_
        refine r_iload hX dL_law_932 rfl ?_
        refine r_icmp_gt (tgt := 940) hX dL_law_934 (by decide) (fun c934 => ?_) (fun c934 => ?_)
        · rw [if_pos c934] at hb
          refine r_iload hX dL_law_940 rfl ?_
          refine r_istore hX dL_law_942 (Nat.le_of_ble_eq_true rfl) rfl ?_
          refine r_iload hX dL_law_944 rfl ?_
          refine r_istore hX dL_law_946 (Nat.le_of_ble_eq_true rfl) rfl ?_
          refine r_iload hX dL_law_948 rfl ?_
          refine r_istore hX dL_law_950 (Nat.le_of_ble_eq_true rfl) rfl ?_
          refine r_iinc (v := nI (a + 1)) hX dL_law_952 rfl (nI_1 a) rfl ?_
          refine r_goto (tgt := 860) hX dL_law_955 (by decide) ?_
          have h9 := ih (a + 1) (by omega) o920 p920 g920 m920 hO920 j920
          rw [show 12 * (p - 1) + (a + 1) = 12 * (p - 1) + a + 1 by omega, hb] at h9
          exact r_widen (cN' := c0 + 13 * (a + 1)) (sN' := s0 + 78 * (a + 1)) (by omega) (by omega) (r_keep [true, true, true, true, true, true, true, true, true, true, true, true, true, true, true, true, true, true, false, false, false] h9)
        · rw [if_neg c934] at hb
          refine r_goto (tgt := 952) hX dL_law_937 (by decide) ?_
          refine r_iinc (v := nI (a + 1)) hX dL_law_952 rfl (nI_1 a) rfl ?_
          refine r_goto (tgt := 860) hX dL_law_955 (by decide) ?_
          have h9 := ih (a + 1) (by omega) o920 p920 g920 m920 hO920 j920
          rw [show 12 * (p - 1) + (a + 1) = 12 * (p - 1) + a + 1 by omega, hb] at h9
          exact r_widen (cN' := c0 + 13 * (a + 1)) (sN' := s0 + 78 * (a + 1)) (by omega) (by omega) (r_keep [true, true, true, true, true, true, true, true, true, true, true, true, true, true, true, true, true, true, false, false, false] h9)
      · exact absurd rfl c925
set_option maxRecDepth 20000 in
set_option maxHeartbeats 4000000 in
theorem s_arc_p {E : qE} {X : qX} {Q : State → Prop} (hX : MC E yL_law cL_law 21 (some .boolean) 1475 600390 7287040 [] X) {x u t : Nat} {O : kO} (hw : WfO u O) (hu : u ≤ 6144) {br dd s : Nat} {hh : Nat → Option qSh} {nn : qM} {c0 s0 : Nat} (hc0 : c0 ≤ 400000) (hs0 : s0 ≤ 5000000) (K : ∀ (g : qG) (m : qM) (G : qG) (M : qM), ObsV g m x O → Jn g m (hh, g.2) nn G M → WS E X (c0 + 1872) (s0 + 11232) Q G M 964 [some (.ref (eT E 2)), some (.ref x), some (.int (nI t)), some (.int (nI O.1.1.length)), some (.int (nI br)), some (.int (nI (dusV O.1.2.2 12))), some (.int (nI (ds O.1.2.2 0 12))), some (.int (nI dd)), none, none, none, none, some (.ref s), some (.int (gN O.1.2.2 (O.1.2.1 4) (qArcP O).1 (qArcP O).2)), some (.int (nI (qArcP O).2)), some (.int (nI (qArcP O).1)), none, none, none, none, none] []) : ∀ (n p : Nat), p + n = 13 → 1 ≤ p → ∀ (g : qG) (m : qM) (G : qG) (M : qM), ObsV g m x O → Jn g m (hh, g.2) nn G M → WS E X (c0 + 156 * (p - 1)) (s0 + 936 * (p - 1)) Q G M 850 [some (.ref (eT E 2)), some (.ref x), some (.int (nI t)), some (.int (nI O.1.1.length)), some (.int (nI br)), some (.int (nI (dusV O.1.2.2 12))), some (.int (nI (ds O.1.2.2 0 12))), some (.int (nI dd)), none, none, none, none, some (.ref s), some (.int (bI O.1.2.2 (O.1.2.1 4) (12 * (p - 1))).1), some (.int (bI O.1.2.2 (O.1.2.1 4) (12 * (p - 1))).2.1), some (.int (bI O.1.2.2 (O.1.2.1 4) (12 * (p - 1))).2.2), some (.int (nI p)), none, none, none, none] [] := by
  intro n
  induction n with
  | zero =>
    intro p hp h1 g m G M hO j
    have e0 : p = 13 := by omega
    subst e0
    rw [show 12 * (13 - 1) = 144 from rfl, bI_144]
    refine r_iload hX dL_law_850 rfl ?_
    refine r_bipush (v := 12) hX dL_law_852 (by decide) ?_
    refine r_icmp_gt (tgt := 964) hX dL_law_854 (by decide) (fun c854 => ?_) (fun c854 => ?_)
    · exact r_widen (cN' := c0 + 1872) (sN' := s0 + 11232) (by omega) (by omega) (r_keep [true, true, true, true, true, true, true, true, true, true, true, true, true, true, true, true, false, false, false, false, false] (K g m G M hO j))
    · exact absurd (show (12 : Int32) < nI 13 by decide) c854
  | succ n ih =>
    intro p hp h1 g m G M hO j
    refine r_iload hX dL_law_850 rfl ?_
    refine r_bipush (v := 12) hX dL_law_852 (by decide) ?_
    refine r_icmp_gt (tgt := 964) hX dL_law_854 (by decide) (fun c854 => ?_) (fun c854 => ?_)
    · exact absurd c854 (nI_nlt (a := 12) (b := p) (by omega) (by decide))
    · refine r_iconst (v := 0) hX dL_law_857 (by decide) ?_
      refine r_istore hX dL_law_858 (Nat.le_of_ble_eq_true rfl) rfl ?_
      refine s_arc_s (p := p) (c0 := c0 + 156 * (p - 1)) (s0 := s0 + 936 * (p - 1)) hX hw hu ⟨h1, by omega⟩ (by omega) (by omega) (fun g1 m1 G1 M1 hO1 j1 => ?_) 12 0 rfl g m G M hO j
      refine r_iinc (v := nI (p + 1)) hX dL_law_958 rfl (nI_1 p) rfl ?_
      refine r_goto (tgt := 850) hX dL_law_961 (by decide) ?_
      exact r_widen (cN' := c0 + 156 * (p + 1 - 1)) (sN' := s0 + 936 * (p + 1 - 1)) (by omega) (by omega) (ih (p + 1) (by omega) (by omega) g1 m1 G1 M1 hO1 j1)
