/-! ===== the law: the ring ===== -/
theorem Jn.sz {g h G : qG} {m n M : qM} (j : Jn g m h n G M) (z : Nat) : Jn (g.1, z) m (h.1, z) n (G.1, z) M := ⟨rfl, rfl, j.2.2.1, j.2.2.2.1, j.2.2.2.2⟩
theorem qDust_n {O : kO} {k : Nat} (hk : k < 12) : qDust O (nI k) = (0, nI (O.1.2.2 k), O) := by
  refine (if_pos ((rng_nI (by omega) (by decide) (by decide)).mpr ⟨Nat.zero_le _, by omega⟩)).trans ?_
  rw [nI_clamp (by omega)]
theorem ds_0s (f : Nat → Nat) {k : Nat} (hk : k < 12) : ds f 0 (k + 1) = ds f 0 k + f k := by
  show ds f 0 k + f ((0 + k) % 12) = _
  rw [Nat.zero_add, Nat.mod_eq_of_lt hk]
theorem WfO.dsK {u : Nat} {O : kO} (hw : WfO u O) (hu : u ≤ 6144) {a n : Nat} (hn : n ≤ 12) : ds O.1.2.2 a n ≤ 46100000 := by
  have h1 := ds_le O.1.2.2 a n hn
  have h2 := hw.1.2.2.2.2.2.1
  omega
theorem WfO.dusK {u : Nat} {O : kO} (hw : WfO u O) (hu : u ≤ 6144) {k : Nat} (hk : k < 12) : O.1.2.2 k ≤ 46100000 := by
  have h1 := hw.dsK hu (a := k) (n := 1) (by decide)
  have h2 : ds O.1.2.2 k 1 = 0 + O.1.2.2 ((k + 0) % 12) := rfl
  rw [Nat.add_zero, Nat.mod_eq_of_lt hk, Nat.zero_add] at h2
  omega
theorem rLine_n {u : Nat} {O : kO} (hw : WfO u O) (hu : u ≤ 6144) {k : Nat} (hk : k ≤ 12) : (rLine O.1.2.2 k).length ≤ 9 * k := rLine_len (fun j hj => digs_8 (by have := hw.dusK hu hj; omega)) k hk
set_option maxRecDepth 20000 in
set_option maxHeartbeats 4000000 in
theorem s_ring_a {E : qE} {X : qX} {Q : State → Prop} (hX : MC E yL_law cL_law 21 (some .boolean) 1475 600390 7287040 [] X) {x u t : Nat} {O : kO} (hw : WfO u O) (hu : u ≤ 6144) {br dd k s : Nat} (hk : k < 12) {hh : Nat → Option qSh} {nn : qM} {c0 s0 : Nat} (hc0 : c0 ≤ 600000) (hs0 : s0 ≤ 7000000) (K : ∀ (g : qG) (m : qM) (G : qG) (M : qM), ObsV g m x O → Jn g m (hh, g.2) nn G M → WS E X (c0 + 2) (s0 + 12) Q G M 800 [some (.ref (eT E 2)), some (.ref x), some (.int (nI t)), some (.int (nI O.1.1.length)), some (.int (nI br)), some (.int (nI (dusV O.1.2.2 (k + 1)))), some (.int (nI (ds O.1.2.2 0 (k + 1)))), some (.int (nI dd)), none, none, none, none, some (.ref s), some (.int (-1000)), some (.int 0), some (.int 0), some (.int (nI k)), none, none, none, none] []) (g : qG) (m : qM) (G : qG) (M : qM) (hO : ObsV g m x O) (j : Jn g m (hh, g.2) nn G M) : WS E X c0 s0 Q G M 763 [some (.ref (eT E 2)), some (.ref x), some (.int (nI t)), some (.int (nI O.1.1.length)), some (.int (nI br)), some (.int (nI (dusV O.1.2.2 k))), some (.int (nI (ds O.1.2.2 0 k))), some (.int (nI dd)), none, none, none, none, some (.ref s), some (.int (-1000)), some (.int 0), some (.int 0), some (.int (nI k)), none, none, none, none] [] := by
  have d1 := hw.dsK hu (a := 0) (n := k) (by omega)
  have d2 := hw.dusK hu hk
  have d3 := dusV_le O.1.2.2 k
  refine r_iload hX dL_law_763 rfl ?_
  refine r_bipush (v := 12) hX dL_law_765 (by decide) ?_
  refine r_icmp_ge (tgt := 847) hX dL_law_767 (by decide) (fun c767 => ?_) (fun c767 => ?_)
  · exact absurd c767 (nI_ge (b := 12) hk (by decide))
  · refine r_iload hX dL_law_770 rfl ?_
    refine r_aload_n hX dL_law_772 rfl ?_
    refine r_iload hX dL_law_773 rfl ?_
    refine r_callVX hX dL_law_775 (SpX.join j (s_X7_dust (eP E (dom ((hh, g.2) : qG))) g m x O hO u hw hu (nI k))) ml_L_61 mk_L_61 rfl rfl (j.2.2.1 x _ hO.1.1).1 rfl ⟨Nat.le_of_ble_eq_true rfl, Nat.le_of_ble_eq_true rfl⟩ ⟨by omega, by omega, rfl, Nat.le_of_ble_eq_true rfl⟩ (fun v775 g775 m775 hp => ?_) (fun nm gx mx hp => ?_)
    rotate_left
    · obtain ⟨gq, mq, ⟨⟨k9, hk9, -⟩, -⟩, -⟩ := hp
      rw [qDust_n (by omega)] at hk9
      exact absurd hk9 (Nat.succ_ne_zero k9).symm
    obtain ⟨o775, p775, ⟨-, hv, hO775, -⟩, j775⟩ := hp
    rw [qDust_n (by omega)] at hv hO775
    replace hv : v775 = some (.int (nI (O.1.2.2 k))) := hv
    subst v775
    refine r_iadd hX dL_law_778 ?_
    rw [nI_add]
    refine r_istore hX dL_law_779 (Nat.le_of_ble_eq_true rfl) rfl ?_
    refine r_iload hX dL_law_781 rfl ?_
    refine r_aload_n hX dL_law_783 rfl ?_
    refine r_iload hX dL_law_784 rfl ?_
    refine r_callVX hX dL_law_786 (SpX.join j775 (s_X7_dust (eP E (dom ((hh, o775.2) : qG))) o775 p775 x O hO775 u hw hu (nI k))) ml_L_61 mk_L_61 rfl rfl (j775.2.2.1 x _ hO775.1.1).1 rfl ⟨Nat.le_of_ble_eq_true rfl, Nat.le_of_ble_eq_true rfl⟩ ⟨by omega, by omega, rfl, Nat.le_of_ble_eq_true rfl⟩ (fun v786 g786 m786 hp => ?_) (fun nm gx mx hp => ?_)
    rotate_left
    · obtain ⟨gq, mq, ⟨⟨k9, hk9, -⟩, -⟩, -⟩ := hp
      rw [qDust_n (by omega)] at hk9
      exact absurd hk9 (Nat.succ_ne_zero k9).symm
    obtain ⟨o786, p786, ⟨-, hv, hO786, -⟩, j786⟩ := hp
    rw [qDust_n (by omega)] at hv hO786
    replace hv : v786 = some (.int (nI (O.1.2.2 k))) := hv
    subst v786
    refine r_if_le (tgt := 796) hX dL_law_789 (by decide) (fun c789 => ?_) (fun c789 => ?_)
    · have e0 : O.1.2.2 k = 0 := Classical.byContradiction (fun q => nI_nle (by omega) (by omega) c789)
      have eD : dusV O.1.2.2 (k + 1) = dusV O.1.2.2 k := by
        show (if 0 < O.1.2.2 k then _ else _) = _
        rw [if_neg (by omega)]
      refine r_iconst (v := 0) hX dL_law_796 (by decide) ?_
      refine r_iadd hX dL_law_797 ?_
      rw [show nI (dusV O.1.2.2 k) + (0 : Int32) = nI (dusV O.1.2.2 k) from Int32.add_zero _]
      refine r_istore hX dL_law_798 (Nat.le_of_ble_eq_true rfl) rfl ?_
      have h9 := K o786 p786 g786 m786 hO786 j786
      rw [eD, ds_0s O.1.2.2 hk] at h9
      exact h9
    · have e0 : 0 < O.1.2.2 k := Nat.pos_of_ne_zero (fun q => c789 (by rw [q]; decide))
      have eD : dusV O.1.2.2 (k + 1) = dusV O.1.2.2 k + 1 := by
        show (if 0 < O.1.2.2 k then _ else _) = _
        rw [if_pos e0]
      refine r_iconst (v := 1) hX dL_law_792 (by decide) ?_
      refine r_goto (tgt := 797) hX dL_law_793 (by decide) ?_
      refine r_iadd hX dL_law_797 ?_
      rw [nI_1]
      refine r_istore hX dL_law_798 (Nat.le_of_ble_eq_true rfl) rfl ?_
      have h9 := K o786 p786 g786 m786 hO786 j786
      rw [eD, ds_0s O.1.2.2 hk] at h9
      exact h9
set_option maxRecDepth 20000 in
set_option maxHeartbeats 4000000 in
theorem s_ring_b {E : qE} {X : qX} {Q : State → Prop} (hX : MC E yL_law cL_law 21 (some .boolean) 1475 600390 7287040 [] X) {x u t : Nat} {O : kO} (hw : WfO u O) (hu : u ≤ 6144) {br dd k s v : Nat} (hk : k < 12) {hh : Nat → Option qSh} {nn : qM} (hT : ∀ z, Txt E (hh, z) nn s v (rLine O.1.2.2 k)) {c0 s0 : Nat} (hc0 : c0 ≤ 600000) (hs0 : s0 ≤ 7000000) (K : ∀ (hh : Nat → Option qSh) (nn : qM) (s v : Nat) (g : qG) (m : qM) (G : qG) (M : qM), (∀ z, Txt E (hh, z) nn s v (rLine O.1.2.2 (k + 1))) → ObsV g m x O → Jn g m (hh, g.2) nn G M → WS E X (c0 + 8) (s0 + 1230) Q G M 763 [some (.ref (eT E 2)), some (.ref x), some (.int (nI t)), some (.int (nI O.1.1.length)), some (.int (nI br)), some (.int (nI (dusV O.1.2.2 (k + 1)))), some (.int (nI (ds O.1.2.2 0 (k + 1)))), some (.int (nI dd)), none, none, none, none, some (.ref s), some (.int (-1000)), some (.int 0), some (.int 0), some (.int (nI (k + 1))), none, none, none, none] []) (g : qG) (m : qM) (G : qG) (M : qM) (hO : ObsV g m x O) (j : Jn g m (hh, g.2) nn G M) : WS E X c0 s0 Q G M 800 [some (.ref (eT E 2)), some (.ref x), some (.int (nI t)), some (.int (nI O.1.1.length)), some (.int (nI br)), some (.int (nI (dusV O.1.2.2 (k + 1)))), some (.int (nI (ds O.1.2.2 0 (k + 1)))), some (.int (nI dd)), none, none, none, none, some (.ref s), some (.int (-1000)), some (.int 0), some (.int 0), some (.int (nI k)), none, none, none, none] [] := by
  have d2 := hw.dusK hu hk
  have d4 := digs_8 (w := O.1.2.2 k) (by omega)
  have r1 := rLine_n hw hu (k := k) (by omega)
  have r2 := rLine_n hw hu (k := k + 1) (by omega)
  refine r_known (fun hkG => ?_)
  have jo := j.new hkG (.inl 1)
  have hkh : ∀ a sh, gAt ((hh, g.2) : qG) a sh → a < ((hh, g.2) : qG).2 := fun a sh ha => by
    have h9 := hkG a sh (j.2.2.2.1 a sh ha).1
    exact Nat.lt_of_lt_of_eq h9 j.1.symm
  have ji := (Jn.one ((hh, g.2) : qG) nn).new hkh (.inl 1)
  rw [show G.2 = g.2 from j.1.symm] at jo
  refine r_new hX dL_law_800 nl_L_135 (by omega) (by omega) ?_
  rw [show G.2 = g.2 from j.1.symm]
  refine r_dup hX dL_law_803 rfl ?_
  refine r_callI hX dL_law_804 (Sp.join jo.sy (Sp.join ji.sy (s_J4_init _ (gNew ((fun _ => none, g.2) : qG) (.inl 1)) (wZ nn g.2) g.2 (gNew_at _ _) rfl (qI_wZ_s _ _ _)))) ml_L_137 rfl rfl ⟨Nat.le_of_ble_eq_true rfl, Nat.le_of_ble_eq_true rfl⟩ ⟨by omega, by omega, rfl, Nat.le_of_ble_eq_true rfl⟩ (fun v804 g804 m804 hp => ?_)
  obtain ⟨h804, n804, ⟨b804, d804, ⟨hv, -, hB804, -⟩, i804⟩, j804⟩ := hp
  subst v804
  refine r_aload hX dL_law_807 rfl ?_
  refine r_callV hX dL_law_809 (Sp.join j804 (t_J4_appS _ i804 g.2 [] hB804 s v (rLine O.1.2.2 k) (hT _) (by simp only [List.length_nil]; omega))) ml_L_144 rfl rfl (j804.2.2.1 _ _ (i804.2.2.1 _ _ hB804.choose_spec.choose_spec.1.1).1).1 rfl ⟨Nat.le_of_ble_eq_true rfl, Nat.le_of_ble_eq_true rfl⟩ ⟨by omega, by omega, rfl, Nat.le_of_ble_eq_true rfl⟩ (fun v809 g809 m809 hp => ?_)
  obtain ⟨h809, n809, ⟨hv, b809, d809, hB809, i809⟩, j809⟩ := hp
  subst v809
  refine r_iload hX dL_law_812 rfl ?_
  refine r_if_le (tgt := 822) hX dL_law_814 (by decide) (fun c814 => ?_) (fun c814 => ?_)
  · have hk0 : ¬ 0 < k := fun q => nI_nle q (by omega) c814
    refine r_ldcS (i := 3) (tx := "") hX dL_law_822 rfl ?_
    refine r_callV hX dL_law_824 (Sp.join j809 (t_J4_appS _ i809 g.2 ([] ++ rLine O.1.2.2 k) hB809 (eS E 3) (eV E 3) [] ⟨Or.inl ⟨3, [], rfl, rfl, rfl, rfl⟩, by decide, by decide⟩ (by simp only [List.length_append, List.length_nil, List.length_cons]; omega))) ml_L_144 rfl rfl (j809.2.2.1 _ _ (i809.2.2.1 _ _ hB809.choose_spec.choose_spec.1.1).1).1 rfl ⟨Nat.le_of_ble_eq_true rfl, Nat.le_of_ble_eq_true rfl⟩ ⟨by omega, by omega, rfl, Nat.le_of_ble_eq_true rfl⟩ (fun v824 g824 m824 hp => ?_)
    obtain ⟨h824, n824, ⟨hv, b824, d824, hB824, i824⟩, j824⟩ := hp
    subst v824
    have hO8 : ObsV (g.1, h824.2) m x O := hO
    have j8 := j824.sy
    refine r_aload_n hX dL_law_827 rfl ?_
    refine r_iload hX dL_law_828 rfl ?_
    refine r_callVX hX dL_law_830 (SpX.join j8 (s_X7_dust (eP E (dom h824)) ((g.1, h824.2) : qG) m x O hO8 u hw hu (nI k))) ml_L_61 mk_L_61 rfl rfl (j8.2.2.1 x _ hO8.1.1).1 rfl ⟨Nat.le_of_ble_eq_true rfl, Nat.le_of_ble_eq_true rfl⟩ ⟨by omega, by omega, rfl, Nat.le_of_ble_eq_true rfl⟩ (fun v830 g830 m830 hp => ?_) (fun nm gx mx hp => ?_)
    rotate_left
    · obtain ⟨gq, mq, ⟨⟨k9, hk9, -⟩, -⟩, -⟩ := hp
      rw [qDust_n (by omega)] at hk9
      exact absurd hk9 (Nat.succ_ne_zero k9).symm
    obtain ⟨o830, p830, ⟨-, hv, hO830, -⟩, j830⟩ := hp
    rw [qDust_n (by omega)] at hv hO830
    replace hv : v830 = some (.int (nI (O.1.2.2 k))) := hv
    subst v830
    refine r_callV hX dL_law_833 (Sp.join j830.sy (Sp.join (i824.sz o830.2) (s_J4_appI _ (b824.1, o830.2) d824 g.2 (([] ++ rLine O.1.2.2 k) ++ []) hB824 (O.1.2.2 k) (by omega) (by simp only [List.length_append, List.length_nil, List.length_cons]; omega)))) ml_L_138 rfl rfl (j830.2.2.2.1 _ _ (i824.2.2.1 _ _ hB824.choose_spec.choose_spec.1.1).1).1 rfl ⟨Nat.le_of_ble_eq_true rfl, Nat.le_of_ble_eq_true rfl⟩ ⟨by omega, by omega, rfl, Nat.le_of_ble_eq_true rfl⟩ (fun v833 g833 m833 hp => ?_)
    obtain ⟨h833, n833, ⟨b833, d833, ⟨hv, hB833, -⟩, i833⟩, j833⟩ := hp
    subst v833
    refine r_callV hX dL_law_836 (Sp.join j833 (t_J4_toString _ h833 n833 g.2 ((([] ++ rLine O.1.2.2 k) ++ []) ++ decL (O.1.2.2 k)) (hB833.sub i833.2.2.1))) ml_L_151 rfl rfl (j833.2.2.1 _ _ (i833.2.2.1 _ _ hB833.choose_spec.choose_spec.1.1).1).1 rfl ⟨Nat.le_of_ble_eq_true rfl, Nat.le_of_ble_eq_true rfl⟩ ⟨by omega, by omega, rfl, Nat.le_of_ble_eq_true rfl⟩ (fun v836 g836 m836 hp => ?_)
    obtain ⟨h836, n836, ⟨hv, -, hT836, -⟩, j836⟩ := hp
    subst v836
    have j9 := j836.sy
    have eL : (([] ++ rLine O.1.2.2 k) ++ []) ++ decL (O.1.2.2 k) = rLine O.1.2.2 (k + 1) := by
      show _ = (if 0 < k then rLine O.1.2.2 k ++ [44] else rLine O.1.2.2 k) ++ decL (O.1.2.2 k)
      rw [if_neg hk0, List.nil_append]
      rw [List.append_nil]
    rw [eL] at hT836
    refine r_astore hX dL_law_839 (Nat.le_of_ble_eq_true rfl) rfl ?_
    refine r_iinc (v := nI (k + 1)) hX dL_law_841 rfl (nI_1 k) rfl ?_
    refine r_goto (tgt := 763) hX dL_law_844 (by decide) ?_
    exact r_widen (cN' := c0 + 8) (sN' := s0 + 1230) (by omega) (by omega) (K h836.1 n836 h833.2 (h833.2 + 1) (o830.1, h836.2) p830 _ _ (fun z => ⟨Or.inr hT836, fun c hc => rLine_lt (k + 1) c hc, by omega⟩) hO830 j9)
  · have hk0 : 0 < k := Nat.pos_of_ne_zero (fun q => c814 (by rw [q]; decide))
    refine r_ldcS (i := 4) (tx := ",") hX dL_law_817 rfl ?_
    refine r_goto (tgt := 824) hX dL_law_819 (by decide) ?_
    refine r_callV hX dL_law_824 (Sp.join j809 (t_J4_appS _ i809 g.2 ([] ++ rLine O.1.2.2 k) hB809 (eS E 4) (eV E 4) [44] ⟨Or.inl ⟨4, [44], rfl, rfl, rfl, rfl⟩, by decide, by decide⟩ (by simp only [List.length_append, List.length_nil, List.length_cons]; omega))) ml_L_144 rfl rfl (j809.2.2.1 _ _ (i809.2.2.1 _ _ hB809.choose_spec.choose_spec.1.1).1).1 rfl ⟨Nat.le_of_ble_eq_true rfl, Nat.le_of_ble_eq_true rfl⟩ ⟨by omega, by omega, rfl, Nat.le_of_ble_eq_true rfl⟩ (fun v824 g824 m824 hp => ?_)
    obtain ⟨h824, n824, ⟨hv, b824, d824, hB824, i824⟩, j824⟩ := hp
    subst v824
    have hO8 : ObsV (g.1, h824.2) m x O := hO
    have j8 := j824.sy
    refine r_aload_n hX dL_law_827 rfl ?_
    refine r_iload hX dL_law_828 rfl ?_
    refine r_callVX hX dL_law_830 (SpX.join j8 (s_X7_dust (eP E (dom h824)) ((g.1, h824.2) : qG) m x O hO8 u hw hu (nI k))) ml_L_61 mk_L_61 rfl rfl (j8.2.2.1 x _ hO8.1.1).1 rfl ⟨Nat.le_of_ble_eq_true rfl, Nat.le_of_ble_eq_true rfl⟩ ⟨by omega, by omega, rfl, Nat.le_of_ble_eq_true rfl⟩ (fun v830 g830 m830 hp => ?_) (fun nm gx mx hp => ?_)
    rotate_left
    · obtain ⟨gq, mq, ⟨⟨k9, hk9, -⟩, -⟩, -⟩ := hp
      rw [qDust_n (by omega)] at hk9
      exact absurd hk9 (Nat.succ_ne_zero k9).symm
    obtain ⟨o830, p830, ⟨-, hv, hO830, -⟩, j830⟩ := hp
    rw [qDust_n (by omega)] at hv hO830
    replace hv : v830 = some (.int (nI (O.1.2.2 k))) := hv
    subst v830
    refine r_callV hX dL_law_833 (Sp.join j830.sy (Sp.join (i824.sz o830.2) (s_J4_appI _ (b824.1, o830.2) d824 g.2 (([] ++ rLine O.1.2.2 k) ++ [44]) hB824 (O.1.2.2 k) (by omega) (by simp only [List.length_append, List.length_nil, List.length_cons]; omega)))) ml_L_138 rfl rfl (j830.2.2.2.1 _ _ (i824.2.2.1 _ _ hB824.choose_spec.choose_spec.1.1).1).1 rfl ⟨Nat.le_of_ble_eq_true rfl, Nat.le_of_ble_eq_true rfl⟩ ⟨by omega, by omega, rfl, Nat.le_of_ble_eq_true rfl⟩ (fun v833 g833 m833 hp => ?_)
    obtain ⟨h833, n833, ⟨b833, d833, ⟨hv, hB833, -⟩, i833⟩, j833⟩ := hp
    subst v833
    refine r_callV hX dL_law_836 (Sp.join j833 (t_J4_toString _ h833 n833 g.2 ((([] ++ rLine O.1.2.2 k) ++ [44]) ++ decL (O.1.2.2 k)) (hB833.sub i833.2.2.1))) ml_L_151 rfl rfl (j833.2.2.1 _ _ (i833.2.2.1 _ _ hB833.choose_spec.choose_spec.1.1).1).1 rfl ⟨Nat.le_of_ble_eq_true rfl, Nat.le_of_ble_eq_true rfl⟩ ⟨by omega, by omega, rfl, Nat.le_of_ble_eq_true rfl⟩ (fun v836 g836 m836 hp => ?_)
    obtain ⟨h836, n836, ⟨hv, -, hT836, -⟩, j836⟩ := hp
    subst v836
    have j9 := j836.sy
    have eL : (([] ++ rLine O.1.2.2 k) ++ [44]) ++ decL (O.1.2.2 k) = rLine O.1.2.2 (k + 1) := by
      show _ = (if 0 < k then rLine O.1.2.2 k ++ [44] else rLine O.1.2.2 k) ++ decL (O.1.2.2 k)
      rw [if_pos hk0, List.nil_append]
    rw [eL] at hT836
    refine r_astore hX dL_law_839 (Nat.le_of_ble_eq_true rfl) rfl ?_
    refine r_iinc (v := nI (k + 1)) hX dL_law_841 rfl (nI_1 k) rfl ?_
    refine r_goto (tgt := 763) hX dL_law_844 (by decide) ?_
    exact r_widen (cN' := c0 + 8) (sN' := s0 + 1230) (by omega) (by omega) (K h836.1 n836 h833.2 (h833.2 + 1) (o830.1, h836.2) p830 _ _ (fun z => ⟨Or.inr hT836, fun c hc => rLine_lt (k + 1) c hc, by omega⟩) hO830 j9)
set_option maxRecDepth 20000 in
set_option maxHeartbeats 4000000 in
theorem s_ring_l {E : qE} {X : qX} {Q : State → Prop} (hX : MC E yL_law cL_law 21 (some .boolean) 1475 600390 7287040 [] X) {x u t : Nat} {O : kO} (hw : WfO u O) (hu : u ≤ 6144) {br dd : Nat} {c0 s0 : Nat} (hc0 : c0 ≤ 500000) (hs0 : s0 ≤ 6000000) (K : ∀ (hh : Nat → Option qSh) (nn : qM) (s v : Nat) (g : qG) (m : qM) (G : qG) (M : qM), (∀ z, Txt E (hh, z) nn s v (rLine O.1.2.2 12)) → ObsV g m x O → Jn g m (hh, g.2) nn G M → WS E X (c0 + 120) (s0 + 15000) Q G M 847 [some (.ref (eT E 2)), some (.ref x), some (.int (nI t)), some (.int (nI O.1.1.length)), some (.int (nI br)), some (.int (nI (dusV O.1.2.2 12))), some (.int (nI (ds O.1.2.2 0 12))), some (.int (nI dd)), none, none, none, none, some (.ref s), some (.int (-1000)), some (.int 0), some (.int 0), none, none, none, none, none] []) : ∀ (n k : Nat), k + n = 12 → ∀ (hh : Nat → Option qSh) (nn : qM) (s v : Nat) (g : qG) (m : qM) (G : qG) (M : qM), (∀ z, Txt E (hh, z) nn s v (rLine O.1.2.2 k)) → ObsV g m x O → Jn g m (hh, g.2) nn G M → WS E X (c0 + 10 * k) (s0 + 1250 * k) Q G M 763 [some (.ref (eT E 2)), some (.ref x), some (.int (nI t)), some (.int (nI O.1.1.length)), some (.int (nI br)), some (.int (nI (dusV O.1.2.2 k))), some (.int (nI (ds O.1.2.2 0 k))), some (.int (nI dd)), none, none, none, none, some (.ref s), some (.int (-1000)), some (.int 0), some (.int 0), some (.int (nI k)), none, none, none, none] [] := by
  intro n
  induction n with
  | zero =>
    intro k hk hh nn s v g m G M hT hO j
    have e0 : k = 12 := by omega
    subst e0
    refine r_iload hX dL_law_763 rfl ?_
    refine r_bipush (v := 12) hX dL_law_765 (by decide) ?_
    refine r_icmp_ge (tgt := 847) hX dL_law_767 (by decide) (fun c767 => ?_) (fun c767 => ?_)
    · exact r_widen (cN' := c0 + 120) (sN' := s0 + 15000) (by omega) (by omega) (r_keep [true, true, true, true, true, true, true, true, true, true, true, true, true, true, true, true, false, false, false, false, false] (K hh nn s v g m G M hT hO j))
    · exact absurd (Int32.le_refl 12) c767
  | succ n ih =>
    intro k hk hh nn s v g m G M hT hO j
    refine s_ring_a (c0 := c0 + 10 * k) (s0 := s0 + 1250 * k) hX hw hu (by omega) (by omega) (by omega) (fun g1 m1 G1 M1 hO1 j1 => ?_) g m G M hO j
    refine s_ring_b (c0 := c0 + 10 * k + 2) (s0 := s0 + 1250 * k + 12) hX hw hu (by omega) hT (by omega) (by omega) (fun hh2 nn2 s2 v2 g2 m2 G2 M2 hT2 hO2 j2 => ?_) g1 m1 G1 M1 hO1 j1
    exact r_widen (cN' := c0 + 10 * (k + 1)) (sN' := s0 + 1250 * (k + 1)) (by omega) (by omega) (ih (k + 1) (by omega) hh2 nn2 s2 v2 g2 m2 G2 M2 hT2 hO2 j2)
