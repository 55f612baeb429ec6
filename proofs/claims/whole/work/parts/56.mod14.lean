/-! ===== CometObservatoryModel: meetings, the alignment ===== -/
/-- a comet passes on a day, were it never burnt -/
abbrev pOn (c : Nat → Nat) (d : Nat) : Prop := c 3 ≤ d ∧ (d - c 3) % c 1 = 0
/-- the first of the days d, d + p, .. that is behind the last, or on which c passes -/
def scM (p : Nat) (c : Nat → Nat) (last : Nat) : Nat → Nat → Nat
  | 0, d => d
  | n + 1, d => if last < d then d else if pOn c d then d else scM p c last n (d + p)
def laM (a b : Nat → Nat) : Nat := a 3 + b 3 + a 1 * b 1
def dyM (a b : Nat → Nat) : Nat := scM (a 1) b (laM a b) (laM a b + 1) (a 3)
def mMeet (O : kO) (a b : Int32) : kR := match plV O.1.1 a, plV O.1.1 b with
  | some i, some j => if a = b then (2, 0, O) else if dyM (cAt O.1.1 i) (cAt O.1.1 j) ≤ laM (cAt O.1.1 i) (cAt O.1.1 j) then (0, nI (dyM (cAt O.1.1 i) (cAt O.1.1 j)), O) else (3, 0, O)
  | _, _ => (1, 0, O)
theorem mMeet_a {O : kO} {a b : Int32} (h : plV O.1.1 a = none) : mMeet O a b = (1, 0, O) := by unfold mMeet; rw [h]
theorem mMeet_b {O : kO} {a b : Int32} (h : plV O.1.1 b = none) : mMeet O a b = (1, 0, O) := by
  unfold mMeet; rw [h]
  cases plV O.1.1 a <;> rfl
theorem mMeet_s {O : kO} {a b : Int32} {i j : Nat} (h1 : plV O.1.1 a = some i) (h2 : plV O.1.1 b = some j) : mMeet O a b = if a = b then (2, 0, O) else if dyM (cAt O.1.1 i) (cAt O.1.1 j) ≤ laM (cAt O.1.1 i) (cAt O.1.1 j) then (0, nI (dyM (cAt O.1.1 i) (cAt O.1.1 j)), O) else (3, 0, O) := by unfold mMeet; rw [h1, h2]
theorem scM_le (p : Nat) (c : Nat → Nat) (last : Nat) : ∀ n d, d ≤ last + p → scM p c last n d ≤ last + p
  | 0, d, h => h
  | n + 1, d, h => by
    unfold scM
    split
    · exact h
    · split
      · exact h
      · exact scM_le p c last n (d + p) (by omega)
set_option maxRecDepth 20000 in
set_option maxHeartbeats 4000000 in
theorem s_X8_passesOn (E : qE) (g : qG) (m : qM) (y : Nat) (hs : ModS g m y) (V : kV) (hR : RepF (rowF m y 0) V) (hF : comF V) (i d : Nat) (hi : i < V.1.length) (hd : d < 2 ^ 30) : Sp E yX8_passesOn cX8_passesOn 3 (some .boolean) 1 0 0 [.ref y, .int (nI i), .int (nI d)] g m (fun v g' m' => v = some (.int (if pOn (cAt V.1 i) d then 1 else 0)) ∧ g' = g ∧ m' = m) := by
  refine Sp.of (by decide) [some (.ref y), some (.int (nI i)), some (.int (nI d))] rfl rfl (Nat.le_of_ble_eq_true rfl) (fun X hX => ?_)
  obtain ⟨hl, hday, hcom⟩ := hF
  obtain ⟨a1, a2, a3, a4, a5, a6⟩ := hcom i hi
  refine r_iload_n hX dX8_passesOn_0 rfl ?_
  refine r_aload_n hX dX8_passesOn_1 rfl ?_
  refine r_iload_n hX dX8_passesOn_2 rfl ?_
  refine r_iconst (v := 3) hX dX8_passesOn_3 (by decide) ?_
  refine r_callV hX dX8_passesOn_4 (s_X8_c E g m y hs i 3 (by omega)) ml_X8_49 rfl rfl hs.1.1 rfl ⟨Nat.le_of_ble_eq_true rfl, Nat.le_of_ble_eq_true rfl⟩ ⟨Nat.le_of_ble_eq_true rfl, Nat.le_of_ble_eq_true rfl, rfl, Nat.le_of_ble_eq_true rfl⟩ (fun v4 g4 m4 hp => ?_)
  obtain ⟨hv, hg, hm⟩ := hp
  subst v4
  subst g4
  subst m4
  rw [hR.rC hi (by decide)]
  refine r_icmp_lt (tgt := 32) hX dX8_passesOn_7 (by decide) (fun c7 => ?_) (fun c7 => ?_)
  · have h3 : d < cAt V.1 i 3 := (nI_ltI (by omega) (by omega)).mp c7
    refine r_iconst (v := 0) hX dX8_passesOn_32 (by decide) ?_
    exact r_zret hX dX8_passesOn_33 rfl ⟨by rw [if_neg (fun h => absurd h.1 (by omega))], rfl, rfl⟩ ⟨Nat.le_of_ble_eq_true rfl, Nat.le_of_ble_eq_true rfl⟩
  · have h3 : cAt V.1 i 3 ≤ d := Nat.le_of_not_lt (fun h => c7 (nI_lt h (by omega)))
    refine r_iload_n hX dX8_passesOn_10 rfl ?_
    refine r_aload_n hX dX8_passesOn_11 rfl ?_
    refine r_iload_n hX dX8_passesOn_12 rfl ?_
    refine r_iconst (v := 3) hX dX8_passesOn_13 (by decide) ?_
    refine r_callV hX dX8_passesOn_14 (s_X8_c E g m y hs i 3 (by omega)) ml_X8_49 rfl rfl hs.1.1 rfl ⟨Nat.le_of_ble_eq_true rfl, Nat.le_of_ble_eq_true rfl⟩ ⟨Nat.le_of_ble_eq_true rfl, Nat.le_of_ble_eq_true rfl, rfl, Nat.le_of_ble_eq_true rfl⟩ (fun v14 g14 m14 hp => ?_)
    obtain ⟨hv, hg, hm⟩ := hp
    subst v14
    subst g14
    subst m14
    rw [hR.rC hi (by decide)]
    refine r_isub hX dX8_passesOn_17 ?_
    rw [pk_sub h3]
    refine r_aload_n hX dX8_passesOn_18 rfl ?_
    refine r_iload_n hX dX8_passesOn_19 rfl ?_
    refine r_iconst (v := 1) hX dX8_passesOn_20 (by decide) ?_
    refine r_callV hX dX8_passesOn_21 (s_X8_c E g m y hs i 1 (by omega)) ml_X8_49 rfl rfl hs.1.1 rfl ⟨Nat.le_of_ble_eq_true rfl, Nat.le_of_ble_eq_true rfl⟩ ⟨Nat.le_of_ble_eq_true rfl, Nat.le_of_ble_eq_true rfl, rfl, Nat.le_of_ble_eq_true rfl⟩ (fun v21 g21 m21 hp => ?_)
    obtain ⟨hv, hg, hm⟩ := hp
    subst v21
    subst g21
    subst m21
    rw [hR.rC hi (by decide)]
    refine r_irem hX dX8_passesOn_24 (nI_ne0 (by omega) (by omega)) ?_
    rw [pk_rem (by omega) (by omega) (by omega)]
    refine r_if_ne (tgt := 32) hX dX8_passesOn_25 (by decide) (fun c25 => ?_) (fun c25 => ?_)
    · have h4 : ¬ (d - cAt V.1 i 3) % cAt V.1 i 1 = 0 := fun h => c25 (by rw [h]; rfl)
      refine r_iconst (v := 0) hX dX8_passesOn_32 (by decide) ?_
      exact r_zret hX dX8_passesOn_33 rfl ⟨by rw [if_neg (fun h => h4 h.2)], rfl, rfl⟩ ⟨Nat.le_of_ble_eq_true rfl, Nat.le_of_ble_eq_true rfl⟩
    · have h4 : (d - cAt V.1 i 3) % cAt V.1 i 1 = 0 := (nI_eq (b := 0) (by have := Nat.mod_lt (d - cAt V.1 i 3) (show 0 < cAt V.1 i 1 by omega); omega) (by decide)).mp c25
      refine r_iconst (v := 1) hX dX8_passesOn_28 (by decide) ?_
      refine r_goto (tgt := 33) hX dX8_passesOn_29 (by decide) ?_
      exact r_zret hX dX8_passesOn_33 rfl ⟨by rw [if_pos ⟨h3, h4⟩], rfl, rfl⟩ ⟨Nat.le_of_ble_eq_true rfl, Nat.le_of_ble_eq_true rfl⟩
set_option maxRecDepth 20000 in
set_option maxHeartbeats 4000000 in
theorem s_X8_meet_l {E : qE} {X : qX} {Q : State → Prop} {g : qG} {m : qM} (hX : MC E yX8_nextMeeting cX8_nextMeeting 7 (some .int) 3 0 0 [] X) {y : Nat} (hs : ModS g m y) {V : kV} (hR : RepF (rowF m y 0) V) (hF : comF V) {a b : Int32} {i j last : Nat} (hi : i < V.1.length) (hj : j < V.1.length) (hla : last < 2 ^ 29) : ∀ (n d : Nat), last < d + n → d ≤ last + cAt V.1 i 1 → WS E X 0 0 Q g m 123 [some (.ref y), some (.int a), some (.int b), some (.int (nI i)), some (.int (nI j)), some (.int (nI (scM (cAt V.1 i 1) (cAt V.1 j) last n d))), some (.int (nI last))] [] → WS E X 0 0 Q g m 91 [some (.ref y), some (.int a), some (.int b), some (.int (nI i)), some (.int (nI j)), some (.int (nI d)), some (.int (nI last))] [] := by
  intro n
  obtain ⟨hl, hday, hcom⟩ := hF
  obtain ⟨a1, a2, a3, a4, a5, a6⟩ := hcom i hi
  induction n with
  | zero =>
    intro d hd hd2 K
    refine r_iload hX dX8_nextMeeting_91 rfl ?_
    refine r_iload hX dX8_nextMeeting_93 rfl ?_
    refine r_icmp_gt (tgt := 123) hX dX8_nextMeeting_95 (by decide) (fun c95 => ?_) (fun c95 => ?_)
    · exact K
    · exact absurd (nI_lt (by omega) (by omega)) c95
  | succ n ih =>
    intro d hd hd2 K
    refine r_iload hX dX8_nextMeeting_91 rfl ?_
    refine r_iload hX dX8_nextMeeting_93 rfl ?_
    refine r_icmp_gt (tgt := 123) hX dX8_nextMeeting_95 (by decide) (fun c95 => ?_) (fun c95 => ?_)
    · have h1 : last < d := (nI_ltI (by omega) (by omega)).mp c95
      rw [show scM (cAt V.1 i 1) (cAt V.1 j) last (n + 1) d = d from if_pos h1] at K
      exact K
    · have h1 : ¬ last < d := fun h => c95 (nI_lt h (by omega))
      refine r_aload_n hX dX8_nextMeeting_98 rfl ?_
      refine r_iload hX dX8_nextMeeting_99 rfl ?_
      refine r_iload hX dX8_nextMeeting_101 rfl ?_
      refine r_callV hX dX8_nextMeeting_103 (s_X8_passesOn E g m y hs V hR ⟨hl, hday, hcom⟩ j d hj (by omega)) ml_X8_135 rfl rfl hs.1.1 rfl ⟨Nat.le_of_ble_eq_true rfl, Nat.le_of_ble_eq_true rfl⟩ ⟨Nat.le_of_ble_eq_true rfl, Nat.le_of_ble_eq_true rfl, rfl, Nat.le_of_ble_eq_true rfl⟩ (fun v103 g103 m103 hp => ?_)
      obtain ⟨hv, hg, hm⟩ := hp
      subst v103
      subst g103
      subst m103
      refine r_if_ne (tgt := 123) hX dX8_nextMeeting_106 (by decide) (fun c106 => ?_) (fun c106 => ?_)
      · have h2 : pOn (cAt V.1 j) d := Classical.byContradiction (fun h => c106 (by rw [if_neg h]))
        rw [show scM (cAt V.1 i 1) (cAt V.1 j) last (n + 1) d = d from (if_neg h1).trans (if_pos h2)] at K
        exact K
      · have h2 : ¬ pOn (cAt V.1 j) d := fun h => absurd c106 (by rw [if_pos h]; decide)
        rw [show scM (cAt V.1 i 1) (cAt V.1 j) last (n + 1) d = scM (cAt V.1 i 1) (cAt V.1 j) last n (d + cAt V.1 i 1) from (if_neg h1).trans (if_neg h2)] at K
        refine r_iload hX dX8_nextMeeting_109 rfl ?_
        refine r_aload_n hX dX8_nextMeeting_111 rfl ?_
        refine r_iload_n hX dX8_nextMeeting_112 rfl ?_
        refine r_iconst (v := 1) hX dX8_nextMeeting_113 (by decide) ?_
        refine r_callV hX dX8_nextMeeting_114 (s_X8_c E g m y hs i 1 (by omega)) ml_X8_49 rfl rfl hs.1.1 rfl ⟨Nat.le_of_ble_eq_true rfl, Nat.le_of_ble_eq_true rfl⟩ ⟨Nat.le_of_ble_eq_true rfl, Nat.le_of_ble_eq_true rfl, rfl, Nat.le_of_ble_eq_true rfl⟩ (fun v114 g114 m114 hp => ?_)
        obtain ⟨hv, hg, hm⟩ := hp
        subst v114
        subst g114
        subst m114
        rw [hR.rC hi (by decide)]
        refine r_iadd hX dX8_nextMeeting_117 ?_
        rw [nI_add]
        refine r_istore hX dX8_nextMeeting_118 (Nat.le_of_ble_eq_true rfl) rfl ?_
        refine r_goto (tgt := 91) hX dX8_nextMeeting_120 (by decide) ?_
        exact ih (d + cAt V.1 i 1) (by omega) (by omega) K
set_option maxRecDepth 20000 in
set_option maxHeartbeats 4000000 in
theorem s_X8_nextMeeting (E : qE) (g : qG) (m : qM) (y : Nat) (O : kO) (hO : ModV g m y O) (u : Nat) (hw : WfO u O) (hu : u ≤ 6144) (a b : Int32) : Sp E yX8_nextMeeting cX8_nextMeeting 7 (some .int) 3 0 0 [.ref y, .int a, .int b] g m (pU y g m (mMeet O a b)) := by
  refine Sp.of (by decide) [some (.ref y), some (.int a), some (.int b), none, none, none, none] rfl rfl (Nat.le_of_ble_eq_true rfl) (fun X hX => ?_)
  have hR := hO.2.2
  refine r_aload_n hX dX8_nextMeeting_0 rfl ?_
  refine r_aload_n hX dX8_nextMeeting_1 rfl ?_
  refine r_iload_n hX dX8_nextMeeting_2 rfl ?_
  refine r_callV hX dX8_nextMeeting_3 (s_X8_isThere E g m y hO.1.1 a O.1 hR hO.2.1) ml_X8_84 rfl rfl hO.1.1.1.1 rfl ⟨Nat.le_of_ble_eq_true rfl, Nat.le_of_ble_eq_true rfl⟩ ⟨Nat.le_of_ble_eq_true rfl, Nat.le_of_ble_eq_true rfl, rfl, Nat.le_of_ble_eq_true rfl⟩ (fun v3 g3 m3 hp => ?_)
  obtain ⟨hv, hg, hm⟩ := hp
  subst v3
  subst g3
  subst m3
  refine r_if_eq (tgt := 17) hX dX8_nextMeeting_6 (by decide) (fun c6 => ?_) (fun c6 => ?_)
  · have hq : plV O.1.1 a = none := by
      cases hq : plV O.1.1 a with
      | none => rfl
      | some i => exact absurd c6 (by rw [hq]; show ¬ (1 : Int32) = 0; decide)
    have eR := mMeet_a (b := b) hq
    refine r_iconst (v := 1) hX dX8_nextMeeting_17 (by decide) ?_
    refine r_goto (tgt := 31) hX dX8_nextMeeting_18 (by decide) ?_
    refine r_putI hX dX8_nextMeeting_31 hO.1.1.1.1 fl_X8_36 ?_
    refine r_aload_n hX dX8_nextMeeting_34 rfl ?_
    refine r_getI hX dX8_nextMeeting_35 hO.1.1.1.1 fl_X8_36 ?_
    rw [qI_wI_s]
    refine r_if_eq (tgt := 43) hX dX8_nextMeeting_38 (by decide) (fun c38 => ?_) (fun c38 => ?_)
    · exact absurd c38 (by decide)
    · refine r_iconst (v := 0) hX dX8_nextMeeting_41 (by decide) ?_
      exact r_iret hX dX8_nextMeeting_42 (by rw [eR]; exact hO.no (by decide) rfl) ⟨Nat.le_of_ble_eq_true rfl, Nat.le_of_ble_eq_true rfl⟩
  · obtain ⟨i, hi⟩ : ∃ i, plV O.1.1 a = some i := by
      cases hq : plV O.1.1 a with
      | none => exact absurd (show (if (none : Option Nat).isSome = true then (1 : Int32) else 0) = 0 from rfl) (by rw [← hq]; exact c6)
      | some i => exact ⟨i, rfl⟩
    have hil := (plV_lt hi).1
    refine r_aload_n hX dX8_nextMeeting_9 rfl ?_
    refine r_iload_n hX dX8_nextMeeting_10 rfl ?_
    refine r_callV hX dX8_nextMeeting_11 (s_X8_isThere E g m y hO.1.1 b O.1 hR hO.2.1) ml_X8_84 rfl rfl hO.1.1.1.1 rfl ⟨Nat.le_of_ble_eq_true rfl, Nat.le_of_ble_eq_true rfl⟩ ⟨Nat.le_of_ble_eq_true rfl, Nat.le_of_ble_eq_true rfl, rfl, Nat.le_of_ble_eq_true rfl⟩ (fun v11 g11 m11 hp => ?_)
    obtain ⟨hv, hg, hm⟩ := hp
    subst v11
    subst g11
    subst m11
    refine r_if_ne (tgt := 21) hX dX8_nextMeeting_14 (by decide) (fun c14 => ?_) (fun c14 => ?_)
    · obtain ⟨j, hj⟩ : ∃ i, plV O.1.1 b = some i := by
        cases hq : plV O.1.1 b with
        | none => exact absurd (show (if (none : Option Nat).isSome = true then (1 : Int32) else 0) = 0 from rfl) (by rw [← hq]; exact c14)
        | some i => exact ⟨i, rfl⟩
      have hjl := (plV_lt hj).1
      refine r_iload_n hX dX8_nextMeeting_21 rfl ?_
      refine r_iload_n hX dX8_nextMeeting_22 rfl ?_
      refine r_icmp_ne (tgt := 30) hX dX8_nextMeeting_23 (by decide) (fun c23 => ?_) (fun c23 => ?_)
      · have hab : ¬ a = b := c23
        refine r_iconst (v := 0) hX dX8_nextMeeting_30 (by decide) ?_
        refine r_putI hX dX8_nextMeeting_31 hO.1.1.1.1 fl_X8_36 ?_
        have hO1 := hO.thr 0
        refine r_aload_n hX dX8_nextMeeting_34 rfl ?_
        refine r_getI hX dX8_nextMeeting_35 hO.1.1.1.1 fl_X8_36 ?_
        rw [qI_wI_s]
        refine r_if_eq (tgt := 43) hX dX8_nextMeeting_38 (by decide) (fun c38 => ?_) (fun c38 => ?_)
        · refine r_aload_n hX dX8_nextMeeting_43 rfl ?_
          refine r_iload_n hX dX8_nextMeeting_44 rfl ?_
          refine r_callV hX dX8_nextMeeting_45 (s_X8_place E g _ y (by exact hO1.s) a O.1 (by exact hO1.2.2) hO.2.1) ml_X8_53 rfl rfl hO.1.1.1.1 rfl ⟨Nat.le_of_ble_eq_true rfl, Nat.le_of_ble_eq_true rfl⟩ ⟨Nat.le_of_ble_eq_true rfl, Nat.le_of_ble_eq_true rfl, rfl, Nat.le_of_ble_eq_true rfl⟩ (fun v45 g45 m45 hp => ?_)
          obtain ⟨hv, hg, hm⟩ := hp
          subst v45
          subst g45
          subst m45
          rw [show plV _ a = some i from hi]
          have hF := hw.cF hu
          obtain ⟨hl6, hday, hcom⟩ := id hF
          obtain ⟨a1, a2, a3, a4, a5, a6⟩ := hcom i hil
          obtain ⟨b1, b2, b3, b4, b5, b6⟩ := hcom j hjl
          have hpq : cAt O.1.1 i 1 * cAt O.1.1 j 1 ≤ 60 * 60 := Nat.mul_le_mul a2 b2
          refine r_istore_n hX dX8_nextMeeting_48 (Nat.le_of_ble_eq_true rfl) rfl ?_
          refine r_aload_n hX dX8_nextMeeting_49 rfl ?_
          refine r_iload_n hX dX8_nextMeeting_50 rfl ?_
          refine r_callV hX dX8_nextMeeting_51 (s_X8_place E g _ y (by exact hO1.s) b O.1 (by exact hO1.2.2) hO.2.1) ml_X8_53 rfl rfl hO.1.1.1.1 rfl ⟨Nat.le_of_ble_eq_true rfl, Nat.le_of_ble_eq_true rfl⟩ ⟨Nat.le_of_ble_eq_true rfl, Nat.le_of_ble_eq_true rfl, rfl, Nat.le_of_ble_eq_true rfl⟩ (fun v51 g51 m51 hp => ?_)
          obtain ⟨hv, hg, hm⟩ := hp
          subst v51
          subst g51
          subst m51
          rw [show plV _ b = some j from hj]
          refine r_istore hX dX8_nextMeeting_54 (Nat.le_of_ble_eq_true rfl) rfl ?_
          refine r_aload_n hX dX8_nextMeeting_56 rfl ?_
          refine r_iload_n hX dX8_nextMeeting_57 rfl ?_
          refine r_iconst (v := 3) hX dX8_nextMeeting_58 (by decide) ?_
          refine r_callV hX dX8_nextMeeting_59 (s_X8_c E g _ y (by exact hO1.s) i 3 (by omega)) ml_X8_49 rfl rfl hO.1.1.1.1 rfl ⟨Nat.le_of_ble_eq_true rfl, Nat.le_of_ble_eq_true rfl⟩ ⟨Nat.le_of_ble_eq_true rfl, Nat.le_of_ble_eq_true rfl, rfl, Nat.le_of_ble_eq_true rfl⟩ (fun v59 g59 m59 hp => ?_)
          obtain ⟨hv, hg, hm⟩ := hp
          subst v59
          subst g59
          subst m59
          rw [hO1.2.2.rC hil (by omega)]
          refine r_istore hX dX8_nextMeeting_62 (Nat.le_of_ble_eq_true rfl) rfl ?_
          refine r_iload hX dX8_nextMeeting_64 rfl ?_
          refine r_aload_n hX dX8_nextMeeting_66 rfl ?_
          refine r_iload hX dX8_nextMeeting_67 rfl ?_
          refine r_iconst (v := 3) hX dX8_nextMeeting_69 (by decide) ?_
          refine r_callV hX dX8_nextMeeting_70 (s_X8_c E g _ y (by exact hO1.s) j 3 (by omega)) ml_X8_49 rfl rfl hO.1.1.1.1 rfl ⟨Nat.le_of_ble_eq_true rfl, Nat.le_of_ble_eq_true rfl⟩ ⟨Nat.le_of_ble_eq_true rfl, Nat.le_of_ble_eq_true rfl, rfl, Nat.le_of_ble_eq_true rfl⟩ (fun v70 g70 m70 hp => ?_)
          obtain ⟨hv, hg, hm⟩ := hp
          subst v70
          subst g70
          subst m70
          rw [hO1.2.2.rC hjl (by omega)]
          refine r_iadd hX dX8_nextMeeting_73 ?_
          rw [nI_add]
          refine r_aload_n hX dX8_nextMeeting_74 rfl ?_
          refine r_iload_n hX dX8_nextMeeting_75 rfl ?_
          refine r_iconst (v := 1) hX dX8_nextMeeting_76 (by decide) ?_
          refine r_callV hX dX8_nextMeeting_77 (s_X8_c E g _ y (by exact hO1.s) i 1 (by omega)) ml_X8_49 rfl rfl hO.1.1.1.1 rfl ⟨Nat.le_of_ble_eq_true rfl, Nat.le_of_ble_eq_true rfl⟩ ⟨Nat.le_of_ble_eq_true rfl, Nat.le_of_ble_eq_true rfl, rfl, Nat.le_of_ble_eq_true rfl⟩ (fun v77 g77 m77 hp => ?_)
          obtain ⟨hv, hg, hm⟩ := hp
          subst v77
          subst g77
          subst m77
          rw [hO1.2.2.rC hil (by omega)]
          refine r_aload_n hX dX8_nextMeeting_80 rfl ?_
          refine r_iload hX dX8_nextMeeting_81 rfl ?_
          refine r_iconst (v := 1) hX dX8_nextMeeting_83 (by decide) ?_
          refine r_callV hX dX8_nextMeeting_84 (s_X8_c E g _ y (by exact hO1.s) j 1 (by omega)) ml_X8_49 rfl rfl hO.1.1.1.1 rfl ⟨Nat.le_of_ble_eq_true rfl, Nat.le_of_ble_eq_true rfl⟩ ⟨Nat.le_of_ble_eq_true rfl, Nat.le_of_ble_eq_true rfl, rfl, Nat.le_of_ble_eq_true rfl⟩ (fun v84 g84 m84 hp => ?_)
          obtain ⟨hv, hg, hm⟩ := hp
          subst v84
          subst g84
          subst m84
          rw [hO1.2.2.rC hjl (by omega)]
          refine r_imul hX dX8_nextMeeting_87 ?_
          rw [pk_mul]
          refine r_iadd hX dX8_nextMeeting_88 ?_
          rw [nI_add]
          have hLA : laM (cAt O.1.1 i) (cAt O.1.1 j) < 2 ^ 29 := by unfold laM; omega
          refine r_istore hX dX8_nextMeeting_89 (Nat.le_of_ble_eq_true rfl) rfl ?_
          refine s_X8_meet_l (g := g) (last := laM (cAt O.1.1 i) (cAt O.1.1 j)) hX hO1.s hO1.2.2 hF hil hjl hLA (laM (cAt O.1.1 i) (cAt O.1.1 j) + 1) (cAt O.1.1 i 3) (by omega) (by unfold laM; omega) ?_
          have hdl : dyM (cAt O.1.1 i) (cAt O.1.1 j) ≤ laM (cAt O.1.1 i) (cAt O.1.1 j) + cAt O.1.1 i 1 := scM_le _ _ _ _ _ (by unfold laM; omega)
          show WS E X 0 0 _ g _ 123 [some (.ref y), some (.int a), some (.int b), some (.int (nI i)), some (.int (nI j)), some (.int (nI (dyM (cAt O.1.1 i) (cAt O.1.1 j)))), some (.int (nI (laM (cAt O.1.1 i) (cAt O.1.1 j))))] []
          refine r_aload_n hX dX8_nextMeeting_123 rfl ?_
          refine r_iload hX dX8_nextMeeting_124 rfl ?_
          refine r_iload hX dX8_nextMeeting_126 rfl ?_
          refine r_icmp_gt (tgt := 135) hX dX8_nextMeeting_128 (by decide) (fun c128 => ?_) (fun c128 => ?_)
          · have hle : ¬ dyM (cAt O.1.1 i) (cAt O.1.1 j) ≤ laM (cAt O.1.1 i) (cAt O.1.1 j) := Nat.not_le_of_lt ((nI_ltI (by omega) (by omega)).mp c128)
            refine r_iconst (v := 3) hX dX8_nextMeeting_135 (by decide) ?_
            refine r_putI hX dX8_nextMeeting_136 hO.1.1.1.1 fl_X8_36 ?_
            rw [wI_wI]
            refine r_aload_n hX dX8_nextMeeting_139 rfl ?_
            refine r_getI hX dX8_nextMeeting_140 hO.1.1.1.1 fl_X8_36 ?_
            rw [qI_wI_s]
            refine r_if_ne (tgt := 151) hX dX8_nextMeeting_143 (by decide) (fun c143 => ?_) (fun c143 => ?_)
            · refine r_iconst (v := 0) hX dX8_nextMeeting_151 (by decide) ?_
              exact r_iret hX dX8_nextMeeting_152 (by rw [mMeet_s hi hj, if_neg hab, if_neg hle]; exact hO.no (by decide) rfl) ⟨Nat.le_of_ble_eq_true rfl, Nat.le_of_ble_eq_true rfl⟩
            · exact absurd c143 (by decide)
          · have hle : dyM (cAt O.1.1 i) (cAt O.1.1 j) ≤ laM (cAt O.1.1 i) (cAt O.1.1 j) := Nat.le_of_not_lt (fun h => c128 (nI_lt h (by omega)))
            refine r_iconst (v := 0) hX dX8_nextMeeting_131 (by decide) ?_
            refine r_goto (tgt := 136) hX dX8_nextMeeting_132 (by decide) ?_
            refine r_putI hX dX8_nextMeeting_136 hO.1.1.1.1 fl_X8_36 ?_
            rw [wI_wI]
            refine r_aload_n hX dX8_nextMeeting_139 rfl ?_
            refine r_getI hX dX8_nextMeeting_140 hO.1.1.1.1 fl_X8_36 ?_
            rw [qI_wI_s]
            refine r_if_ne (tgt := 151) hX dX8_nextMeeting_143 (by decide) (fun c143 => ?_) (fun c143 => ?_)
            · exact absurd rfl c143
            · refine r_iload hX dX8_nextMeeting_146 rfl ?_
              refine r_goto (tgt := 152) hX dX8_nextMeeting_148 (by decide) ?_
              exact r_iret hX dX8_nextMeeting_152 (by rw [mMeet_s hi hj, if_neg hab, if_pos hle]; exact hO.ok rfl) ⟨Nat.le_of_ble_eq_true rfl, Nat.le_of_ble_eq_true rfl⟩
        · exact absurd rfl c38
      · have eR : mMeet O a b = (2, 0, O) := by rw [mMeet_s hi hj, if_pos c23]
        refine r_iconst (v := 2) hX dX8_nextMeeting_26 (by decide) ?_
        refine r_goto (tgt := 31) hX dX8_nextMeeting_27 (by decide) ?_
        refine r_putI hX dX8_nextMeeting_31 hO.1.1.1.1 fl_X8_36 ?_
        refine r_aload_n hX dX8_nextMeeting_34 rfl ?_
        refine r_getI hX dX8_nextMeeting_35 hO.1.1.1.1 fl_X8_36 ?_
        rw [qI_wI_s]
        refine r_if_eq (tgt := 43) hX dX8_nextMeeting_38 (by decide) (fun c38 => ?_) (fun c38 => ?_)
        · exact absurd c38 (by decide)
        · refine r_iconst (v := 0) hX dX8_nextMeeting_41 (by decide) ?_
          exact r_iret hX dX8_nextMeeting_42 (by rw [eR]; exact hO.no (by decide) rfl) ⟨Nat.le_of_ble_eq_true rfl, Nat.le_of_ble_eq_true rfl⟩
    · have hq : plV O.1.1 b = none := by
        cases hq : plV O.1.1 b with
        | none => rfl
        | some i => exact absurd c14 (by rw [hq]; show ¬ (1 : Int32) = 0; decide)
      have eR := mMeet_b (a := a) hq
      refine r_iconst (v := 1) hX dX8_nextMeeting_17 (by decide) ?_
      refine r_goto (tgt := 31) hX dX8_nextMeeting_18 (by decide) ?_
      refine r_putI hX dX8_nextMeeting_31 hO.1.1.1.1 fl_X8_36 ?_
      refine r_aload_n hX dX8_nextMeeting_34 rfl ?_
      refine r_getI hX dX8_nextMeeting_35 hO.1.1.1.1 fl_X8_36 ?_
      rw [qI_wI_s]
      refine r_if_eq (tgt := 43) hX dX8_nextMeeting_38 (by decide) (fun c38 => ?_) (fun c38 => ?_)
      · exact absurd c38 (by decide)
      · refine r_iconst (v := 0) hX dX8_nextMeeting_41 (by decide) ?_
        exact r_iret hX dX8_nextMeeting_42 (by rw [eR]; exact hO.no (by decide) rfl) ⟨Nat.le_of_ble_eq_true rfl, Nat.le_of_ble_eq_true rfl⟩
set_option maxRecDepth 20000 in
set_option maxHeartbeats 4000000 in
theorem s_X8_nextMeetingByRemainders (E : qE) (g : qG) (m : qM) (y : Nat) (O : kO) (hO : ModV g m y O) (u : Nat) (hw : WfO u O) (hu : u ≤ 6144) (a b : Int32) : Sp E yX8_nextMeetingByRemainders cX8_nextMeetingByRemainders 3 (some .int) 4 0 0 [.ref y, .int a, .int b] g m (pU y g m (mMeet O a b)) := by
  refine Sp.of (by decide) [some (.ref y), some (.int a), some (.int b)] rfl rfl (Nat.le_of_ble_eq_true rfl) (fun X hX => ?_)
  have hR := hO.2.2
  refine r_aload_n hX dX8_nextMeetingByRemainders_0 rfl ?_
  refine r_iload_n hX dX8_nextMeetingByRemainders_1 rfl ?_
  refine r_iload_n hX dX8_nextMeetingByRemainders_2 rfl ?_
  refine r_callV hX dX8_nextMeetingByRemainders_3 (s_X8_nextMeeting E g m y O hO u hw hu a b) ml_X8_138 rfl rfl hO.1.1.1.1 rfl ⟨Nat.le_of_ble_eq_true rfl, Nat.le_of_ble_eq_true rfl⟩ ⟨Nat.le_of_ble_eq_true rfl, Nat.le_of_ble_eq_true rfl, rfl, Nat.le_of_ble_eq_true rfl⟩ (fun v3 g3 m3 hp => ?_)
  obtain ⟨⟨w, hv, hw9⟩, hg, hP⟩ := hp
  subst v3
  subst g3
  exact r_iret hX dX8_nextMeetingByRemainders_6 ⟨⟨w, rfl, hw9⟩, rfl, hP⟩ ⟨Nat.le_of_ble_eq_true rfl, Nat.le_of_ble_eq_true rfl⟩
def lcmV (L : List (Nat → Nat)) : Nat → Nat
  | 0 => 1
  | i + 1 => Nat.lcm (lcmV L i) (cAt L i 1)
def mAli (O : kO) : Nat × Value × kO := if O.1.1.length = 0 then (1, .null, O) else (0, .long (lN (lcmV O.1.1 O.1.1.length)), O)
theorem lcm_le {a b : Nat} (ha : 1 ≤ a) (hb : 1 ≤ b) : 1 ≤ Nat.lcm a b ∧ Nat.lcm a b ≤ a * b := ⟨Nat.pos_of_ne_zero (fun h => by have := Nat.lcm_eq_zero_iff.mp h; omega), Nat.le_of_dvd (Nat.mul_pos ha hb) (Nat.lcm_dvd (Nat.dvd_mul_right a b) (Nat.dvd_mul_left b a))⟩
theorem lcmV_b {L : List (Nat → Nat)} (h : ∀ i, i < L.length → 2 ≤ cAt L i 1 ∧ cAt L i 1 ≤ 60) : ∀ n, n ≤ L.length → 1 ≤ lcmV L n ∧ lcmV L n ≤ 60 ^ n
  | 0, _ => ⟨Nat.le_refl 1, Nat.le_refl 1⟩
  | n + 1, hn => by
    obtain ⟨h1, h2⟩ := lcmV_b h n (by omega)
    obtain ⟨h3, h4⟩ := h n (by omega)
    obtain ⟨h5, h6⟩ := lcm_le h1 (show 1 ≤ cAt L n 1 by omega)
    refine ⟨h5, Nat.le_trans h6 ?_⟩
    rw [Nat.pow_succ]
    exact Nat.mul_le_mul h2 h4
set_option maxRecDepth 20000 in
set_option maxHeartbeats 4000000 in
theorem s_X8_ali_t {E : qE} {X : qX} {Q : State → Prop} {g : qG} {m : qM} (hX : MC E yX8_alignment cX8_alignment 6 (some .long) 1 0 0 [] X) {y : Nat} {O : kO} (hO : ModV g m y O) {k s : Nat} (hk : k < O.1.1.length) (hc : 2 ≤ cAt O.1.1 k 1 ∧ cAt O.1.1 k 1 ≤ 60) (hs1 : 1 ≤ s) (hs2 : s ≤ 60 ^ 6) : ∀ (n t : Nat), Nat.lcm s (cAt O.1.1 k 1) ≤ s * t + n → 1 ≤ t → s * t ≤ Nat.lcm s (cAt O.1.1 k 1) → WS E X 0 0 Q g m 39 [some (.ref y), some (.long (lN (Nat.lcm s (cAt O.1.1 k 1)))), none, some (.int (nI k)), some (.long (lN s)), none] [] → WS E X 0 0 Q g m 17 [some (.ref y), some (.long (lN (s * t))), none, some (.int (nI k)), some (.long (lN s)), none] [] := by
  intro n
  have hl6 := hO.2.1
  obtain ⟨hL1, hL2⟩ := lcm_le hs1 (show 1 ≤ cAt O.1.1 k 1 by omega)
  have hLb : Nat.lcm s (cAt O.1.1 k 1) ≤ 60 ^ 6 * 60 := Nat.le_trans hL2 (Nat.mul_le_mul hs2 hc.2)
  have hdc : cAt O.1.1 k 1 ∣ Nat.lcm s (cAt O.1.1 k 1) := Nat.dvd_lcm_right _ _
  have hds : s ∣ Nat.lcm s (cAt O.1.1 k 1) := Nat.dvd_lcm_left _ _
  have hdiv : ∀ t, 1 ≤ t → s * t ≤ Nat.lcm s (cAt O.1.1 k 1) → s * t % cAt O.1.1 k 1 = 0 → s * t = Nat.lcm s (cAt O.1.1 k 1) := fun t h1 h2 h3 => Nat.le_antisymm h2 (Nat.le_of_dvd (Nat.mul_pos hs1 h1) (Nat.lcm_dvd (Nat.dvd_mul_right s t) (Nat.dvd_of_mod_eq_zero h3)))
  generalize Nat.lcm s (cAt O.1.1 k 1) = L at *
  induction n with
  | zero =>
    intro t h1 h2 h3 K
    have hst : s * t = L := by omega
    rw [hst]
    refine r_lload_n hX dX8_alignment_17 rfl ?_
    refine r_aload_n hX dX8_alignment_18 rfl ?_
    refine r_iload_n hX dX8_alignment_19 rfl ?_
    refine r_iconst (v := 1) hX dX8_alignment_20 (by decide) ?_
    refine r_callV hX dX8_alignment_21 (s_X8_c E g m y hO.1.1 k 1 (by omega)) ml_X8_49 rfl rfl hO.1.1.1.1 rfl ⟨Nat.le_of_ble_eq_true rfl, Nat.le_of_ble_eq_true rfl⟩ ⟨Nat.le_of_ble_eq_true rfl, Nat.le_of_ble_eq_true rfl, rfl, Nat.le_of_ble_eq_true rfl⟩ (fun v21 g21 m21 hp => ?_)
    obtain ⟨hv, hg, hm⟩ := hp
    subst v21
    subst g21
    subst m21
    rw [hO.2.2.rC hk (by decide)]
    refine r_i2l hX dX8_alignment_24 ?_
    rw [nI_l (by omega)]
    refine r_lrem hX dX8_alignment_25 (fun h => by have h2 := (pk_lEQ (a := cAt O.1.1 k 1) (b := 0) (by omega) (by decide)).mp h; omega) ?_
    rw [pk_lRem (by omega) (by omega) (by omega)]
    refine r_lconst (v := 0) hX dX8_alignment_26 (by decide) ?_
    refine r_lcmp hX dX8_alignment_27 ?_
    refine r_if_eq (tgt := 39) hX dX8_alignment_28 (by decide) (fun c28 => ?_) (fun c28 => ?_)
    · exact K
    · exact absurd ((lg_cmp_eq _ _).mpr (by rw [Nat.mod_eq_zero_of_dvd hdc]; rfl)) c28
  | succ n ih =>
    intro t h1 h2 h3 K
    have hstb : s * t ≤ L := h3
    refine r_lload_n hX dX8_alignment_17 rfl ?_
    refine r_aload_n hX dX8_alignment_18 rfl ?_
    refine r_iload_n hX dX8_alignment_19 rfl ?_
    refine r_iconst (v := 1) hX dX8_alignment_20 (by decide) ?_
    refine r_callV hX dX8_alignment_21 (s_X8_c E g m y hO.1.1 k 1 (by omega)) ml_X8_49 rfl rfl hO.1.1.1.1 rfl ⟨Nat.le_of_ble_eq_true rfl, Nat.le_of_ble_eq_true rfl⟩ ⟨Nat.le_of_ble_eq_true rfl, Nat.le_of_ble_eq_true rfl, rfl, Nat.le_of_ble_eq_true rfl⟩ (fun v21 g21 m21 hp => ?_)
    obtain ⟨hv, hg, hm⟩ := hp
    subst v21
    subst g21
    subst m21
    rw [hO.2.2.rC hk (by decide)]
    refine r_i2l hX dX8_alignment_24 ?_
    rw [nI_l (by omega)]
    refine r_lrem hX dX8_alignment_25 (fun h => by have h2 := (pk_lEQ (a := cAt O.1.1 k 1) (b := 0) (by omega) (by decide)).mp h; omega) ?_
    rw [pk_lRem (by omega) (by omega) (by omega)]
    refine r_lconst (v := 0) hX dX8_alignment_26 (by decide) ?_
    refine r_lcmp hX dX8_alignment_27 ?_
    refine r_if_eq (tgt := 39) hX dX8_alignment_28 (by decide) (fun c28 => ?_) (fun c28 => ?_)
    · have h0 := (pk_lEQ (b := 0) (by have := Nat.mod_lt (s * t) (show 0 < cAt O.1.1 k 1 by omega); omega) (by decide)).mp ((lg_cmp_eq _ _).mp c28)
      rw [hdiv t h2 h3 h0]
      exact K
    · have h0 : ¬ s * t % cAt O.1.1 k 1 = 0 := fun h => c28 ((lg_cmp_eq _ _).mpr (by rw [h]; rfl))
      have hne : s * t ≠ L := fun h => h0 (by rw [h]; exact Nat.mod_eq_zero_of_dvd hdc)
      have hnx : s * (t + 1) ≤ L := by
        obtain ⟨w, rfl⟩ := hds
        have htw : t < w := Nat.lt_of_mul_lt_mul_left (a := s) (by omega)
        exact Nat.mul_le_mul_left s htw
      refine r_lload_n hX dX8_alignment_31 rfl ?_
      refine r_lload hX dX8_alignment_32 rfl ?_
      refine r_ladd hX dX8_alignment_34 ?_
      rw [lN_add, ← Nat.mul_succ]
      refine r_lstore_n hX dX8_alignment_35 (Nat.le_of_ble_eq_true rfl) rfl ?_
      refine r_goto (tgt := 17) hX dX8_alignment_36 (by decide) ?_
      exact ih (t + 1) (by rw [Nat.mul_succ]; omega) (by omega) hnx K
set_option maxRecDepth 20000 in
set_option maxHeartbeats 4000000 in
theorem s_X8_ali_k {E : qE} {X : qX} {Q : State → Prop} {g : qG} {m : qM} (hX : MC E yX8_alignment cX8_alignment 6 (some .long) 1 0 0 [] X) {y : Nat} {O : kO} (hO : ModV g m y O) (hcom : ∀ i, i < O.1.1.length → 2 ≤ cAt O.1.1 i 1 ∧ cAt O.1.1 i 1 ≤ 60) : ∀ (n k : Nat) (z : Option Value), k + n = O.1.1.length → (∀ (w : Int32) (z : Option Value), WS E X 0 0 Q g m 45 [some (.ref y), some (.long (lN (lcmV O.1.1 O.1.1.length))), none, some (.int w), z, none] []) → WS E X 0 0 Q g m 4 [some (.ref y), some (.long (lN (lcmV O.1.1 k))), none, some (.int (nI k)), z, none] [] := by
  intro n
  have hl := hO.2.1
  have hR := hO.2.2
  induction n with
  | zero =>
    intro k z hk K
    have hib : k = O.1.1.length := by omega
    subst hib
    refine r_iload_n hX dX8_alignment_4 rfl ?_
    refine r_aload_n hX dX8_alignment_5 rfl ?_
    refine r_getR hX dX8_alignment_6 hO.1.1.1.1 fl_X8_9 hO.1.1.2.1 ?_
    refine r_iconst (v := 0) hX dX8_alignment_9 (by decide) ?_
    refine r_ialoadN hX dX8_alignment_10 hO.1.1.1.2.1 (show 0 < 539 by decide) (by decide) ?_
    rw [hR.r0]
    refine r_icmp_ge (tgt := 45) hX dX8_alignment_11 (by decide) (fun c11 => ?_) (fun c11 => ?_)
    · exact K _ _
    · exact absurd (Int32.le_refl _) c11
  | succ n ih =>
    intro k z hk K
    have hkl : k < O.1.1.length := by omega
    obtain ⟨q1, q2⟩ := lcmV_b hcom k (by omega)
    have q3 : 60 ^ k ≤ 60 ^ 6 := Nat.pow_le_pow_right (by decide) (by omega)
    refine r_iload_n hX dX8_alignment_4 rfl ?_
    refine r_aload_n hX dX8_alignment_5 rfl ?_
    refine r_getR hX dX8_alignment_6 hO.1.1.1.1 fl_X8_9 hO.1.1.2.1 ?_
    refine r_iconst (v := 0) hX dX8_alignment_9 (by decide) ?_
    refine r_ialoadN hX dX8_alignment_10 hO.1.1.1.2.1 (show 0 < 539 by decide) (by decide) ?_
    rw [hR.r0]
    refine r_icmp_ge (tgt := 45) hX dX8_alignment_11 (by decide) (fun c11 => ?_) (fun c11 => ?_)
    · exact absurd c11 (nI_ge hkl (by omega))
    · refine r_lload_n hX dX8_alignment_14 rfl ?_
      refine r_lstore hX dX8_alignment_15 (Nat.le_of_ble_eq_true rfl) rfl ?_
      have h9 := s_X8_ali_t (g := g) (m := m) (Q := Q) hX hO hkl (hcom k hkl) q1 (Nat.le_trans q2 q3) (Nat.lcm (lcmV O.1.1 k) (cAt O.1.1 k 1)) 1 (by omega) (Nat.le_refl _) (by rw [Nat.mul_one]; exact Nat.le_of_dvd (lcm_le q1 (by have := hcom k hkl; omega)).1 (Nat.dvd_lcm_left _ _)) ?_
      · rw [Nat.mul_one] at h9
        exact h9
      · refine r_iinc (v := nI (k + 1)) hX dX8_alignment_39 rfl (ii1 k) rfl ?_
        refine r_goto (tgt := 4) hX dX8_alignment_42 (by decide) ?_
        exact ih (k + 1) _ (by omega) K
set_option maxRecDepth 20000 in
set_option maxHeartbeats 4000000 in
theorem s_X8_alignment (E : qE) (g : qG) (m : qM) (y : Nat) (O : kO) (hO : ModV g m y O) (u : Nat) (hw : WfO u O) (hu : u ≤ 6144) : Sp E yX8_alignment cX8_alignment 6 (some .long) 1 0 0 [.ref y] g m (fun v g' m' => pUW y g m (mAli O) v g' m' ∧ ∃ d, v = some (.long d)) := by
  refine Sp.of (by decide) [some (.ref y), none, none, none, none, none] rfl rfl (Nat.le_of_ble_eq_true rfl) (fun X hX => ?_)
  have hR := hO.2.2
  have hl := hO.2.1
  have hcom := fun i hi => (⟨((hw.cF hu).2.2 i hi).1, ((hw.cF hu).2.2 i hi).2.1⟩ : 2 ≤ cAt O.1.1 i 1 ∧ cAt O.1.1 i 1 ≤ 60)
  refine r_lconst (v := 1) hX dX8_alignment_0 (by decide) ?_
  refine r_lstore_n hX dX8_alignment_1 (Nat.le_of_ble_eq_true rfl) rfl ?_
  refine r_iconst (v := 0) hX dX8_alignment_2 (by decide) ?_
  refine r_istore_n hX dX8_alignment_3 (Nat.le_of_ble_eq_true rfl) rfl ?_
  refine s_X8_ali_k (g := g) (m := m) hX hO hcom O.1.1.length 0 none (by omega) (fun w z => ?_)
  refine r_aload_n hX dX8_alignment_45 rfl ?_
  refine r_aload_n hX dX8_alignment_46 rfl ?_
  refine r_getR hX dX8_alignment_47 hO.1.1.1.1 fl_X8_9 hO.1.1.2.1 ?_
  refine r_iconst (v := 0) hX dX8_alignment_50 (by decide) ?_
  refine r_ialoadN hX dX8_alignment_51 hO.1.1.1.2.1 (show 0 < 539 by decide) (by decide) ?_
  rw [hR.r0]
  refine r_if_le (tgt := 59) hX dX8_alignment_52 (by decide) (fun c52 => ?_) (fun c52 => ?_)
  · have h0 : O.1.1.length = 0 := Classical.byContradiction (fun h => nI_nle (by omega) (by omega) c52)
    refine r_iconst (v := 0) hX dX8_alignment_59 (by decide) ?_
    refine r_callV hX dX8_alignment_60 (s_X8_isFine E g m y hO.1.1 false) ml_X8_115 rfl rfl hO.1.1.1.1 rfl ⟨Nat.le_of_ble_eq_true rfl, Nat.le_of_ble_eq_true rfl⟩ ⟨Nat.le_of_ble_eq_true rfl, Nat.le_of_ble_eq_true rfl, rfl, Nat.le_of_ble_eq_true rfl⟩ (fun v60 g60 m60 hp => ?_)
    obtain ⟨hv, hg, hm⟩ := hp
    subst v60
    subst g60
    subst m60
    refine r_if_eq (tgt := 70) hX dX8_alignment_63 (by decide) (fun c63 => ?_) (fun c63 => ?_)
    · refine r_lconst (v := 0) hX dX8_alignment_70 (by decide) ?_
      exact r_lret hX dX8_alignment_71 ⟨by rw [show mAli O = (1, .null, O) from if_pos h0]; exact hO.noW (show (1 : Nat) ≠ 0 by decide) rfl, _, rfl⟩ ⟨Nat.le_of_ble_eq_true rfl, Nat.le_of_ble_eq_true rfl⟩
    · exact absurd rfl c63
  · have h0 : ¬ O.1.1.length = 0 := fun h => c52 (by rw [h]; decide)
    refine r_iconst (v := 1) hX dX8_alignment_55 (by decide) ?_
    refine r_goto (tgt := 60) hX dX8_alignment_56 (by decide) ?_
    refine r_callV hX dX8_alignment_60 (s_X8_isFine E g m y hO.1.1 true) ml_X8_115 rfl rfl hO.1.1.1.1 rfl ⟨Nat.le_of_ble_eq_true rfl, Nat.le_of_ble_eq_true rfl⟩ ⟨Nat.le_of_ble_eq_true rfl, Nat.le_of_ble_eq_true rfl, rfl, Nat.le_of_ble_eq_true rfl⟩ (fun v60 g60 m60 hp => ?_)
    obtain ⟨hv, hg, hm⟩ := hp
    subst v60
    subst g60
    subst m60
    refine r_if_eq (tgt := 70) hX dX8_alignment_63 (by decide) (fun c63 => ?_) (fun c63 => ?_)
    · exact absurd c63 (by decide)
    · refine r_lload_n hX dX8_alignment_66 rfl ?_
      refine r_goto (tgt := 71) hX dX8_alignment_67 (by decide) ?_
      exact r_lret hX dX8_alignment_71 ⟨by rw [show mAli O = (0, _, O) from if_neg h0]; exact hO.okW rfl, _, rfl⟩ ⟨Nat.le_of_ble_eq_true rfl, Nat.le_of_ble_eq_true rfl⟩
