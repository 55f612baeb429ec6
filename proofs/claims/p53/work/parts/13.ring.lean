/-! ===== CometObservatory.Ring: the ring at q, its dust at d ===== -/
def RingS (g : qG) (m : qM) (q d : Nat) : Prop := gAt g q (.inl 7) ∧ qR m q 0 = some d ∧ gAt g d (.inr (0, 12))
theorem RingS.ne {g : qG} {m : qM} {q d : Nat} (h : RingS g m q d) : q ≠ d := gAt_ne h.1 h.2.2 (by simp)
theorem RingS.to {g : qG} {m m' : qM} {q d : Nat} (h : RingS g m q d) (hm : m'.2 = m.2) : RingS g m' q d := ⟨h.1, by show m'.2.1 q 0 = _; rw [hm]; exact h.2.1, h.2.2⟩
/-- the sum of n places from a on -/
def dSum (f : Nat → Int32) (a : Nat) : Nat → Int32
  | 0 => 0
  | n + 1 => dSum f a n + f ((a + n) % 12)
theorem dSum_congr {f h : Nat → Int32} (a : Nat) (e : ∀ j, j < 12 → f j = h j) : ∀ n, dSum f a n = dSum h a n
  | 0 => rfl
  | n + 1 => by show dSum f a n + _ = dSum h a n + _; rw [dSum_congr a e n, e _ (Nat.mod_lt _ (by decide))]
set_option maxRecDepth 20000 in
set_option maxHeartbeats 4000000 in
theorem s_X4_init (E : qE) (g : qG) (m : qM) (q : Nat) (hq : gAt g q (.inl 7)) (hl : q < g.2) : Sp E yX4_init cX4_init 1 none 1 1 12 [.ref q] g m (fun v g' m' => v = none ∧ g' = gNew g (.inr (0, 12)) ∧ m' = wR (wZ m g.2) q 0 (some g.2)) := by
  refine Sp.of (by decide) [some (.ref q)] rfl rfl (Nat.le_of_ble_eq_true rfl) (fun X hX => ?_)
  refine r_aload_n hX dX4_init_0 rfl ?_
  refine r_objInit hX dX4_init_1 mo_X4_3 ⟨Nat.le_of_ble_eq_true rfl, rfl, Nat.le_of_ble_eq_true rfl⟩ ?_
  refine r_aload_n hX dX4_init_4 rfl ?_
  refine r_bipush (v := 12) hX dX4_init_5 (by decide) ?_
  refine r_newa (t := 0) (n := 12) hX dX4_init_7 ⟨List.mem_of_getElem? (i := 124) (by decide +kernel), by decide +kernel⟩ ⟨by decide, rfl⟩ ⟨by decide, by decide, by decide⟩ (Nat.le_of_ble_eq_true rfl) (Nat.le_of_ble_eq_true rfl) ?_
  refine r_putFR hX dX4_init_9 (gNew_old hq hl) ff_X4_9 rfl rfl rfl ?_
  exact r_vret hX dX4_init_12 ⟨rfl, rfl, rfl⟩ ⟨Nat.le_of_ble_eq_true rfl, Nat.le_of_ble_eq_true rfl⟩
set_option maxRecDepth 20000 in
set_option maxHeartbeats 4000000 in
theorem s_X4_dustOf_l {E : qE} {X : qX} {Q : State → Prop} {g : qG} {m : qM} (hX : MC E yX4_dustOf cX4_dustOf 5 (some .int) 1 0 0 [] X) {q d a b : Nat} (hs : RingS g m q d) (ha : a < 12) (hb : b ≤ 12) : ∀ (n i : Nat), i + n = b → (∀ j : Int32, WS E X 0 0 Q g m 34 [some (.ref q), some (.int (nI a)), some (.int (nI b)), some (.int (dSum (fun j => qI m d j) a b)), some (.int j)] []) → WS E X 0 0 Q g m 5 [some (.ref q), some (.int (nI a)), some (.int (nI b)), some (.int (dSum (fun j => qI m d j) a i)), some (.int (nI i))] [] := by
  intro n
  induction n with
  | zero =>
    intro i hi K
    have hib : i = b := by omega
    subst hib
    refine r_iload hX dX4_dustOf_5 rfl ?_
    refine r_iload_n hX dX4_dustOf_7 rfl ?_
    refine r_icmp_ge (tgt := 34) hX dX4_dustOf_8 (by decide) (fun c8 => ?_) (fun c8 => ?_)
    · exact K _
    · exact absurd (nI_le (Nat.le_refl _) (by omega)) c8
  | succ n ih =>
    intro i hi K
    refine r_iload hX dX4_dustOf_5 rfl ?_
    refine r_iload_n hX dX4_dustOf_7 rfl ?_
    refine r_icmp_ge (tgt := 34) hX dX4_dustOf_8 (by decide) (fun c8 => ?_) (fun c8 => ?_)
    · exact absurd c8 (nI_ge (by omega) (by omega))
    · refine r_iload_n hX dX4_dustOf_11 rfl ?_
      refine r_aload_n hX dX4_dustOf_12 rfl ?_
      refine r_getR hX dX4_dustOf_13 hs.1 fl_X4_9 hs.2.1 ?_
      refine r_iload_n hX dX4_dustOf_16 rfl ?_
      refine r_iload hX dX4_dustOf_17 rfl ?_
      refine r_iadd hX dX4_dustOf_19 ?_
      refine r_bipush (v := 12) hX dX4_dustOf_20 (by decide) ?_
      refine r_callS hX dX4_dustOf_22 (s_floorMod E g m (nI a + nI i) 12 (by decide)) ml_X4_22 rfl rfl ⟨Nat.le_of_ble_eq_true rfl, Nat.le_of_ble_eq_true rfl⟩ ⟨Nat.le_of_ble_eq_true rfl, Nat.le_of_ble_eq_true rfl, rfl, Nat.le_of_ble_eq_true rfl⟩ (fun v22 g22 m22 hp => ?_)
      obtain ⟨hv, hg, hm⟩ := hp
      subst v22
      subst g22
      subst m22
      rw [fmd12 (by omega)]
      refine r_ialoadN hX dX4_dustOf_25 hs.2.2 (Nat.mod_lt _ (by decide)) (by decide) ?_
      refine r_iadd hX dX4_dustOf_26 ?_
      refine r_istore_n hX dX4_dustOf_27 (Nat.le_of_ble_eq_true rfl) rfl ?_
      refine r_iinc (v := nI (i + 1)) hX dX4_dustOf_28 rfl (ii1 i) rfl ?_
      refine r_goto (tgt := 5) hX dX4_dustOf_31 (by decide) ?_
      exact ih (i + 1) (by omega) K
set_option maxRecDepth 20000 in
set_option maxHeartbeats 4000000 in
theorem s_X4_dustOf (E : qE) (g : qG) (m : qM) (q d a b : Nat) (hs : RingS g m q d) (ha : a < 12) (hb : b ≤ 12) : Sp E yX4_dustOf cX4_dustOf 5 (some .int) 1 0 0 [.ref q, .int (nI a), .int (nI b)] g m (fun v g' m' => v = some (.int (dSum (fun j => qI m d j) a b)) ∧ g' = g ∧ m' = m) := by
  refine Sp.of (by decide) [some (.ref q), some (.int (nI a)), some (.int (nI b)), none, none] rfl rfl (Nat.le_of_ble_eq_true rfl) (fun X hX => ?_)
  refine r_iconst (v := 0) hX dX4_dustOf_0 (by decide) ?_
  refine r_istore_n hX dX4_dustOf_1 (Nat.le_of_ble_eq_true rfl) rfl ?_
  refine r_iconst (v := 0) hX dX4_dustOf_2 (by decide) ?_
  refine r_istore hX dX4_dustOf_3 (Nat.le_of_ble_eq_true rfl) rfl ?_
  refine s_X4_dustOf_l hX hs ha hb b 0 (Nat.zero_add b) (fun j => ?_)
  refine r_iload_n hX dX4_dustOf_34 rfl ?_
  exact r_iret hX dX4_dustOf_35 ⟨rfl, rfl, rfl⟩ ⟨Nat.le_of_ble_eq_true rfl, Nat.le_of_ble_eq_true rfl⟩
set_option maxRecDepth 20000 in
set_option maxHeartbeats 4000000 in
theorem s_X4_gainOf (E : qE) (g : qG) (m : qM) (q d a b : Nat) (r : Int32) (hs : RingS g m q d) (ha : a < 12) (hb : b ≤ 12) : Sp E yX4_gainOf cX4_gainOf 4 (some .int) 2 0 0 [.ref q, .int (nI a), .int (nI b), .int r] g m (fun v g' m' => v = some (.int (dSum (fun j => qI m d j) a b - r * nI b)) ∧ g' = g ∧ m' = m) := by
  refine Sp.of (by decide) [some (.ref q), some (.int (nI a)), some (.int (nI b)), some (.int r)] rfl rfl (Nat.le_of_ble_eq_true rfl) (fun X hX => ?_)
  refine r_aload_n hX dX4_gainOf_0 rfl ?_
  refine r_iload_n hX dX4_gainOf_1 rfl ?_
  refine r_iload_n hX dX4_gainOf_2 rfl ?_
  refine r_callV hX dX4_gainOf_3 (s_X4_dustOf E g m q d a b hs ha hb) ml_X4_28 rfl rfl hs.1 rfl ⟨Nat.le_of_ble_eq_true rfl, Nat.le_of_ble_eq_true rfl⟩ ⟨Nat.le_of_ble_eq_true rfl, Nat.le_of_ble_eq_true rfl, rfl, Nat.le_of_ble_eq_true rfl⟩ (fun v3 g3 m3 hp => ?_)
  obtain ⟨hv, hg, hm⟩ := hp
  subst v3
  subst g3
  subst m3
  refine r_iload_n hX dX4_gainOf_6 rfl ?_
  refine r_iload_n hX dX4_gainOf_7 rfl ?_
  refine r_imul hX dX4_gainOf_8 ?_
  refine r_isub hX dX4_gainOf_9 ?_
  exact r_iret hX dX4_gainOf_10 ⟨rfl, rfl, rfl⟩ ⟨Nat.le_of_ble_eq_true rfl, Nat.le_of_ble_eq_true rfl⟩
set_option maxRecDepth 20000 in
set_option maxHeartbeats 4000000 in
theorem s_X4_receive (E : qE) (g : qG) (m : qM) (q d a : Nat) (x : Int32) (hs : RingS g m q d) (ha : a < 2 ^ 31) : Sp E yX4_receive cX4_receive 3 none 1 0 0 [.ref q, .int (nI a), .int x] g m (fun v g' m' => v = none ∧ g' = g ∧ m' = wI (wI m d (a % 12) (qI m d (a % 12) + x)) q 1 (qI m q 1 + x)) := by
  refine Sp.of (by decide) [some (.ref q), some (.int (nI a)), some (.int x)] rfl rfl (Nat.le_of_ble_eq_true rfl) (fun X hX => ?_)
  refine r_aload_n hX dX4_receive_0 rfl ?_
  refine r_getR hX dX4_receive_1 hs.1 fl_X4_9 hs.2.1 ?_
  refine r_iload_n hX dX4_receive_4 rfl ?_
  refine r_bipush (v := 12) hX dX4_receive_5 (by decide) ?_
  refine r_callS hX dX4_receive_7 (s_floorMod E g m (nI a) 12 (by decide)) ml_X4_22 rfl rfl ⟨Nat.le_of_ble_eq_true rfl, Nat.le_of_ble_eq_true rfl⟩ ⟨Nat.le_of_ble_eq_true rfl, Nat.le_of_ble_eq_true rfl, rfl, Nat.le_of_ble_eq_true rfl⟩ (fun v7 g7 m7 hp => ?_)
  obtain ⟨hv, hg, hm⟩ := hp
  subst v7
  subst g7
  subst m7
  rw [fmd12' (by omega)]
  refine r_dup2 hX dX4_receive_10 rfl rfl ?_
  refine r_ialoadN hX dX4_receive_11 hs.2.2 (Nat.mod_lt _ (by decide)) (by decide) ?_
  refine r_iload_n hX dX4_receive_12 rfl ?_
  refine r_iadd hX dX4_receive_13 ?_
  refine r_iastoreN hX dX4_receive_14 hs.2.2 (Nat.mod_lt _ (by decide)) (by decide) ?_
  refine r_aload_n hX dX4_receive_15 rfl ?_
  refine r_dup hX dX4_receive_16 rfl ?_
  refine r_getI hX dX4_receive_17 hs.1 fl_X4_15 ?_
  refine r_iload_n hX dX4_receive_20 rfl ?_
  refine r_iadd hX dX4_receive_21 ?_
  refine r_putI hX dX4_receive_22 hs.1 fl_X4_15 ?_
  exact r_vret hX dX4_receive_25 ⟨rfl, rfl, by rw [qI_wI_a _ _ _ _ hs.ne]⟩ ⟨Nat.le_of_ble_eq_true rfl, Nat.le_of_ble_eq_true rfl⟩
def dustyN (f : Nat → Int32) : Nat → Nat
  | 0 => 0
  | n + 1 => if f n ≤ 0 then dustyN f n else dustyN f n + 1
theorem dustyN_le (f : Nat → Int32) : ∀ n, dustyN f n ≤ n
  | 0 => Nat.le_refl 0
  | n + 1 => by have := dustyN_le f n; unfold dustyN; split <;> omega
set_option maxRecDepth 20000 in
set_option maxHeartbeats 4000000 in
theorem s_X4_dustyPlaces_l {E : qE} {X : qX} {Q : State → Prop} {g : qG} {m : qM} (hX : MC E yX4_dustyPlaces cX4_dustyPlaces 3 (some .int) 0 0 0 [] X) {q d : Nat} (hs : RingS g m q d) : ∀ (n i : Nat), i + n = 12 → (∀ j : Int32, WS E X 0 0 Q g m 28 [some (.ref q), some (.int (nI (dustyN (fun j => qI m d j) 12))), some (.int j)] []) → WS E X 0 0 Q g m 4 [some (.ref q), some (.int (nI (dustyN (fun j => qI m d j) i))), some (.int (nI i))] [] := by
  intro n
  induction n with
  | zero =>
    intro i hi K
    have hib : i = 12 := by omega
    subst hib
    refine r_iload_n hX dX4_dustyPlaces_4 rfl ?_
    refine r_bipush (v := 12) hX dX4_dustyPlaces_5 (by decide) ?_
    refine r_icmp_ge (tgt := 28) hX dX4_dustyPlaces_7 (by decide) (fun c7 => ?_) (fun c7 => ?_)
    · exact K _
    · exact absurd (by decide) c7
  | succ n ih =>
    intro i hi K
    have hd := ih (i + 1) (by omega) K
    unfold dustyN at hd
    refine r_iload_n hX dX4_dustyPlaces_4 rfl ?_
    refine r_bipush (v := 12) hX dX4_dustyPlaces_5 (by decide) ?_
    refine r_icmp_ge (tgt := 28) hX dX4_dustyPlaces_7 (by decide) (fun c7 => ?_) (fun c7 => ?_)
    · exact absurd c7 (nI_ge (b := 12) (by omega) (by decide))
    · refine r_aload_n hX dX4_dustyPlaces_10 rfl ?_
      refine r_getR hX dX4_dustyPlaces_11 hs.1 fl_X4_9 hs.2.1 ?_
      refine r_iload_n hX dX4_dustyPlaces_14 rfl ?_
      refine r_ialoadN hX dX4_dustyPlaces_15 hs.2.2 (by omega) (by decide) ?_
      refine r_if_le (tgt := 22) hX dX4_dustyPlaces_16 (by decide) (fun c16 => ?_) (fun c16 => ?_)
      · refine r_iinc (v := nI (i + 1)) hX dX4_dustyPlaces_22 rfl (ii1 i) rfl ?_
        refine r_goto (tgt := 4) hX dX4_dustyPlaces_25 (by decide) ?_
        rw [if_pos c16] at hd
        exact hd
      · refine r_iinc (v := nI (dustyN (fun j => qI m d j) i + 1)) hX dX4_dustyPlaces_19 rfl (ii1 _) rfl ?_
        refine r_iinc (v := nI (i + 1)) hX dX4_dustyPlaces_22 rfl (ii1 i) rfl ?_
        refine r_goto (tgt := 4) hX dX4_dustyPlaces_25 (by decide) ?_
        rw [if_neg c16] at hd
        exact hd
set_option maxRecDepth 20000 in
set_option maxHeartbeats 4000000 in
theorem s_X4_dustyPlaces (E : qE) (g : qG) (m : qM) (q d : Nat) (hs : RingS g m q d) : Sp E yX4_dustyPlaces cX4_dustyPlaces 3 (some .int) 0 0 0 [.ref q] g m (fun v g' m' => v = some (.int (nI (dustyN (fun j => qI m d j) 12))) ∧ g' = g ∧ m' = m) := by
  refine Sp.of (by decide) [some (.ref q), none, none] rfl rfl (Nat.le_of_ble_eq_true rfl) (fun X hX => ?_)
  refine r_iconst (v := 0) hX dX4_dustyPlaces_0 (by decide) ?_
  refine r_istore_n hX dX4_dustyPlaces_1 (Nat.le_of_ble_eq_true rfl) rfl ?_
  refine r_iconst (v := 0) hX dX4_dustyPlaces_2 (by decide) ?_
  refine r_istore_n hX dX4_dustyPlaces_3 (Nat.le_of_ble_eq_true rfl) rfl ?_
  refine s_X4_dustyPlaces_l hX hs 12 0 rfl (fun j => ?_)
  refine r_iload_n hX dX4_dustyPlaces_28 rfl ?_
  exact r_iret hX dX4_dustyPlaces_29 ⟨rfl, rfl, rfl⟩ ⟨Nat.le_of_ble_eq_true rfl, Nat.le_of_ble_eq_true rfl⟩
def mx (x y1 : Int32) : Int32 := if x < y1 then y1 else x
def mn (x y1 : Int32) : Int32 := if y1 < x then y1 else x
abbrev kT : Type := Int32 × Int32 × Int32 × Int32 × Int32
def kadS (x : Int32) (s : kT) : kT := (s.1 + x, mx s.2.1 0 + x, mx s.2.2.1 (mx s.2.1 0 + x), mn s.2.2.2.1 0 + x, mn s.2.2.2.2 (mn s.2.2.2.1 0 + x))
def kad (f : Nat → Int32) (r : Int32) : Nat → kT
  | 0 => (f 0 - r, f 0 - r, f 0 - r, f 0 - r, f 0 - r)
  | n + 1 => kadS (f (n + 1) - r) (kad f r n)
def kadane (f : Nat → Int32) (r : Int32) : Int32 := if 0 ≤ (kad f r 11).2.2.1 then mx (kad f r 11).2.2.1 ((kad f r 11).1 - (kad f r 11).2.2.2.2) else (kad f r 11).2.2.1
set_option maxRecDepth 20000 in
set_option maxHeartbeats 4000000 in
theorem s_X4_kad_l {E : qE} {X : qX} {Q : State → Prop} {g : qG} {m : qM} (hX : MC E yX4_greatestGainByRunningSums cX4_greatestGainByRunningSums 9 (some .int) 1 0 0 [] X) {q d : Nat} {r : Int32} (hs : RingS g m q d) : ∀ (n i : Nat) (z : Option Value), i + n = 11 → (∀ (j : Int32) (z1 : Option Value), WS E X 0 0 Q g m 89 [some (.ref q), some (.int r), some (.int (kad (fun j => qI m d j) r 11).1), some (.int (kad (fun j => qI m d j) r 11).2.1), some (.int (kad (fun j => qI m d j) r 11).2.2.1), some (.int (kad (fun j => qI m d j) r 11).2.2.2.1), some (.int (kad (fun j => qI m d j) r 11).2.2.2.2), some (.int j), z1] []) → WS E X 0 0 Q g m 23 [some (.ref q), some (.int r), some (.int (kad (fun j => qI m d j) r i).1), some (.int (kad (fun j => qI m d j) r i).2.1), some (.int (kad (fun j => qI m d j) r i).2.2.1), some (.int (kad (fun j => qI m d j) r i).2.2.2.1), some (.int (kad (fun j => qI m d j) r i).2.2.2.2), some (.int (nI (i + 1))), z] [] := by
  intro n
  induction n with
  | zero =>
    intro i z hi K
    have hib : i = 11 := by omega
    subst hib
    refine r_iload hX dX4_greatestGainByRunningSums_23 rfl ?_
    refine r_bipush (v := 12) hX dX4_greatestGainByRunningSums_25 (by decide) ?_
    refine r_icmp_ge (tgt := 89) hX dX4_greatestGainByRunningSums_27 (by decide) (fun c27 => ?_) (fun c27 => ?_)
    · exact K _ _
    · exact absurd (by decide) c27
  | succ n ih =>
    intro i z hi K
    refine r_iload hX dX4_greatestGainByRunningSums_23 rfl ?_
    refine r_bipush (v := 12) hX dX4_greatestGainByRunningSums_25 (by decide) ?_
    refine r_icmp_ge (tgt := 89) hX dX4_greatestGainByRunningSums_27 (by decide) (fun c27 => ?_) (fun c27 => ?_)
    · exact absurd c27 (nI_ge (b := 12) (by omega) (by decide))
    · refine r_aload_n hX dX4_greatestGainByRunningSums_30 rfl ?_
      refine r_getR hX dX4_greatestGainByRunningSums_31 hs.1 fl_X4_9 hs.2.1 ?_
      refine r_iload hX dX4_greatestGainByRunningSums_34 rfl ?_
      refine r_ialoadN hX dX4_greatestGainByRunningSums_36 hs.2.2 (by omega) (by decide) ?_
      refine r_iload_n hX dX4_greatestGainByRunningSums_37 rfl ?_
      refine r_isub hX dX4_greatestGainByRunningSums_38 ?_
      refine r_istore hX dX4_greatestGainByRunningSums_39 (Nat.le_of_ble_eq_true rfl) rfl ?_
      refine r_iload_n hX dX4_greatestGainByRunningSums_41 rfl ?_
      refine r_iload hX dX4_greatestGainByRunningSums_42 rfl ?_
      refine r_iadd hX dX4_greatestGainByRunningSums_44 ?_
      refine r_istore_n hX dX4_greatestGainByRunningSums_45 (Nat.le_of_ble_eq_true rfl) rfl ?_
      refine r_iload_n hX dX4_greatestGainByRunningSums_46 rfl ?_
      refine r_iconst (v := 0) hX dX4_greatestGainByRunningSums_47 (by decide) ?_
      refine r_mmax hX dX4_greatestGainByRunningSums_48 mm_X4_31 ⟨Nat.le_of_ble_eq_true rfl, rfl, Nat.le_of_ble_eq_true rfl⟩ ⟨Nat.le_of_ble_eq_true rfl, Nat.le_of_ble_eq_true rfl⟩ ?_
      refine r_iload hX dX4_greatestGainByRunningSums_51 rfl ?_
      refine r_iadd hX dX4_greatestGainByRunningSums_53 ?_
      refine r_istore_n hX dX4_greatestGainByRunningSums_54 (Nat.le_of_ble_eq_true rfl) rfl ?_
      refine r_iload hX dX4_greatestGainByRunningSums_55 rfl ?_
      refine r_iload_n hX dX4_greatestGainByRunningSums_57 rfl ?_
      refine r_mmax hX dX4_greatestGainByRunningSums_58 mm_X4_31 ⟨Nat.le_of_ble_eq_true rfl, rfl, Nat.le_of_ble_eq_true rfl⟩ ⟨Nat.le_of_ble_eq_true rfl, Nat.le_of_ble_eq_true rfl⟩ ?_
      refine r_istore hX dX4_greatestGainByRunningSums_61 (Nat.le_of_ble_eq_true rfl) rfl ?_
      refine r_iload hX dX4_greatestGainByRunningSums_63 rfl ?_
      refine r_iconst (v := 0) hX dX4_greatestGainByRunningSums_65 (by decide) ?_
      refine r_mmin hX dX4_greatestGainByRunningSums_66 mm_X4_34 ⟨Nat.le_of_ble_eq_true rfl, rfl, Nat.le_of_ble_eq_true rfl⟩ ⟨Nat.le_of_ble_eq_true rfl, Nat.le_of_ble_eq_true rfl⟩ ?_
      refine r_iload hX dX4_greatestGainByRunningSums_69 rfl ?_
      refine r_iadd hX dX4_greatestGainByRunningSums_71 ?_
      refine r_istore hX dX4_greatestGainByRunningSums_72 (Nat.le_of_ble_eq_true rfl) rfl ?_
      refine r_iload hX dX4_greatestGainByRunningSums_74 rfl ?_
      refine r_iload hX dX4_greatestGainByRunningSums_76 rfl ?_
      refine r_mmin hX dX4_greatestGainByRunningSums_78 mm_X4_34 ⟨Nat.le_of_ble_eq_true rfl, rfl, Nat.le_of_ble_eq_true rfl⟩ ⟨Nat.le_of_ble_eq_true rfl, Nat.le_of_ble_eq_true rfl⟩ ?_
      refine r_istore hX dX4_greatestGainByRunningSums_81 (Nat.le_of_ble_eq_true rfl) rfl ?_
      refine r_iinc (v := nI (i + 1 + 1)) hX dX4_greatestGainByRunningSums_83 rfl (ii1 _) rfl ?_
      refine r_goto (tgt := 23) hX dX4_greatestGainByRunningSums_86 (by decide) ?_
      exact ih (i + 1) _ (by omega) K
set_option maxRecDepth 20000 in
set_option maxHeartbeats 4000000 in
theorem s_X4_kadane (E : qE) (g : qG) (m : qM) (q d : Nat) (r : Int32) (hs : RingS g m q d) : Sp E yX4_greatestGainByRunningSums cX4_greatestGainByRunningSums 9 (some .int) 1 0 0 [.ref q, .int r] g m (fun v g' m' => v = some (.int (kadane (fun j => qI m d j) r)) ∧ g' = g ∧ m' = m) := by
  refine Sp.of (by decide) [some (.ref q), some (.int r), none, none, none, none, none, none, none] rfl rfl (Nat.le_of_ble_eq_true rfl) (fun X hX => ?_)
  refine r_aload_n hX dX4_greatestGainByRunningSums_0 rfl ?_
  refine r_getR hX dX4_greatestGainByRunningSums_1 hs.1 fl_X4_9 hs.2.1 ?_
  refine r_iconst (v := 0) hX dX4_greatestGainByRunningSums_4 (by decide) ?_
  refine r_iaload hX dX4_greatestGainByRunningSums_5 hs.2.2 (by unfold vp_in; decide) ?_
  refine r_iload_n hX dX4_greatestGainByRunningSums_6 rfl ?_
  refine r_isub hX dX4_greatestGainByRunningSums_7 ?_
  refine r_istore_n hX dX4_greatestGainByRunningSums_8 (Nat.le_of_ble_eq_true rfl) rfl ?_
  refine r_iload_n hX dX4_greatestGainByRunningSums_9 rfl ?_
  refine r_istore_n hX dX4_greatestGainByRunningSums_10 (Nat.le_of_ble_eq_true rfl) rfl ?_
  refine r_iload_n hX dX4_greatestGainByRunningSums_11 rfl ?_
  refine r_istore hX dX4_greatestGainByRunningSums_12 (Nat.le_of_ble_eq_true rfl) rfl ?_
  refine r_iload_n hX dX4_greatestGainByRunningSums_14 rfl ?_
  refine r_istore hX dX4_greatestGainByRunningSums_15 (Nat.le_of_ble_eq_true rfl) rfl ?_
  refine r_iload_n hX dX4_greatestGainByRunningSums_17 rfl ?_
  refine r_istore hX dX4_greatestGainByRunningSums_18 (Nat.le_of_ble_eq_true rfl) rfl ?_
  refine r_iconst (v := 1) hX dX4_greatestGainByRunningSums_20 (by decide) ?_
  refine r_istore hX dX4_greatestGainByRunningSums_21 (Nat.le_of_ble_eq_true rfl) rfl ?_
  refine s_X4_kad_l hX hs 11 0 none rfl (fun j z1 => ?_)
  refine r_iload hX dX4_greatestGainByRunningSums_89 rfl ?_
  refine r_if_ge (tgt := 99) hX dX4_greatestGainByRunningSums_91 (by decide) (fun c91 => ?_) (fun c91 => ?_)
  · refine r_iload hX dX4_greatestGainByRunningSums_99 rfl ?_
    refine r_iload_n hX dX4_greatestGainByRunningSums_101 rfl ?_
    refine r_iload hX dX4_greatestGainByRunningSums_102 rfl ?_
    refine r_isub hX dX4_greatestGainByRunningSums_104 ?_
    refine r_mmax hX dX4_greatestGainByRunningSums_105 mm_X4_31 ⟨Nat.le_of_ble_eq_true rfl, rfl, Nat.le_of_ble_eq_true rfl⟩ ⟨Nat.le_of_ble_eq_true rfl, Nat.le_of_ble_eq_true rfl⟩ ?_
    exact r_iret hX dX4_greatestGainByRunningSums_108 ⟨by unfold kadane; rw [if_pos c91]; rfl, rfl, rfl⟩ ⟨Nat.le_of_ble_eq_true rfl, Nat.le_of_ble_eq_true rfl⟩
  · refine r_iload hX dX4_greatestGainByRunningSums_94 rfl ?_
    refine r_goto (tgt := 108) hX dX4_greatestGainByRunningSums_96 (by decide) ?_
    exact r_iret hX dX4_greatestGainByRunningSums_108 ⟨by unfold kadane; rw [if_neg c91], rfl, rfl⟩ ⟨Nat.le_of_ble_eq_true rfl, Nat.le_of_ble_eq_true rfl⟩
set_option maxRecDepth 20000 in
set_option maxHeartbeats 4000000 in
theorem s_X4_copyFrom_l {E : qE} {X : qX} {Q : State → Prop} {g : qG} {m : qM} (hX : MC E yX4_copyFrom cX4_copyFrom 3 none 0 0 0 [] X) {q d q2 d2 : Nat} (hs : RingS g m q d) (hs2 : RingS g m q2 d2) (hne : d ≠ d2) : ∀ (n i : Nat) (m1 : qM), i + n = 12 → ((∀ c j, qI m1 c j = if c = d ∧ j < i then qI m d2 j else qI m c j) ∧ m1.2 = m.2) → (∀ (j : Int32) (m2 : qM), ((∀ c j, qI m2 c j = if c = d ∧ j < 12 then qI m d2 j else qI m c j) ∧ m2.2 = m.2) → WS E X 0 0 Q g m2 26 [some (.ref q), some (.ref q2), some (.int j)] []) → WS E X 0 0 Q g m1 2 [some (.ref q), some (.ref q2), some (.int (nI i))] [] := by
  intro n
  induction n with
  | zero =>
    intro i m1 hi hm1 K
    have hib : i = 12 := by omega
    subst hib
    refine r_iload_n hX dX4_copyFrom_2 rfl ?_
    refine r_bipush (v := 12) hX dX4_copyFrom_3 (by decide) ?_
    refine r_icmp_ge (tgt := 26) hX dX4_copyFrom_5 (by decide) (fun c5 => ?_) (fun c5 => ?_)
    · exact K _ _ hm1
    · exact absurd (by decide) c5
  | succ n ih =>
    intro i m1 hi hm1 K
    refine r_iload_n hX dX4_copyFrom_2 rfl ?_
    refine r_bipush (v := 12) hX dX4_copyFrom_3 (by decide) ?_
    refine r_icmp_ge (tgt := 26) hX dX4_copyFrom_5 (by decide) (fun c5 => ?_) (fun c5 => ?_)
    · exact absurd c5 (nI_ge (b := 12) (by omega) (by decide))
    · refine r_aload_n hX dX4_copyFrom_8 rfl ?_
      refine r_getR hX dX4_copyFrom_9 hs.1 fl_X4_9 (hs.to hm1.2).2.1 ?_
      refine r_iload_n hX dX4_copyFrom_12 rfl ?_
      refine r_aload_n hX dX4_copyFrom_13 rfl ?_
      refine r_getR hX dX4_copyFrom_14 hs2.1 fl_X4_9 (hs2.to hm1.2).2.1 ?_
      refine r_iload_n hX dX4_copyFrom_17 rfl ?_
      refine r_ialoadN hX dX4_copyFrom_18 hs2.2.2 (by omega) (by decide) ?_
      refine r_iastoreN hX dX4_copyFrom_19 hs.2.2 (by omega) (by decide) ?_
      refine r_iinc (v := nI (i + 1)) hX dX4_copyFrom_20 rfl (ii1 i) rfl ?_
      refine r_goto (tgt := 2) hX dX4_copyFrom_23 (by decide) ?_
      refine ih (i + 1) _ (by omega) ⟨fun c j => ?_, hm1.2⟩ K
      simp only [qI_wI, hm1.1]
      grind
set_option maxRecDepth 20000 in
set_option maxHeartbeats 4000000 in
theorem s_X4_copyFrom (E : qE) (g : qG) (m : qM) (q d q2 d2 : Nat) (hs : RingS g m q d) (hs2 : RingS g m q2 d2) (hne : d ≠ d2) (hqq : q ≠ q2) : Sp E yX4_copyFrom cX4_copyFrom 3 none 0 0 0 [.ref q, .ref q2] g m (fun v g' m' => v = none ∧ g' = g ∧ (∀ c j, qI m' c j = if c = d ∧ j < 12 then qI m d2 j else if c = q ∧ (j = 1 ∨ j = 2) then qI m q2 j else qI m c j) ∧ m'.2 = m.2) := by
  refine Sp.of (by decide) [some (.ref q), some (.ref q2), none] rfl rfl (Nat.le_of_ble_eq_true rfl) (fun X hX => ?_)
  refine r_iconst (v := 0) hX dX4_copyFrom_0 (by decide) ?_
  refine r_istore_n hX dX4_copyFrom_1 (Nat.le_of_ble_eq_true rfl) rfl ?_
  refine s_X4_copyFrom_l hX hs hs2 hne 12 0 m rfl ⟨fun c j => by rw [if_neg (fun h => absurd h.2 (Nat.not_lt_zero _))], rfl⟩ (fun j m1 hm1 => ?_)
  refine r_aload_n hX dX4_copyFrom_26 rfl ?_
  refine r_aload_n hX dX4_copyFrom_27 rfl ?_
  refine r_getI hX dX4_copyFrom_28 hs2.1 fl_X4_15 ?_
  refine r_putI hX dX4_copyFrom_31 hs.1 fl_X4_15 ?_
  refine r_aload_n hX dX4_copyFrom_34 rfl ?_
  refine r_aload_n hX dX4_copyFrom_35 rfl ?_
  refine r_getI hX dX4_copyFrom_36 hs2.1 fl_X4_19 ?_
  refine r_putI hX dX4_copyFrom_39 hs.1 fl_X4_19 ?_
  refine r_vret hX dX4_copyFrom_42 ⟨rfl, rfl, ?_, hm1.2⟩ ⟨Nat.le_of_ble_eq_true rfl, Nat.le_of_ble_eq_true rfl⟩
  have h1 := hs.ne
  have h2 := hs2.ne
  have h3 := gAt_ne hs2.1 hs.2.2 (by simp)
  intro c j
  simp only [qI_wI, hm1.1]
  grind
/-- whether place j lies in the n places from a on -/
def inArc (a n j : Nat) : Bool := (List.range n).any (fun i => (a + i) % 12 == j)
theorem inArc_0 (a j : Nat) : inArc a 0 j = false := rfl
theorem inArc_s (a n j : Nat) : inArc a (n + 1) j = (inArc a n j || ((a + n) % 12 == j)) := by
  unfold inArc
  rw [List.range_succ, List.any_append]
  simp
set_option maxRecDepth 20000 in
set_option maxHeartbeats 4000000 in
theorem s_X4_empty_l {E : qE} {X : qX} {Q : State → Prop} {g : qG} {m : qM} (hX : MC E yX4_empty cX4_empty 5 (some .int) 2 0 0 [] X) {q d a b : Nat} {x : Int32} (hs : RingS g m q d) (ha : a < 12) (hb : b ≤ 12) : ∀ (n i : Nat) (m1 : qM), i + n = b → ((∀ c j, qI m1 c j = if c = d ∧ inArc a i j = true then 0 else qI m c j) ∧ m1.2 = m.2) → (∀ (j : Int32) (m2 : qM), ((∀ c j, qI m2 c j = if c = d ∧ inArc a b j = true then 0 else qI m c j) ∧ m2.2 = m.2) → WS E X 0 0 Q g m2 37 [some (.ref q), some (.int (nI a)), some (.int (nI b)), some (.int x), some (.int j)] []) → WS E X 0 0 Q g m1 10 [some (.ref q), some (.int (nI a)), some (.int (nI b)), some (.int x), some (.int (nI i))] [] := by
  intro n
  induction n with
  | zero =>
    intro i m1 hi hm1 K
    have hib : i = b := by omega
    subst hib
    refine r_iload hX dX4_empty_10 rfl ?_
    refine r_iload_n hX dX4_empty_12 rfl ?_
    refine r_icmp_ge (tgt := 37) hX dX4_empty_13 (by decide) (fun c13 => ?_) (fun c13 => ?_)
    · exact K _ _ hm1
    · exact absurd (nI_le (Nat.le_refl _) (by omega)) c13
  | succ n ih =>
    intro i m1 hi hm1 K
    refine r_iload hX dX4_empty_10 rfl ?_
    refine r_iload_n hX dX4_empty_12 rfl ?_
    refine r_icmp_ge (tgt := 37) hX dX4_empty_13 (by decide) (fun c13 => ?_) (fun c13 => ?_)
    · exact absurd c13 (nI_ge (by omega) (by omega))
    · refine r_aload_n hX dX4_empty_16 rfl ?_
      refine r_getR hX dX4_empty_17 hs.1 fl_X4_9 (hs.to hm1.2).2.1 ?_
      refine r_iload_n hX dX4_empty_20 rfl ?_
      refine r_iload hX dX4_empty_21 rfl ?_
      refine r_iadd hX dX4_empty_23 ?_
      refine r_bipush (v := 12) hX dX4_empty_24 (by decide) ?_
      refine r_callS hX dX4_empty_26 (s_floorMod E g m1 (nI a + nI i) 12 (by decide)) ml_X4_22 rfl rfl ⟨Nat.le_of_ble_eq_true rfl, Nat.le_of_ble_eq_true rfl⟩ ⟨Nat.le_of_ble_eq_true rfl, Nat.le_of_ble_eq_true rfl, rfl, Nat.le_of_ble_eq_true rfl⟩ (fun v26 g26 m26 hp => ?_)
      obtain ⟨hv, hg, hm⟩ := hp
      subst v26
      subst g26
      subst m26
      rw [fmd12 (by omega)]
      refine r_iconst (v := 0) hX dX4_empty_29 (by decide) ?_
      refine r_iastoreN hX dX4_empty_30 hs.2.2 (Nat.mod_lt _ (by decide)) (by decide) ?_
      refine r_iinc (v := nI (i + 1)) hX dX4_empty_31 rfl (ii1 i) rfl ?_
      refine r_goto (tgt := 10) hX dX4_empty_34 (by decide) ?_
      refine ih (i + 1) _ (by omega) ⟨fun c j => ?_, hm1.2⟩ K
      simp only [qI_wI, hm1.1, inArc_s, Bool.or_eq_true, beq_iff_eq]
      grind
set_option maxRecDepth 20000 in
set_option maxHeartbeats 4000000 in
theorem s_X4_empty (E : qE) (g : qG) (m : qM) (q d a b : Nat) (hs : RingS g m q d) (ha : a < 12) (hb : b ≤ 12) : Sp E yX4_empty cX4_empty 5 (some .int) 2 0 0 [.ref q, .int (nI a), .int (nI b)] g m (fun v g' m' => v = some (.int (dSum (fun j => qI m d j) a b)) ∧ g' = g ∧ (∀ c j, qI m' c j = if c = d ∧ inArc a b j = true then 0 else if c = q ∧ j = 2 then qI m q 2 + dSum (fun j => qI m d j) a b else qI m c j) ∧ m'.2 = m.2) := by
  refine Sp.of (by decide) [some (.ref q), some (.int (nI a)), some (.int (nI b)), none, none] rfl rfl (Nat.le_of_ble_eq_true rfl) (fun X hX => ?_)
  refine r_aload_n hX dX4_empty_0 rfl ?_
  refine r_iload_n hX dX4_empty_1 rfl ?_
  refine r_iload_n hX dX4_empty_2 rfl ?_
  refine r_callV hX dX4_empty_3 (s_X4_dustOf E g m q d a b hs ha hb) ml_X4_28 rfl rfl hs.1 rfl ⟨Nat.le_of_ble_eq_true rfl, Nat.le_of_ble_eq_true rfl⟩ ⟨Nat.le_of_ble_eq_true rfl, Nat.le_of_ble_eq_true rfl, rfl, Nat.le_of_ble_eq_true rfl⟩ (fun v3 g3 m3 hp => ?_)
  obtain ⟨hv, hg, hm⟩ := hp
  subst v3
  subst g3
  subst m3
  refine r_istore_n hX dX4_empty_6 (Nat.le_of_ble_eq_true rfl) rfl ?_
  refine r_iconst (v := 0) hX dX4_empty_7 (by decide) ?_
  refine r_istore hX dX4_empty_8 (Nat.le_of_ble_eq_true rfl) rfl ?_
  refine s_X4_empty_l hX hs ha hb b 0 m (Nat.zero_add b) ⟨fun c j => by rw [inArc_0]; simp, rfl⟩ (fun j m1 hm1 => ?_)
  refine r_aload_n hX dX4_empty_37 rfl ?_
  refine r_dup hX dX4_empty_38 rfl ?_
  refine r_getI hX dX4_empty_39 hs.1 fl_X4_19 ?_
  refine r_iload_n hX dX4_empty_42 rfl ?_
  refine r_iadd hX dX4_empty_43 ?_
  refine r_putI hX dX4_empty_44 hs.1 fl_X4_19 ?_
  refine r_iload_n hX dX4_empty_47 rfl ?_
  refine r_iret hX dX4_empty_48 ⟨rfl, rfl, ?_, hm1.2⟩ ⟨Nat.le_of_ble_eq_true rfl, Nat.le_of_ble_eq_true rfl⟩
  have h1 := hs.ne
  intro c j
  simp only [qI_wI, hm1.1]
  grind
/-- the best arc among the first k, by places, then by starts: gain, start, places -/
def bst (f : Nat → Int32) (r : Int32) : Nat → Int32 × Nat × Nat
  | 0 => (dSum f 0 1 - r * nI 1, 0, 1)
  | k + 1 => if dSum f (k % 12) (k / 12 + 1) - r * nI (k / 12 + 1) ≤ (bst f r k).1 then bst f r k else (dSum f (k % 12) (k / 12 + 1) - r * nI (k / 12 + 1), k % 12, k / 12 + 1)
theorem bst_s (f : Nat → Int32) (r : Int32) (k : Nat) : bst f r (k + 1) = if dSum f (k % 12) (k / 12 + 1) - r * nI (k / 12 + 1) ≤ (bst f r k).1 then bst f r k else (dSum f (k % 12) (k / 12 + 1) - r * nI (k / 12 + 1), k % 12, k / 12 + 1) := rfl
theorem bst_0 (f : Nat → Int32) (r : Int32) : bst f r 0 = (dSum f 0 1 - r * nI 1, 0, 1) := rfl
def n144 : Nat := 144
set_option maxRecDepth 20000 in
set_option maxHeartbeats 4000000 in
theorem s_X4_seek_i {E : qE} {X : qX} {Q : State → Prop} {g : qG} {m : qM} (hX : MC E yX4_seekBestArc cX4_seekBestArc 5 none 3 0 0 [] X) {q d p9 : Nat} {r : Int32} (hs : RingS g m q d) (hp : 1 ≤ p9 ∧ p9 ≤ 12) : ∀ (n i : Nat) (m1 : qM) (z : Option Value), i + n = 12 → (qI m1 q 3 = (bst (fun j => qI m d j) r ((p9 - 1) * 12 + i)).1 ∧ qI m1 q 4 = nI (bst (fun j => qI m d j) r ((p9 - 1) * 12 + i)).2.1 ∧ qI m1 q 5 = nI (bst (fun j => qI m d j) r ((p9 - 1) * 12 + i)).2.2 ∧ (∀ c j, ¬ (c = q ∧ 3 ≤ j ∧ j ≤ 5) → qI m1 c j = qI m c j) ∧ m1.2 = m.2) → (∀ (z1 z2 : Option Value) (m2 : qM), (qI m2 q 3 = (bst (fun j => qI m d j) r (p9 * 12)).1 ∧ qI m2 q 4 = nI (bst (fun j => qI m d j) r (p9 * 12)).2.1 ∧ qI m2 q 5 = nI (bst (fun j => qI m d j) r (p9 * 12)).2.2 ∧ (∀ c j, ¬ (c = q ∧ 3 ≤ j ∧ j ≤ 5) → qI m2 c j = qI m c j) ∧ m2.2 = m.2) → WS E X 0 0 Q g m2 77 [some (.ref q), some (.int r), some (.int (nI p9)), z1, z2] []) → WS E X 0 0 Q g m1 31 [some (.ref q), some (.int r), some (.int (nI p9)), some (.int (nI i)), z] [] := by
  intro n
  induction n with
  | zero =>
    intro i m1 z hi hm1 K
    have hib : i = 12 := by omega
    subst hib
    rw [show (p9 - 1) * 12 + 12 = p9 * 12 by omega] at hm1
    refine r_iload_n hX dX4_seekBestArc_31 rfl ?_
    refine r_bipush (v := 12) hX dX4_seekBestArc_32 (by decide) ?_
    refine r_icmp_ge (tgt := 77) hX dX4_seekBestArc_34 (by decide) (fun c34 => ?_) (fun c34 => ?_)
    · exact K _ _ _ hm1
    · exact absurd (by decide) c34
  | succ n ih =>
    intro i m1 z hi hm1 K
    have hk1 : ((p9 - 1) * 12 + i) % 12 = i := by omega
    have hk2 : ((p9 - 1) * 12 + i) / 12 + 1 = p9 := by omega
    have hb : bst (fun j => qI m d j) r ((p9 - 1) * 12 + (i + 1)) = if dSum (fun j => qI m d j) i p9 - r * nI p9 ≤ (bst (fun j => qI m d j) r ((p9 - 1) * 12 + i)).1 then bst (fun j => qI m d j) r ((p9 - 1) * 12 + i) else (dSum (fun j => qI m d j) i p9 - r * nI p9, i, p9) := by
      rw [show (p9 - 1) * 12 + (i + 1) = (p9 - 1) * 12 + i + 1 from rfl, bst_s, hk1, hk2]
    have hd : dSum (fun j => qI m1 d j) i p9 = dSum (fun j => qI m d j) i p9 := dSum_congr i (fun j _ => hm1.2.2.2.1 d j (fun h => hs.ne h.1.symm)) p9
    refine r_iload_n hX dX4_seekBestArc_31 rfl ?_
    refine r_bipush (v := 12) hX dX4_seekBestArc_32 (by decide) ?_
    refine r_icmp_ge (tgt := 77) hX dX4_seekBestArc_34 (by decide) (fun c34 => ?_) (fun c34 => ?_)
    · exact absurd c34 (nI_ge (b := 12) (by omega) (by decide))
    · refine r_aload_n hX dX4_seekBestArc_37 rfl ?_
      refine r_iload_n hX dX4_seekBestArc_38 rfl ?_
      refine r_iload_n hX dX4_seekBestArc_39 rfl ?_
      refine r_iload_n hX dX4_seekBestArc_40 rfl ?_
      refine r_callV hX dX4_seekBestArc_41 (s_X4_gainOf E g m1 q d i p9 r (hs.to hm1.2.2.2.2) (by omega) hp.2) ml_X4_37 rfl rfl hs.1 rfl ⟨Nat.le_of_ble_eq_true rfl, Nat.le_of_ble_eq_true rfl⟩ ⟨Nat.le_of_ble_eq_true rfl, Nat.le_of_ble_eq_true rfl, rfl, Nat.le_of_ble_eq_true rfl⟩ (fun v41 g41 m41 hp => ?_)
      obtain ⟨hv, hg, hm⟩ := hp
      subst v41
      subst g41
      subst m41
      rw [hd]
      refine r_istore hX dX4_seekBestArc_44 (Nat.le_of_ble_eq_true rfl) rfl ?_
      refine r_iload hX dX4_seekBestArc_46 rfl ?_
      refine r_aload_n hX dX4_seekBestArc_48 rfl ?_
      refine r_getI hX dX4_seekBestArc_49 hs.1 fl_X4_41 ?_
      rw [hm1.1]
      refine r_icmp_le (tgt := 71) hX dX4_seekBestArc_52 (by decide) (fun c52 => ?_) (fun c52 => ?_)
      · refine r_iinc (v := nI (i + 1)) hX dX4_seekBestArc_71 rfl (ii1 i) rfl ?_
        refine r_goto (tgt := 31) hX dX4_seekBestArc_74 (by decide) ?_
        exact ih (i + 1) _ _ (by omega) (by rw [hb, if_pos c52]; exact hm1) K
      · refine r_aload_n hX dX4_seekBestArc_55 rfl ?_
        refine r_iload hX dX4_seekBestArc_56 rfl ?_
        refine r_putI hX dX4_seekBestArc_58 hs.1 fl_X4_41 ?_
        refine r_aload_n hX dX4_seekBestArc_61 rfl ?_
        refine r_iload_n hX dX4_seekBestArc_62 rfl ?_
        refine r_putI hX dX4_seekBestArc_63 hs.1 fl_X4_44 ?_
        refine r_aload_n hX dX4_seekBestArc_66 rfl ?_
        refine r_iload_n hX dX4_seekBestArc_67 rfl ?_
        refine r_putI hX dX4_seekBestArc_68 hs.1 fl_X4_47 ?_
        refine r_iinc (v := nI (i + 1)) hX dX4_seekBestArc_71 rfl (ii1 i) rfl ?_
        refine r_goto (tgt := 31) hX dX4_seekBestArc_74 (by decide) ?_
        refine ih (i + 1) _ _ (by omega) (by rw [hb, if_neg c52]; exact ⟨by simp [qI_wI], by simp [qI_wI], by simp [qI_wI], fun c j hcj => by rw [qI_wI, if_neg (by omega), qI_wI, if_neg (by omega), qI_wI, if_neg (by omega)]; exact hm1.2.2.2.1 c j hcj, hm1.2.2.2.2⟩) K
set_option maxRecDepth 20000 in
set_option maxHeartbeats 4000000 in
theorem s_X4_seek_o {E : qE} {X : qX} {Q : State → Prop} {g : qG} {m : qM} (hX : MC E yX4_seekBestArc cX4_seekBestArc 5 none 3 0 0 [] X) {q d : Nat} {r : Int32} (hs : RingS g m q d) : ∀ (n p9 : Nat) (m1 : qM) (z1 z2 : Option Value), p9 + n = 13 → 1 ≤ p9 → (qI m1 q 3 = (bst (fun j => qI m d j) r ((p9 - 1) * 12)).1 ∧ qI m1 q 4 = nI (bst (fun j => qI m d j) r ((p9 - 1) * 12)).2.1 ∧ qI m1 q 5 = nI (bst (fun j => qI m d j) r ((p9 - 1) * 12)).2.2 ∧ (∀ c j, ¬ (c = q ∧ 3 ≤ j ∧ j ≤ 5) → qI m1 c j = qI m c j) ∧ m1.2 = m.2) → (∀ (j : Int32) (z1 z2 : Option Value) (m2 : qM), (qI m2 q 3 = (bst (fun j => qI m d j) r (n144)).1 ∧ qI m2 q 4 = nI (bst (fun j => qI m d j) r (n144)).2.1 ∧ qI m2 q 5 = nI (bst (fun j => qI m d j) r (n144)).2.2 ∧ (∀ c j, ¬ (c = q ∧ 3 ≤ j ∧ j ≤ 5) → qI m2 c j = qI m c j) ∧ m2.2 = m.2) → WS E X 0 0 Q g m2 83 [some (.ref q), some (.int r), some (.int j), z1, z2] []) → WS E X 0 0 Q g m1 23 [some (.ref q), some (.int r), some (.int (nI p9)), z1, z2] [] := by
  intro n
  induction n with
  | zero =>
    intro p9 m1 z1 z2 hi h1 hm1 K
    have hib : p9 = 13 := by omega
    subst hib
    rw [show (13 - 1) * 12 = n144 from rfl] at hm1
    refine r_iload_n hX dX4_seekBestArc_23 rfl ?_
    refine r_bipush (v := 12) hX dX4_seekBestArc_24 (by decide) ?_
    refine r_icmp_gt (tgt := 83) hX dX4_seekBestArc_26 (by decide) (fun c26 => ?_) (fun c26 => ?_)
    · exact K _ _ _ _ hm1
    · exact absurd (show (12 : Int32) < nI 13 by decide) c26
  | succ n ih =>
    intro p9 m1 z1 z2 hi h1 hm1 K
    refine r_iload_n hX dX4_seekBestArc_23 rfl ?_
    refine r_bipush (v := 12) hX dX4_seekBestArc_24 (by decide) ?_
    refine r_icmp_gt (tgt := 83) hX dX4_seekBestArc_26 (by decide) (fun c26 => ?_) (fun c26 => ?_)
    · exact absurd c26 (nI_nlt (b := p9) (a := 12) (by omega) (by decide))
    · refine r_iconst (v := 0) hX dX4_seekBestArc_29 (by decide) ?_
      refine r_istore_n hX dX4_seekBestArc_30 (Nat.le_of_ble_eq_true rfl) rfl ?_
      refine s_X4_seek_i hX hs ⟨h1, by omega⟩ 12 0 m1 z2 rfl (by rw [Nat.add_zero]; exact hm1) (fun y1 y2 m2 hm2 => ?_)
      refine r_iinc (v := nI (p9 + 1)) hX dX4_seekBestArc_77 rfl (ii1 p9) rfl ?_
      refine r_goto (tgt := 23) hX dX4_seekBestArc_80 (by decide) ?_
      exact ih (p9 + 1) m2 y1 y2 (by omega) (by omega) (by rw [Nat.add_sub_cancel]; exact hm2) K
set_option maxRecDepth 20000 in
set_option maxHeartbeats 4000000 in
theorem s_X4_seek (E : qE) (g : qG) (m : qM) (q d : Nat) (r : Int32) (hs : RingS g m q d) : Sp E yX4_seekBestArc cX4_seekBestArc 5 none 3 0 0 [.ref q, .int r] g m (fun v g' m' => v = none ∧ g' = g ∧ qI m' q 3 = (bst (fun j => qI m d j) r (n144)).1 ∧ qI m' q 4 = nI (bst (fun j => qI m d j) r (n144)).2.1 ∧ qI m' q 5 = nI (bst (fun j => qI m d j) r (n144)).2.2 ∧ (∀ c j, ¬ (c = q ∧ 3 ≤ j ∧ j ≤ 5) → qI m' c j = qI m c j) ∧ m'.2 = m.2) := by
  refine Sp.of (by decide) [some (.ref q), some (.int r), none, none, none] rfl rfl (Nat.le_of_ble_eq_true rfl) (fun X hX => ?_)
  refine r_aload_n hX dX4_seekBestArc_0 rfl ?_
  refine r_aload_n hX dX4_seekBestArc_1 rfl ?_
  refine r_iconst (v := 0) hX dX4_seekBestArc_2 (by decide) ?_
  refine r_iconst (v := 1) hX dX4_seekBestArc_3 (by decide) ?_
  refine r_iload_n hX dX4_seekBestArc_4 rfl ?_
  refine r_callV hX dX4_seekBestArc_5 (s_X4_gainOf E g m q d 0 1 r hs (by decide) (by decide)) ml_X4_37 rfl rfl hs.1 rfl ⟨Nat.le_of_ble_eq_true rfl, Nat.le_of_ble_eq_true rfl⟩ ⟨Nat.le_of_ble_eq_true rfl, Nat.le_of_ble_eq_true rfl, rfl, Nat.le_of_ble_eq_true rfl⟩ (fun v5 g5 m5 hp => ?_)
  obtain ⟨hv, hg, hm⟩ := hp
  subst v5
  subst g5
  subst m5
  refine r_putI hX dX4_seekBestArc_8 hs.1 fl_X4_41 ?_
  refine r_aload_n hX dX4_seekBestArc_11 rfl ?_
  refine r_iconst (v := 0) hX dX4_seekBestArc_12 (by decide) ?_
  refine r_putI hX dX4_seekBestArc_13 hs.1 fl_X4_44 ?_
  refine r_aload_n hX dX4_seekBestArc_16 rfl ?_
  refine r_iconst (v := 1) hX dX4_seekBestArc_17 (by decide) ?_
  refine r_putI hX dX4_seekBestArc_18 hs.1 fl_X4_47 ?_
  refine r_iconst (v := 1) hX dX4_seekBestArc_21 (by decide) ?_
  refine r_istore_n hX dX4_seekBestArc_22 (Nat.le_of_ble_eq_true rfl) rfl ?_
  refine s_X4_seek_o hX hs 12 1 _ none none rfl (Nat.le_refl 1) ⟨by rw [show (1 - 1) * 12 = 0 from rfl, bst_0]; simp [qI_wI], by rw [show (1 - 1) * 12 = 0 from rfl, bst_0]; simp [qI_wI]; rfl, by rw [show (1 - 1) * 12 = 0 from rfl, bst_0]; simp [qI_wI]; rfl, fun c j hcj => by rw [qI_wI, if_neg (by omega), qI_wI, if_neg (by omega), qI_wI, if_neg (by omega)], rfl⟩ (fun j z1 z2 m1 hm1 => ?_)
  exact r_vret hX dX4_seekBestArc_83 ⟨rfl, rfl, hm1⟩ ⟨Nat.le_of_ble_eq_true rfl, Nat.le_of_ble_eq_true rfl⟩
