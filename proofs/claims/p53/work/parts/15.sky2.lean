/-! ===== CometObservatory.Sky, by what it holds ===== -/
theorem SkyV.h {m : qM} {q : Nat} {ad : Nat → Nat} {S : kS} (h : SkyV m q ad S) (k : Nat) (hk : k < 7) : qI m q (k + 2) = S.1 k := h.1 k hk
theorem SkyV.c {m : qM} {q : Nat} {ad : Nat → Nat} {S : kS} (h : SkyV m q ad S) (i k : Nat) (hi : i < 6) (hk : k < 5) : qI m (ad i) k = S.2.1 i k := h.2.1 i k hi hk
/-- the comet at place i passes, on day dd -/
def passS (S : kS) (i dd : Nat) : kS := (fun k => if k = 5 then S.1 5 + 1 else S.1 k, fun j k => if j = i then (if k = 2 then S.2.1 i 2 - 1 else if k = 3 then S.2.1 i 3 + S.2.1 i 1 else if k = 4 then S.2.1 i 4 + 1 else S.2.1 i k) else S.2.1 j k, fun j => if j = dd % 12 then S.2.2.1 j + S.2.1 i 2 else S.2.2.1 j, S.2.2.2.1 + S.2.1 i 2, S.2.2.2.2)
set_option maxRecDepth 20000 in
set_option maxHeartbeats 4000000 in
theorem s_X5_letCometPass (E : qE) (g : qG) (m : qM) (q i dd : Nat) (hs : SkySh g q) (ad : Nat → Nat) (hr : SkyR m q ad) (S : kS) (hV : SkyV m q ad S) (hi : i < 6) (hdd : S.1 2 = nI dd ∧ dd < 2 ^ 31) : Sp E yX5_letCometPass cX5_letCometPass 2 none 2 0 0 [.ref q, .ref (ad i)] g m (fun v g' m' => v = none ∧ g' = g ∧ SkyR m' q ad ∧ SkyV m' q ad (passS S i dd) ∧ Outs q 10 m m') := by
  refine Sp.of (by decide) [some (.ref q), some (.ref (ad i))] rfl rfl (Nat.le_of_ble_eq_true rfl) (fun X hX => ?_)
  refine r_aload_n hX dX5_letCometPass_0 rfl ?_
  refine r_getR hX dX5_letCometPass_1 hs.1 fl_X5_21 hr.2.1 ?_
  refine r_aload_n hX dX5_letCometPass_4 rfl ?_
  refine r_getI hX dX5_letCometPass_5 hs.1 fl_X5_45 ?_
  rw [show qI m q 4 = nI dd from (hV.h 2 (by decide)).trans hdd.1]
  refine r_aload_n hX dX5_letCometPass_8 rfl ?_
  refine r_getI hX dX5_letCometPass_9 (adAt hs hr hi) fl_X5_64 ?_
  refine r_callV hX dX5_letCometPass_12 (s_X4_receive E g m (q + 8) (q + 9) dd _ (hr.ring hs) hdd.2) ml_X5_98 rfl rfl hs.2.2.2.1 rfl ⟨Nat.le_of_ble_eq_true rfl, Nat.le_of_ble_eq_true rfl⟩ ⟨Nat.le_of_ble_eq_true rfl, Nat.le_of_ble_eq_true rfl, rfl, Nat.le_of_ble_eq_true rfl⟩ (fun v12 g12 m12 hp => ?_)
  obtain ⟨hv, hg, hm⟩ := hp
  subst v12
  subst g12
  subst m12
  refine r_aload_n hX dX5_letCometPass_15 rfl ?_
  refine r_dup hX dX5_letCometPass_16 rfl ?_
  refine r_getI hX dX5_letCometPass_17 (adAt hs hr hi) fl_X5_64 ?_
  refine r_iconst (v := 1) hX dX5_letCometPass_20 (by decide) ?_
  refine r_isub hX dX5_letCometPass_21 ?_
  refine r_putI hX dX5_letCometPass_22 (adAt hs hr hi) fl_X5_64 ?_
  refine r_aload_n hX dX5_letCometPass_25 rfl ?_
  refine r_dup hX dX5_letCometPass_26 rfl ?_
  refine r_getI hX dX5_letCometPass_27 (adAt hs hr hi) fl_X5_67 ?_
  refine r_aload_n hX dX5_letCometPass_30 rfl ?_
  refine r_getI hX dX5_letCometPass_31 (adAt hs hr hi) fl_X5_61 ?_
  refine r_iadd hX dX5_letCometPass_34 ?_
  refine r_putI hX dX5_letCometPass_35 (adAt hs hr hi) fl_X5_67 ?_
  refine r_aload_n hX dX5_letCometPass_38 rfl ?_
  refine r_dup hX dX5_letCometPass_39 rfl ?_
  refine r_getI hX dX5_letCometPass_40 (adAt hs hr hi) fl_X5_70 ?_
  refine r_iconst (v := 1) hX dX5_letCometPass_43 (by decide) ?_
  refine r_iadd hX dX5_letCometPass_44 ?_
  refine r_putI hX dX5_letCometPass_45 (adAt hs hr hi) fl_X5_70 ?_
  refine r_aload_n hX dX5_letCometPass_48 rfl ?_
  refine r_dup hX dX5_letCometPass_49 rfl ?_
  refine r_getI hX dX5_letCometPass_50 hs.1 fl_X5_48 ?_
  refine r_iconst (v := 1) hX dX5_letCometPass_53 (by decide) ?_
  refine r_iadd hX dX5_letCometPass_54 ?_
  refine r_putI hX dX5_letCometPass_55 hs.1 fl_X5_48 ?_
  refine r_vret hX dX5_letCometPass_58 ⟨rfl, rfl, hr.to rfl, ?_, ?_⟩ ⟨Nat.le_of_ble_eq_true rfl, Nat.le_of_ble_eq_true rfl⟩
  · obtain ⟨r1, r2, r3, r4, r5, r6⟩ := hr
    obtain ⟨v1, v2, v3, v4, v5⟩ := hV
    have h5 := r5 i hi
    have n1 : ad i ≠ q := by omega
    have n2 : ad i ≠ q + 8 := by omega
    have n3 : ad i ≠ q + 9 := by omega
    have n4 : ∀ k, q ≠ ad i + k ∨ k ≠ 0 := fun k => by omega
    refine ⟨fun k hk => ?_, fun j k hj hk => ?_, fun j hj => ?_, ?_, ?_⟩
    · have := v1 k hk
      have := v1 5 (by decide)
      simp only [qI_wI, passS]
      grind
    · have := v2 j k hj hk
      have := v2 i 1 hi (by decide)
      have := v2 i 2 hi (by decide)
      have := v2 i 3 hi (by decide)
      have := v2 i 4 hi (by decide)
      have := r5 j hj
      have := r6 j i hj hi
      simp only [qI_wI, passS]
      grind
    · have := v3 j hj
      have := v2 i 2 hi (by decide)
      simp only [qI_wI, passS]
      grind
    · have := v2 i 2 hi (by decide)
      simp only [qI_wI, passS]
      grind
    · simp only [qI_wI, passS]
      grind
  · have h5 := hr.2.2.2.2.1 i hi
    exact (((((((Outs.rf q 10 m).wI (by omega)).wI (by omega)).wI (by omega)).wI (by omega)).wI (by omega)).wI (by omega))
def cn (S : kS) : Nat := (S.1 0).toNatClampNeg
theorem cn_of {S : kS} {n : Nat} (h : S.1 0 = nI n) (hn : n ≤ 6) : cn S = n := by unfold cn; rw [h]; exact nI_clamp (by omega)
/-- of n comets from place i on, those whose day it is pass -/
def passFrom (dd : Nat) : Nat → Nat → kS → kS
  | _, 0, S => S
  | i, n + 1, S => passFrom dd (i + 1) n (if S.2.1 i 3 = nI dd then passS S i dd else S)
theorem passFrom_h (dd : Nat) : ∀ (n i : Nat) (S : kS) (k : Nat), k ≠ 5 → (passFrom dd i n S).1 k = S.1 k
  | 0, _, _, _, _ => rfl
  | n + 1, i, S, k, hk => by
    show (passFrom dd (i + 1) n _).1 k = _
    rw [passFrom_h dd n (i + 1) _ k hk]
    split
    · exact if_neg hk
    · rfl
set_option maxRecDepth 20000 in
set_option maxHeartbeats 4000000 in
theorem s_X5_day_l {E : qE} {X : qX} {Q : State → Prop} {g : qG} {m : qM} (hX : MC E yX5_letOneDayPass cX5_letOneDayPass 2 none 3 0 0 [] X) {q n dd : Nat} (hn : n ≤ 6) (hdd : dd < 2 ^ 31) : ∀ (k i : Nat) (S : kS) (m1 : qM), i + k = n → S.1 0 = nI n → S.1 2 = nI dd → (SkyIs g m1 q S ∧ Outs q 10 m m1) → (∀ (j : Int32) (m2 : qM), (SkyIs g m2 q (passFrom dd i k S) ∧ Outs q 10 m m2) → WS E X 0 0 Q g m2 52 [some (.ref q), some (.int j)] []) → WS E X 0 0 Q g m1 12 [some (.ref q), some (.int (nI i))] [] := by
  intro k
  induction k with
  | zero =>
    intro i S m1 hi hc hd hm K
    have hib : i = n := by omega
    subst hib
    obtain ⟨⟨hs, ad, hr, hV⟩, hO⟩ := hm
    refine r_iload_n hX dX5_letOneDayPass_12 rfl ?_
    refine r_aload_n hX dX5_letOneDayPass_13 rfl ?_
    refine r_getI hX dX5_letOneDayPass_14 hs.1 fl_X5_39 ?_
    rw [(hV.h 0 (by decide)).trans hc]
    refine r_icmp_ge (tgt := 52) hX dX5_letOneDayPass_17 (by decide) (fun c17 => ?_) (fun c17 => ?_)
    · exact K _ _ ⟨⟨hs, ad, hr, hV⟩, hO⟩
    · exact absurd (nI_le (Nat.le_refl _) (by omega)) c17
  | succ k ih =>
    intro i S m1 hi hc hd hm K
    have hf : passFrom dd i (k + 1) S = passFrom dd (i + 1) k (if S.2.1 i 3 = nI dd then passS S i dd else S) := rfl
    obtain ⟨⟨hs, ad, hr, hV⟩, hO⟩ := hm
    have hi : i < 6 := by omega
    refine r_iload_n hX dX5_letOneDayPass_12 rfl ?_
    refine r_aload_n hX dX5_letOneDayPass_13 rfl ?_
    refine r_getI hX dX5_letOneDayPass_14 hs.1 fl_X5_39 ?_
    rw [(hV.h 0 (by decide)).trans hc]
    refine r_icmp_ge (tgt := 52) hX dX5_letOneDayPass_17 (by decide) (fun c17 => ?_) (fun c17 => ?_)
    · exact absurd c17 (nI_ge (by omega) (by omega))
    · refine r_aload_n hX dX5_letOneDayPass_20 rfl ?_
      refine r_getR hX dX5_letOneDayPass_21 hs.1 fl_X5_11 hr.1 ?_
      refine r_iload_n hX dX5_letOneDayPass_24 rfl ?_
      refine r_aaload5N hX dX5_letOneDayPass_25 hs.2.1 (by omega) (by decide) (hr.2.2.2.1 i (by omega)) ?_
      refine r_getI hX dX5_letOneDayPass_26 (adAt hs hr hi) fl_X5_67 ?_
      rw [hV.c i 3 hi (by decide)]
      refine r_aload_n hX dX5_letOneDayPass_29 rfl ?_
      refine r_getI hX dX5_letOneDayPass_30 hs.1 fl_X5_45 ?_
      rw [show qI m1 q 4 = nI dd from (hV.h 2 (by decide)).trans hd]
      refine r_icmp_ne (tgt := 46) hX dX5_letOneDayPass_33 (by decide) (fun c33 => ?_) (fun c33 => ?_)
      · refine r_iinc (v := nI (i + 1)) hX dX5_letOneDayPass_46 rfl (ii1 i) rfl ?_
        refine r_goto (tgt := 12) hX dX5_letOneDayPass_49 (by decide) ?_
        first
        | exact ih (i + 1) S _ (by omega) hc hd ⟨⟨hs, ad, hr, hV⟩, hO⟩ (fun j m2 h2 => K j m2 (by rw [hf, if_neg c33]; exact h2))
        | exact ih (i + 1) (passS S i dd) _ (by omega) hc hd ⟨⟨hs, ad, hr2, hV2⟩, hO.tr hO2⟩ (fun j m2 h2 => K j m2 (by rw [hf, if_pos c33]; exact h2))
      · refine r_aload_n hX dX5_letOneDayPass_36 rfl ?_
        refine r_aload_n hX dX5_letOneDayPass_37 rfl ?_
        refine r_getR hX dX5_letOneDayPass_38 hs.1 fl_X5_11 hr.1 ?_
        refine r_iload_n hX dX5_letOneDayPass_41 rfl ?_
        refine r_aaload5N hX dX5_letOneDayPass_42 hs.2.1 (by omega) (by decide) (hr.2.2.2.1 i (by omega)) ?_
        refine r_callV hX dX5_letOneDayPass_43 (s_X5_letCometPass E g m1 q i dd hs ad hr S hV hi ⟨hd, hdd⟩) ml_X5_92 rfl rfl hs.1 rfl ⟨Nat.le_of_ble_eq_true rfl, Nat.le_of_ble_eq_true rfl⟩ ⟨Nat.le_of_ble_eq_true rfl, Nat.le_of_ble_eq_true rfl, rfl, Nat.le_of_ble_eq_true rfl⟩ (fun v43 g43 m43 hp => ?_)
        obtain ⟨hv, hg, hr2, hV2, hO2⟩ := hp
        subst v43
        subst g43
        refine r_iinc (v := nI (i + 1)) hX dX5_letOneDayPass_46 rfl (ii1 i) rfl ?_
        refine r_goto (tgt := 12) hX dX5_letOneDayPass_49 (by decide) ?_
        first
        | exact ih (i + 1) S _ (by omega) hc hd ⟨⟨hs, ad, hr, hV⟩, hO⟩ (fun j m2 h2 => K j m2 (by rw [hf, if_neg c33]; exact h2))
        | exact ih (i + 1) (passS S i dd) _ (by omega) hc hd ⟨⟨hs, ad, hr2, hV2⟩, hO.tr hO2⟩ (fun j m2 h2 => K j m2 (by rw [hf, if_pos c33]; exact h2))
theorem iis1 (x : Int32) : x + Int32.ofInt (-1) = x - 1 := by rw [Int32.sub_eq_add_neg]; rfl
def burn1 (S : kS) (i : Nat) : kS := (fun k => if k = 6 then S.1 6 + 1 else (takeS S (cn S) i).1 k, (takeS S (cn S) i).2)
/-- the places below n are left by those that are burnt out, from the last one on -/
def burnF : Nat → kS → kS
  | 0, S => S
  | i + 1, S => burnF i (if S.2.1 i 2 = 0 then burn1 S i else S)
theorem burn1_cnt {S : kS} {n i : Nat} (h : S.1 0 = nI n) (hn : n ≤ 6) (hi : i < n) : (burn1 S i).1 0 = nI (n - 1) := by
  show S.1 0 - 1 = _
  rw [h]
  exact pk_sub (b := 1) (by omega)
theorem take_IV {m m' : qM} {q n s : Nat} {ad : Nat → Nat} {S : kS} (hV : SkyV m q ad S) (hn : n ≤ 6) (hs : s < n) (hr5 : ∀ i, i < 6 → q + 2 ≤ ad i ∧ ad i < q + 8) (h : ∀ a j, qI m' a j = if a = q ∧ j = 2 then qI m q 2 - 1 else qI m a j) : SkyV m' q (fun i => ad (rot n s i)) (takeS S n s) := by
  obtain ⟨v1, v2, v3, v4, v5⟩ := hV
  refine ⟨fun k hk => ?_, fun i k hi hk => ?_, fun j hj => ?_, ?_, ?_⟩
  · rw [h]
    have := v1 k hk
    have := v1 0 (by decide)
    simp only [takeS]
    grind
  · have h5 := hr5 _ (rot_lt hn hs hi)
    show qI m' (ad (rot n s i)) k = _
    rw [h, if_neg (by omega)]
    exact v2 _ k (rot_lt hn hs hi) hk
  · rw [h, if_neg (by omega)]; exact v3 j hj
  · rw [h, if_neg (by omega)]; exact v4
  · rw [h, if_neg (by omega)]; exact v5
theorem take_O {m m' : qM} {q : Nat} (h : ∀ a j, qI m' a j = if a = q ∧ j = 2 then qI m q 2 - 1 else qI m a j) (h2 : ∀ a j, a ≠ q + 1 → qR m' a j = qR m a j) (h3 : m'.2.2 = m.2.2) : Outs q 10 m m' :=
  ⟨fun a j ha => ⟨by rw [h, if_neg (by omega)], h2 a j (by omega)⟩, h3⟩
set_option maxRecDepth 20000 in
set_option maxHeartbeats 4000000 in
theorem s_X5_burn_l {E : qE} {X : qX} {Q : State → Prop} {g : qG} {m : qM} (hX : MC E yX5_takeOutBurntComets cX5_takeOutBurntComets 2 none 2 0 0 [] X) {q : Nat} : ∀ (i n : Nat) (S : kS) (m1 : qM), i ≤ n → n ≤ 6 → S.1 0 = nI n → (SkyIs g m1 q S ∧ Outs q 10 m m1) → (∀ (j : Int32) (m2 : qM), (SkyIs g m2 q (burnF i S) ∧ Outs q 10 m m2) → WS E X 0 0 Q g m2 44 [some (.ref q), some (.int (j))] []) → WS E X 0 0 Q g m1 7 [some (.ref q), some (.int (nI i - 1))] [] := by
  intro i
  induction i with
  | zero =>
    intro n S m1 hi hn hc hm K
    refine r_iload_n hX dX5_takeOutBurntComets_7 rfl ?_
    refine r_if_lt (tgt := 44) hX dX5_takeOutBurntComets_8 (by decide) (fun c8 => ?_) (fun c8 => ?_)
    · exact K _ _ hm
    · exact absurd (by decide) c8
  | succ i ih =>
    intro n S m1 hi hn hc hm K
    rw [show nI (i + 1) - 1 = nI i from pk_sub (b := 1) (by omega)]
    have hf : burnF (i + 1) S = burnF i (if S.2.1 i 2 = 0 then burn1 S i else S) := rfl
    obtain ⟨⟨hs, ad, hr, hV⟩, hO⟩ := hm
    have hi6 : i < 6 := by omega
    refine r_iload_n hX dX5_takeOutBurntComets_7 rfl ?_
    refine r_if_lt (tgt := 44) hX dX5_takeOutBurntComets_8 (by decide) (fun c8 => ?_) (fun c8 => ?_)
    · exact absurd c8 (nI_pos (by omega))
    · refine r_aload_n hX dX5_takeOutBurntComets_11 rfl ?_
      refine r_getR hX dX5_takeOutBurntComets_12 hs.1 fl_X5_11 hr.1 ?_
      refine r_iload_n hX dX5_takeOutBurntComets_15 rfl ?_
      refine r_aaload5N hX dX5_takeOutBurntComets_16 hs.2.1 (by omega) (by decide) (hr.2.2.2.1 i (by omega)) ?_
      refine r_getI hX dX5_takeOutBurntComets_17 (adAt hs hr hi6) fl_X5_64 ?_
      rw [hV.c i 2 hi6 (by decide)]
      refine r_if_ne (tgt := 38) hX dX5_takeOutBurntComets_20 (by decide) (fun c20 => ?_) (fun c20 => ?_)
      · refine r_iinc  hX dX5_takeOutBurntComets_38 rfl rfl rfl ?_
        refine r_goto (tgt := 7) hX dX5_takeOutBurntComets_41 (by decide) ?_
        rw [iis1]
        first
        | exact ih n S _ (by omega) hn hc ⟨⟨hs, ad, hr, hV⟩, hO⟩ (fun j m2 h2 => K j m2 (by rw [hf, if_neg c20]; exact h2))
        | exact ih (n - 1) (burn1 S i) _ (by omega) (by omega) (burn1_cnt hc hn (by omega)) ⟨⟨hs, _, hr2.to rfl, hV3⟩, (hO.tr hO2).wI (by omega)⟩ (fun j m2 h2 => K j m2 (by rw [hf, if_pos c20]; exact h2))
      · refine r_aload_n hX dX5_takeOutBurntComets_23 rfl ?_
        refine r_iload_n hX dX5_takeOutBurntComets_24 rfl ?_
        refine r_callV hX dX5_takeOutBurntComets_25 (s_X5_takeOut E g m1 q i hs ad hr n ⟨(hV.h 0 (by decide)).trans hc, hn⟩ (by omega)) ml_X5_77 rfl rfl hs.1 rfl ⟨Nat.le_of_ble_eq_true rfl, Nat.le_of_ble_eq_true rfl⟩ ⟨Nat.le_of_ble_eq_true rfl, Nat.le_of_ble_eq_true rfl, rfl, Nat.le_of_ble_eq_true rfl⟩ (fun v25 g25 m25 hp => ?_)
        obtain ⟨hv, hg, hr2, hI2, hR2, hL2⟩ := hp
        subst v25
        subst g25
        have hO2 := take_O hI2 hR2 hL2
        have hV2 : SkyV m25 q (fun j => ad (rot n i j)) (takeS S n i) := take_IV hV hn (by omega) hr.2.2.2.2.1 hI2
        have hV3 : SkyV (wI m25 q 8 (qI m25 q 8 + 1)) q (fun j => ad (rot n i j)) (burn1 S i) := by
          obtain ⟨v1, v2, v3, v4, v5⟩ := hV2
          have hcn : cn S = n := cn_of hc hn
          refine ⟨fun k hk => ?_, fun j k hj hk => ?_, fun j hj => ?_, ?_, ?_⟩
          · have e := v1 k hk
            have e6 := v1 6 (by decide)
            have e8 : (takeS S n i).1 6 = S.1 6 := rfl
            simp only [qI_wI, burn1, hcn]
            grind
          · have h5 : q + 2 ≤ ad (rot n i j) ∧ ad (rot n i j) < q + 8 := hr2.2.2.2.2.1 j hj
            show qI _ (ad (rot n i j)) k = _
            rw [qI_wI_a _ _ _ _ (by omega)]
            unfold burn1
            rw [hcn]
            exact v2 j k hj hk
          · rw [qI_wI_a _ _ _ _ (by omega)]; exact v3 j hj
          · rw [qI_wI_a _ _ _ _ (by omega)]; exact v4
          · rw [qI_wI_a _ _ _ _ (by omega)]; exact v5
        refine r_aload_n hX dX5_takeOutBurntComets_28 rfl ?_
        refine r_dup hX dX5_takeOutBurntComets_29 rfl ?_
        refine r_getI hX dX5_takeOutBurntComets_30 hs.1 fl_X5_51 ?_
        refine r_iconst (v := 1) hX dX5_takeOutBurntComets_33 (by decide) ?_
        refine r_iadd hX dX5_takeOutBurntComets_34 ?_
        refine r_putI hX dX5_takeOutBurntComets_35 hs.1 fl_X5_51 ?_
        refine r_iinc  hX dX5_takeOutBurntComets_38 rfl rfl rfl ?_
        refine r_goto (tgt := 7) hX dX5_takeOutBurntComets_41 (by decide) ?_
        rw [iis1]
        first
        | exact ih n S _ (by omega) hn hc ⟨⟨hs, ad, hr, hV⟩, hO⟩ (fun j m2 h2 => K j m2 (by rw [hf, if_neg c20]; exact h2))
        | exact ih (n - 1) (burn1 S i) _ (by omega) (by omega) (burn1_cnt hc hn (by omega)) ⟨⟨hs, _, hr2.to rfl, hV3⟩, (hO.tr hO2).wI (by omega)⟩ (fun j m2 h2 => K j m2 (by rw [hf, if_pos c20]; exact h2))
set_option maxRecDepth 20000 in
set_option maxHeartbeats 4000000 in
theorem s_X5_burn (E : qE) (g : qG) (m : qM) (q : Nat) (S : kS) (hS : SkyIs g m q S) (n : Nat) (hc : S.1 0 = nI n ∧ n ≤ 6) : Sp E yX5_takeOutBurntComets cX5_takeOutBurntComets 2 none 2 0 0 [.ref q] g m (fun v g' m' => v = none ∧ g' = g ∧ SkyIs g m' q (burnF n S) ∧ Outs q 10 m m') := by
  obtain ⟨hs, ad, hr, hV⟩ := hS
  refine Sp.of (by decide) [some (.ref q), none] rfl rfl (Nat.le_of_ble_eq_true rfl) (fun X hX => ?_)
  refine r_aload_n hX dX5_takeOutBurntComets_0 rfl ?_
  refine r_getI hX dX5_takeOutBurntComets_1 hs.1 fl_X5_39 ?_
  rw [(hV.h 0 (by decide)).trans hc.1]
  refine r_iconst (v := 1) hX dX5_takeOutBurntComets_4 (by decide) ?_
  refine r_isub hX dX5_takeOutBurntComets_5 ?_
  refine r_istore_n hX dX5_takeOutBurntComets_6 (Nat.le_of_ble_eq_true rfl) rfl ?_
  refine s_X5_burn_l hX n n S m (Nat.le_refl n) hc.2 hc.1 ⟨⟨hs, ad, hr, hV⟩, Outs.rf q 10 m⟩ (fun j m2 h2 => ?_)
  exact r_vret hX dX5_takeOutBurntComets_44 ⟨rfl, rfl, h2⟩ ⟨Nat.le_of_ble_eq_true rfl, Nat.le_of_ble_eq_true rfl⟩
/-- one day -/
def dyS (S : kS) : kS := (fun k => if k = 2 then S.1 2 + 1 else S.1 k, S.2)
def dayS (S : kS) : kS := burnF (cn S) (passFrom ((S.1 2).toNatClampNeg + 1) 0 (cn S) (dyS S))
theorem burnF_k (k : Nat) (h0 : k ≠ 0) (h6 : k ≠ 6) : ∀ (n : Nat) (S : kS), (burnF n S).1 k = S.1 k
  | 0, _ => rfl
  | i + 1, S => by
    show (burnF i _).1 k = _
    rw [burnF_k k h0 h6 i]
    split
    · simp only [burn1, takeS]
      rw [if_neg h6, if_neg h0]
    · rfl
theorem burnF_cnt : ∀ (i n : Nat) (S : kS), S.1 0 = nI n → i ≤ n → n ≤ 6 → ∃ n', n' ≤ n ∧ (burnF i S).1 0 = nI n'
  | 0, n, _, h, _, _ => ⟨n, Nat.le_refl n, h⟩
  | i + 1, n, S, h, hi, hn => by
    show ∃ n', n' ≤ n ∧ (burnF i _).1 0 = nI n'
    split
    · obtain ⟨n', a1, a2⟩ := burnF_cnt i (n - 1) (burn1 S i) (burn1_cnt h hn (by omega)) (by omega) (by omega)
      exact ⟨n', by omega, a2⟩
    · exact burnF_cnt i n S h (by omega) hn
theorem dayS_cnt {S : kS} {n : Nat} (h : S.1 0 = nI n) (hn : n ≤ 6) : ∃ n', n' ≤ n ∧ (dayS S).1 0 = nI n' := by
  unfold dayS
  rw [cn_of h hn]
  exact burnF_cnt n n _ ((passFrom_h _ n 0 _ 0 (by decide)).trans h) (Nat.le_refl n) hn
theorem dayS_day {S : kS} {d : Nat} (h : S.1 2 = nI d) : (dayS S).1 2 = nI (d + 1) := by
  unfold dayS
  rw [burnF_k 2 (by decide) (by decide), passFrom_h _ _ _ _ _ (by decide)]
  show S.1 2 + 1 = _
  rw [h]
  exact nI_1 d
set_option maxRecDepth 20000 in
set_option maxHeartbeats 4000000 in
theorem s_X5_day (E : qE) (g : qG) (m : qM) (q : Nat) (S : kS) (hS : SkyIs g m q S) (n d : Nat) (hc : S.1 0 = nI n ∧ n ≤ 6) (hd : S.1 2 = nI d ∧ d + 1 < 2 ^ 31) : Sp E yX5_letOneDayPass cX5_letOneDayPass 2 none 3 0 0 [.ref q] g m (fun v g' m' => v = none ∧ g' = g ∧ SkyIs g m' q (dayS S) ∧ Outs q 10 m m') := by
  obtain ⟨hs, ad, hr, hV⟩ := hS
  refine Sp.of (by decide) [some (.ref q), none] rfl rfl (Nat.le_of_ble_eq_true rfl) (fun X hX => ?_)
  refine r_aload_n hX dX5_letOneDayPass_0 rfl ?_
  refine r_dup hX dX5_letOneDayPass_1 rfl ?_
  refine r_getI hX dX5_letOneDayPass_2 hs.1 fl_X5_45 ?_
  refine r_iconst (v := 1) hX dX5_letOneDayPass_5 (by decide) ?_
  refine r_iadd hX dX5_letOneDayPass_6 ?_
  refine r_putI hX dX5_letOneDayPass_7 hs.1 fl_X5_45 ?_
  refine r_iconst (v := 0) hX dX5_letOneDayPass_10 (by decide) ?_
  refine r_istore_n hX dX5_letOneDayPass_11 (Nat.le_of_ble_eq_true rfl) rfl ?_
  refine s_X5_day_l (dd := d + 1) hX hc.2 hd.2 n 0 (dyS S) _ (Nat.zero_add n) hc.1 (by show S.1 2 + 1 = _; rw [hd.1]; exact nI_1 d) ⟨⟨hs, ad, hr.to rfl, ?_⟩, (Outs.rf q 10 m).wI (by omega)⟩ (fun j m2 h2 => ?_)
  · obtain ⟨v1, v2, v3, v4, v5⟩ := hV
    obtain ⟨r1, r2, r3, r4, r5, r6⟩ := hr
    refine ⟨fun k hk => ?_, fun j k hj hk => ?_, fun j hj => ?_, ?_, ?_⟩
    · have e := v1 k hk
      have e6 := v1 2 (by decide)
      simp only [qI_wI, dyS]
      grind
    · have h5 := r5 j hj
      rw [qI_wI_a _ _ _ _ (by omega)]
      exact v2 j k hj hk
    · rw [qI_wI_a _ _ _ _ (by omega)]; exact v3 j hj
    · rw [qI_wI_a _ _ _ _ (by omega)]; exact v4
    · rw [qI_wI_a _ _ _ _ (by omega)]; exact v5
  refine r_aload_n hX dX5_letOneDayPass_52 rfl ?_
  refine r_callV hX dX5_letOneDayPass_53 (s_X5_burn E g m2 q _ h2.1 n ⟨(passFrom_h _ n 0 _ 0 (by decide)).trans hc.1, hc.2⟩) ml_X5_95 rfl rfl hs.1 rfl ⟨Nat.le_of_ble_eq_true rfl, Nat.le_of_ble_eq_true rfl⟩ ⟨Nat.le_of_ble_eq_true rfl, Nat.le_of_ble_eq_true rfl, rfl, Nat.le_of_ble_eq_true rfl⟩ (fun v53 g53 m53 hp => ?_)
  obtain ⟨hv, hg, hp⟩ := hp
  subst v53
  subst g53
  exact r_vret hX dX5_letOneDayPass_56 ⟨rfl, rfl, by unfold dayS; rw [cn_of hc.1 hc.2, hd.1, nI_clamp (by omega)]; exact hp.1, h2.2.tr hp.2⟩ ⟨Nat.le_of_ble_eq_true rfl, Nat.le_of_ble_eq_true rfl⟩
/-- n days -/
def itS : Nat → kS → kS
  | 0, S => S
  | n + 1, S => itS n (dayS S)
set_option maxRecDepth 20000 in
set_option maxHeartbeats 4000000 in
theorem s_X5_letPass_l {E : qE} {X : qX} {Q : State → Prop} {g : qG} {m : qM} {t0 : Int32} (hX : MC E yX5_letPass cX5_letPass 4 (some .int) 4 0 0 [] X) {q b : Nat} (hb : b < 2 ^ 31) : ∀ (k i n d : Nat) (S : kS) (m1 : qM), i + k = b → S.1 0 = nI n → n ≤ 6 → S.1 2 = nI d → d + k < 2 ^ 31 → (SkyIs g m1 q S ∧ Outs q 10 m m1) → (∀ (j : Int32) (m2 : qM), (SkyIs g m2 q (itS k S) ∧ Outs q 10 m m2) → WS E X 0 0 Q g m2 22 [some (.ref q), some (.int (nI b)), some (.int t0), some (.int (j))] []) → WS E X 0 0 Q g m1 7 [some (.ref q), some (.int (nI b)), some (.int t0), some (.int (nI i))] [] := by
  intro k
  induction k with
  | zero =>
    intro i n d S m1 hi hc hn hd hdk hm K
    have hib : i = b := by omega
    subst hib
    refine r_iload_n hX dX5_letPass_7 rfl ?_
    refine r_iload_n hX dX5_letPass_8 rfl ?_
    refine r_icmp_ge (tgt := 22) hX dX5_letPass_9 (by decide) (fun c9 => ?_) (fun c9 => ?_)
    · exact K _ _ hm
    · exact absurd (nI_le (Nat.le_refl _) (by omega)) c9
  | succ k ih =>
    intro i n d S m1 hi hc hn hd hdk hm K
    refine r_iload_n hX dX5_letPass_7 rfl ?_
    refine r_iload_n hX dX5_letPass_8 rfl ?_
    refine r_icmp_ge (tgt := 22) hX dX5_letPass_9 (by decide) (fun c9 => ?_) (fun c9 => ?_)
    · exact absurd c9 (nI_ge (by omega) (by omega))
    · refine r_aload_n hX dX5_letPass_12 rfl ?_
      refine r_callV hX dX5_letPass_13 (s_X5_day E g m1 q S hm.1 n d ⟨hc, hn⟩ ⟨hd, by omega⟩) ml_X5_89 rfl rfl hm.1.1.1 rfl ⟨Nat.le_of_ble_eq_true rfl, Nat.le_of_ble_eq_true rfl⟩ ⟨Nat.le_of_ble_eq_true rfl, Nat.le_of_ble_eq_true rfl, rfl, Nat.le_of_ble_eq_true rfl⟩ (fun v13 g13 m13 hp => ?_)
      obtain ⟨hv, hg, hp⟩ := hp
      subst v13
      subst g13
      refine r_iinc (v := nI (i + 1)) hX dX5_letPass_16 rfl (ii1 i) rfl ?_
      refine r_goto (tgt := 7) hX dX5_letPass_19 (by decide) ?_
      obtain ⟨n2, hn2, hc2⟩ := dayS_cnt hc hn
      exact ih (i + 1) n2 (d + 1) (dayS S) _ (by omega) hc2 (by omega) (dayS_day hd) (by omega) ⟨hp.1, hm.2.tr hp.2⟩ K
set_option maxRecDepth 20000 in
set_option maxHeartbeats 4000000 in
theorem s_X5_letPass (E : qE) (g : qG) (m : qM) (q : Nat) (S : kS) (hS : SkyIs g m q S) (n d b : Nat) (hc : S.1 0 = nI n ∧ n ≤ 6) (hd : S.1 2 = nI d ∧ d + b < 2 ^ 31) : Sp E yX5_letPass cX5_letPass 4 (some .int) 4 0 0 [.ref q, .int (nI b)] g m (fun v g' m' => v = some (.int ((itS b S).1 5 - S.1 5)) ∧ g' = g ∧ SkyIs g m' q (itS b S) ∧ Outs q 10 m m') := by
  obtain ⟨hs, ad, hr, hV⟩ := hS
  refine Sp.of (by decide) [some (.ref q), some (.int (nI b)), none, none] rfl rfl (Nat.le_of_ble_eq_true rfl) (fun X hX => ?_)
  refine r_aload_n hX dX5_letPass_0 rfl ?_
  refine r_getI hX dX5_letPass_1 hs.1 fl_X5_48 ?_
  rw [hV.h 5 (by decide)]
  refine r_istore_n hX dX5_letPass_4 (Nat.le_of_ble_eq_true rfl) rfl ?_
  refine r_iconst (v := 0) hX dX5_letPass_5 (by decide) ?_
  refine r_istore_n hX dX5_letPass_6 (Nat.le_of_ble_eq_true rfl) rfl ?_
  refine s_X5_letPass_l hX (by omega) b 0 n d S m (Nat.zero_add b) hc.1 hc.2 hd.1 (by omega) ⟨⟨hs, ad, hr, hV⟩, Outs.rf q 10 m⟩ (fun j m2 h2 => ?_)
  obtain ⟨⟨hs2, ad2, hr2, hV2⟩, hO2⟩ := h2
  refine r_aload_n hX dX5_letPass_22 rfl ?_
  refine r_getI hX dX5_letPass_23 hs.1 fl_X5_48 ?_
  rw [hV2.h 5 (by decide)]
  refine r_iload_n hX dX5_letPass_26 rfl ?_
  refine r_isub hX dX5_letPass_27 ?_
  exact r_iret hX dX5_letPass_28 ⟨rfl, rfl, ⟨hs2, ad2, hr2, hV2⟩, hO2⟩ ⟨Nat.le_of_ble_eq_true rfl, Nat.le_of_ble_eq_true rfl⟩
