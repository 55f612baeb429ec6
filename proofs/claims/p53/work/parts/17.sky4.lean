/-! ===== CometObservatory.Sky, changes ===== -/
set_option maxRecDepth 20000 in
set_option maxHeartbeats 4000000 in
theorem s_X5_copyFrom_l {E : qE} {X : qX} {Q : State → Prop} {g : qG} {m : qM} (hX : MC E yX5_copyFrom cX5_copyFrom 3 none 1 0 0 [] X) {q q2 : Nat} {ad : Nat → Nat} (hs : SkySh g q) (hr : SkyR m q ad) {ad2 : Nat → Nat} (hs2 : SkySh g q2) (hr2 : SkyR m q2 ad2) {S2 : kS} (hV2 : SkyV m q2 ad2 S2) (hne : q + 10 ≤ q2 ∨ q2 + 10 ≤ q) : ∀ (k i : Nat) (m1 : qM), i + k = 6 → ((∀ k j, k < i → j < 5 → qI m1 (ad k) j = S2.2.1 k j) ∧ (∀ c j, (∀ k, k < 6 → c ≠ ad k) → qI m1 c j = qI m c j) ∧ m1.2 = m.2) → (∀ (j : Int32) (m2 : qM), ((∀ k j, k < 6 → j < 5 → qI m2 (ad k) j = S2.2.1 k j) ∧ (∀ c j, (∀ k, k < 6 → c ≠ ad k) → qI m2 c j = qI m c j) ∧ m2.2 = m.2) → WS E X 0 0 Q g m2 29 [some (.ref q), some (.ref q2), some (.int j)] []) → WS E X 0 0 Q g m1 2 [some (.ref q), some (.ref q2), some (.int (nI i))] [] := by
  intro k
  induction k with
  | zero =>
    intro i m1 hi hm1 K
    have hib : i = 6 := by omega
    subst hib
    refine r_iload_n hX dX5_copyFrom_2 rfl ?_
    refine r_bipush (v := 6) hX dX5_copyFrom_3 (by decide) ?_
    refine r_icmp_ge (tgt := 29) hX dX5_copyFrom_5 (by decide) (fun c5 => ?_) (fun c5 => ?_)
    · exact K _ _ hm1
    · exact absurd (by decide) c5
  | succ k ih =>
    intro i m1 hi hm1 K
    have hi6 : i < 6 := by omega
    have d1 := hr.2.2.2.2.1 i hi6
    have d2 := hr2.2.2.2.2.1 i hi6
    refine r_iload_n hX dX5_copyFrom_2 rfl ?_
    refine r_bipush (v := 6) hX dX5_copyFrom_3 (by decide) ?_
    refine r_icmp_ge (tgt := 29) hX dX5_copyFrom_5 (by decide) (fun c5 => ?_) (fun c5 => ?_)
    · exact absurd c5 (nI_ge (b := 6) (by omega) (by omega))
    · refine r_aload_n hX dX5_copyFrom_8 rfl ?_
      refine r_getR hX dX5_copyFrom_9 hs.1 fl_X5_11 (hr.to hm1.2.2).1 ?_
      refine r_iload_n hX dX5_copyFrom_12 rfl ?_
      refine r_aaload5N hX dX5_copyFrom_13 hs.2.1 hi6 (by decide) ((hr.to hm1.2.2).2.2.2.1 i hi6) ?_
      refine r_aload_n hX dX5_copyFrom_14 rfl ?_
      refine r_getR hX dX5_copyFrom_15 hs2.1 fl_X5_11 (hr2.to hm1.2.2).1 ?_
      refine r_iload_n hX dX5_copyFrom_18 rfl ?_
      refine r_aaload5N hX dX5_copyFrom_19 hs2.2.1 hi6 (by decide) ((hr2.to hm1.2.2).2.2.2.1 i hi6) ?_
      refine r_callV hX dX5_copyFrom_20 (s_X0_copyFrom E g m1 (ad i) (ad2 i) (adAt hs hr hi6) (adAt hs2 hr2 hi6)) ml_X5_32 rfl rfl (adAt hs hr hi6) rfl ⟨Nat.le_of_ble_eq_true rfl, Nat.le_of_ble_eq_true rfl⟩ ⟨Nat.le_of_ble_eq_true rfl, Nat.le_of_ble_eq_true rfl, rfl, Nat.le_of_ble_eq_true rfl⟩ (fun v20 g20 m20 hp => ?_)
      obtain ⟨hv, hg, hI, hM⟩ := hp
      subst v20
      subst g20
      refine r_iinc (v := nI (i + 1)) hX dX5_copyFrom_23 rfl (ii1 i) rfl ?_
      refine r_goto (tgt := 2) hX dX5_copyFrom_26 (by decide) ?_
      refine ih (i + 1) _ (by omega) ⟨fun k j hk hj => ?_, fun c j hc => ?_, hM.trans hm1.2.2⟩ K
      · rw [hI]
        have d3 := hr.2.2.2.2.1 k (by omega)
        by_cases e : k = i
        · subst e
          rw [if_pos ⟨rfl, hj⟩, hm1.2.1 _ _ (fun k2 hk2 => by have := hr.2.2.2.2.1 k2 hk2; omega), hV2.c k j hi6 hj]
        · rw [if_neg (fun h => e (hr.2.2.2.2.2 k i (by omega) hi6 h.1)), hm1.1 k j (by omega) hj]
      · rw [hI, if_neg (fun h => hc i hi6 h.1), hm1.2.1 c j hc]
set_option maxRecDepth 20000 in
set_option maxHeartbeats 4000000 in
theorem s_X5_copyFrom (E : qE) (g : qG) (m : qM) (q q2 : Nat) (S S2 : kS) (hS : SkyIs g m q S) (hS2 : SkyIs g m q2 S2) (hne : q + 10 ≤ q2 ∨ q2 + 10 ≤ q) : Sp E yX5_copyFrom cX5_copyFrom 3 none 1 0 0 [.ref q, .ref q2] g m (fun v g' m' => v = none ∧ g' = g ∧ SkyIs g m' q (S2) ∧ Outs q 10 m m') := by
  obtain ⟨hs, ad, hr, hV⟩ := hS
  obtain ⟨hs2, ad2, hr2, hV2⟩ := hS2
  refine Sp.of (by decide) [some (.ref q), some (.ref q2), none] rfl rfl (Nat.le_of_ble_eq_true rfl) (fun X hX => ?_)
  refine r_iconst (v := 0) hX dX5_copyFrom_0 (by decide) ?_
  refine r_istore_n hX dX5_copyFrom_1 (Nat.le_of_ble_eq_true rfl) rfl ?_
  refine s_X5_copyFrom_l hX hs hr hs2 hr2 hV2 hne 6 0 m rfl ⟨fun k j hk => absurd hk (by omega), fun c j _ => rfl, rfl⟩ (fun j m1 hm1 => ?_)
  refine r_aload_n hX dX5_copyFrom_29 rfl ?_
  refine r_getR hX dX5_copyFrom_30 hs.1 fl_X5_21 (hr.to hm1.2.2).2.1 ?_
  refine r_aload_n hX dX5_copyFrom_33 rfl ?_
  refine r_getR hX dX5_copyFrom_34 hs2.1 fl_X5_21 (hr2.to hm1.2.2).2.1 ?_
  refine r_callV hX dX5_copyFrom_37 (s_X4_copyFrom E g m1 (q + 8) (q + 9) (q2 + 8) (q2 + 9) ((hr.to hm1.2.2).ring hs) ((hr2.to hm1.2.2).ring hs2) (by omega) (by omega)) ml_X5_36 rfl rfl hs.2.2.2.1 rfl ⟨Nat.le_of_ble_eq_true rfl, Nat.le_of_ble_eq_true rfl⟩ ⟨Nat.le_of_ble_eq_true rfl, Nat.le_of_ble_eq_true rfl, rfl, Nat.le_of_ble_eq_true rfl⟩ (fun v37 g37 m37 hp => ?_)
  obtain ⟨hv, hg, hI, hM⟩ := hp
  subst v37
  subst g37
  refine r_aload_n hX dX5_copyFrom_40 rfl ?_
  refine r_aload_n hX dX5_copyFrom_41 rfl ?_
  refine r_getI hX dX5_copyFrom_42 hs2.1 fl_X5_39 ?_
  refine r_putI hX dX5_copyFrom_45 hs.1 fl_X5_39 ?_
  refine r_aload_n hX dX5_copyFrom_48 rfl ?_
  refine r_aload_n hX dX5_copyFrom_49 rfl ?_
  refine r_getI hX dX5_copyFrom_50 hs2.1 fl_X5_42 ?_
  refine r_putI hX dX5_copyFrom_53 hs.1 fl_X5_42 ?_
  refine r_aload_n hX dX5_copyFrom_56 rfl ?_
  refine r_aload_n hX dX5_copyFrom_57 rfl ?_
  refine r_getI hX dX5_copyFrom_58 hs2.1 fl_X5_45 ?_
  refine r_putI hX dX5_copyFrom_61 hs.1 fl_X5_45 ?_
  refine r_aload_n hX dX5_copyFrom_64 rfl ?_
  refine r_aload_n hX dX5_copyFrom_65 rfl ?_
  refine r_getI hX dX5_copyFrom_66 hs2.1 fl_X5_25 ?_
  refine r_putI hX dX5_copyFrom_69 hs.1 fl_X5_25 ?_
  refine r_aload_n hX dX5_copyFrom_72 rfl ?_
  refine r_aload_n hX dX5_copyFrom_73 rfl ?_
  refine r_getI hX dX5_copyFrom_74 hs2.1 fl_X5_29 ?_
  refine r_putI hX dX5_copyFrom_77 hs.1 fl_X5_29 ?_
  refine r_aload_n hX dX5_copyFrom_80 rfl ?_
  refine r_aload_n hX dX5_copyFrom_81 rfl ?_
  refine r_getI hX dX5_copyFrom_82 hs2.1 fl_X5_48 ?_
  refine r_putI hX dX5_copyFrom_85 hs.1 fl_X5_48 ?_
  refine r_aload_n hX dX5_copyFrom_88 rfl ?_
  refine r_aload_n hX dX5_copyFrom_89 rfl ?_
  refine r_getI hX dX5_copyFrom_90 hs2.1 fl_X5_51 ?_
  refine r_putI hX dX5_copyFrom_93 hs.1 fl_X5_51 ?_
  refine r_vret hX dX5_copyFrom_96 ⟨rfl, rfl, ⟨hs, ad, (hr.to (hM.trans hm1.2.2)).to rfl, ?_⟩, ?_⟩ ⟨Nat.le_of_ble_eq_true rfl, Nat.le_of_ble_eq_true rfl⟩
  · have r5 := hr.2.2.2.2.1
    have r52 := hr2.2.2.2.2.1
    have hA : ∀ j, qI m37 q2 j = qI m q2 j := fun j => by
      rw [hI, if_neg (by omega), if_neg (by omega), hm1.2.1 _ _ (fun k hk => by have := r5 k hk; omega)]
    obtain ⟨w1, w2, w3, w4, w5⟩ := hV2
    refine ⟨fun k hk => ?_, fun i k hi hk => ?_, fun j hj => ?_, ?_, ?_⟩
    · have := w1 k hk
      have := hA (k + 2)
      have hq : q2 ≠ q := by omega
      have h2 := hA 2
      have h3 := hA 3
      have h4 := hA 4
      have h5 := hA 5
      have h6 := hA 6
      have h7 := hA 7
      have h8 := hA 8
      simp only [qI_wI]
      grind
    · have := r5 i hi
      simp only [qI_wI]
      rw [if_neg (by omega), if_neg (by omega), if_neg (by omega), if_neg (by omega), if_neg (by omega), if_neg (by omega), if_neg (by omega), hI, if_neg (by omega), if_neg (by omega)]
      exact hm1.1 i k hi hk
    · simp only [qI_wI]
      rw [if_neg (by omega), if_neg (by omega), if_neg (by omega), if_neg (by omega), if_neg (by omega), if_neg (by omega), if_neg (by omega), hI, if_pos ⟨rfl, hj⟩, hm1.2.1 _ _ (fun k hk => by have := r5 k hk; omega)]
      exact w3 j hj
    · simp only [qI_wI]
      rw [if_neg (by omega), if_neg (by omega), if_neg (by omega), if_neg (by omega), if_neg (by omega), if_neg (by omega), if_neg (by omega), hI, if_neg (by omega), if_pos (by simp), hm1.2.1 _ _ (fun k hk => by have := r5 k hk; omega)]
      exact w4
    · simp only [qI_wI]
      rw [if_neg (by omega), if_neg (by omega), if_neg (by omega), if_neg (by omega), if_neg (by omega), if_neg (by omega), if_neg (by omega), hI, if_neg (by omega), if_pos (by simp), hm1.2.1 _ _ (fun k hk => by have := r5 k hk; omega)]
      exact w5
  · refine (((((((Outs.wI ⟨fun a j ha => ⟨?_, ?_⟩, ?_⟩ (by omega)).wI (by omega)).wI (by omega)).wI (by omega)).wI (by omega)).wI (by omega)).wI (by omega))
    · rw [hI, if_neg (by omega), if_neg (by omega), hm1.2.1 _ _ (fun k hk => by have := hr.2.2.2.2.1 k hk; omega)]
    · unfold qR
      rw [hM, hm1.2.2]
    · rw [hM, hm1.2.2]
/-- a comet is put behind those that exist -/
def addS (S : kS) (n : Nat) (p d b : Int32) : kS := (fun k => if k = 0 then S.1 0 + 1 else if k = 1 then S.1 1 + 1 else S.1 k, fun i k => if i = n then (if k = 0 then S.1 1 else if k = 1 then p else if k = 2 then b else if k = 3 then S.1 2 + d else if k = 4 then 0 else S.2.1 i k) else S.2.1 i k, S.2.2)
set_option maxRecDepth 20000 in
set_option maxHeartbeats 4000000 in
theorem s_X5_add (E : qE) (g : qG) (m : qM) (q : Nat) (p d b : Int32) (S : kS) (hS : SkyIs g m q S) (n : Nat) (hc : S.1 0 = nI n) (hn : n < 6) : Sp E yX5_add cX5_add 5 (some .int) 1 0 0 [.ref q, .int p, .int d, .int b] g m (fun v g' m' => v = some (.int (S.1 1)) ∧ g' = g ∧ SkyIs g m' q (addS S n p d b) ∧ Outs q 10 m m') := by
  obtain ⟨hs, ad, hr, hV⟩ := hS
  have hn0 : ¬ 6 ≤ qI m q 2 := by rw [(hV.h 0 (by decide)).trans hc]; exact nI_ge (b := 6) hn (by decide)
  have h5 := hr.2.2.2.2.1 n hn
  refine Sp.of (by decide) [some (.ref q), some (.int p), some (.int d), some (.int b), none] rfl rfl (Nat.le_of_ble_eq_true rfl) (fun X hX => ?_)
  refine r_aload_n hX dX5_add_0 rfl ?_
  refine r_callV hX dX5_add_1 (s_X5_hasRoom E g m q hs) ml_X5_54 rfl rfl hs.1 rfl ⟨Nat.le_of_ble_eq_true rfl, Nat.le_of_ble_eq_true rfl⟩ ⟨Nat.le_of_ble_eq_true rfl, Nat.le_of_ble_eq_true rfl, rfl, Nat.le_of_ble_eq_true rfl⟩ (fun v1 g1 m1 hp => ?_)
  obtain ⟨hv, hg, hm⟩ := hp
  subst v1
  subst g1
  subst m1
  rw [if_neg hn0]
  refine r_if_ne (tgt := 9) hX dX5_add_4 (by decide) (fun c4 => ?_) (fun c4 => ?_)
  · refine r_aload_n hX dX5_add_9 rfl ?_
    refine r_getR hX dX5_add_10 hs.1 fl_X5_11 hr.1 ?_
    refine r_aload_n hX dX5_add_13 rfl ?_
    refine r_getI hX dX5_add_14 hs.1 fl_X5_39 ?_
    rw [(hV.h 0 (by decide)).trans hc]
    refine r_aaload5N hX dX5_add_17 hs.2.1 hn (by decide) (hr.2.2.2.1 n hn) ?_
    refine r_astore hX dX5_add_18 (Nat.le_of_ble_eq_true rfl) rfl ?_
    refine r_aload hX dX5_add_20 rfl ?_
    refine r_aload_n hX dX5_add_22 rfl ?_
    refine r_getI hX dX5_add_23 hs.1 fl_X5_42 ?_
    refine r_putI hX dX5_add_26 (adAt hs hr hn) fl_X5_58 ?_
    refine r_aload hX dX5_add_29 rfl ?_
    refine r_iload_n hX dX5_add_31 rfl ?_
    refine r_putI hX dX5_add_32 (adAt hs hr hn) fl_X5_61 ?_
    refine r_aload hX dX5_add_35 rfl ?_
    refine r_iload_n hX dX5_add_37 rfl ?_
    refine r_putI hX dX5_add_38 (adAt hs hr hn) fl_X5_64 ?_
    refine r_aload hX dX5_add_41 rfl ?_
    refine r_aload_n hX dX5_add_43 rfl ?_
    refine r_getI hX dX5_add_44 hs.1 fl_X5_45 ?_
    refine r_iload_n hX dX5_add_47 rfl ?_
    refine r_iadd hX dX5_add_48 ?_
    refine r_putI hX dX5_add_49 (adAt hs hr hn) fl_X5_67 ?_
    refine r_aload hX dX5_add_52 rfl ?_
    refine r_iconst (v := 0) hX dX5_add_54 (by decide) ?_
    refine r_putI hX dX5_add_55 (adAt hs hr hn) fl_X5_70 ?_
    refine r_aload_n hX dX5_add_58 rfl ?_
    refine r_dup hX dX5_add_59 rfl ?_
    refine r_getI hX dX5_add_60 hs.1 fl_X5_39 ?_
    refine r_iconst (v := 1) hX dX5_add_63 (by decide) ?_
    refine r_iadd hX dX5_add_64 ?_
    refine r_putI hX dX5_add_65 hs.1 fl_X5_39 ?_
    refine r_aload_n hX dX5_add_68 rfl ?_
    refine r_dup hX dX5_add_69 rfl ?_
    refine r_getI hX dX5_add_70 hs.1 fl_X5_42 ?_
    refine r_iconst (v := 1) hX dX5_add_73 (by decide) ?_
    refine r_iadd hX dX5_add_74 ?_
    refine r_putI hX dX5_add_75 hs.1 fl_X5_42 ?_
    refine r_aload hX dX5_add_78 rfl ?_
    refine r_getI hX dX5_add_80 (adAt hs hr hn) fl_X5_58 ?_
    refine r_iret hX dX5_add_83 ⟨?_, rfl, ⟨hs, ad, hr.to rfl, ?_⟩, ((((((((Outs.rf q 10 m).wI (by omega)).wI (by omega)).wI (by omega)).wI (by omega)).wI (by omega)).wI (by omega)).wI (by omega))⟩ ⟨Nat.le_of_ble_eq_true rfl, Nat.le_of_ble_eq_true rfl⟩
    · have := hV.h 1 (by decide)
      simp only [qI_wI]
      grind
    · obtain ⟨r1, r2, r3, r4, r5, r6⟩ := hr
      obtain ⟨v1, v2, v3, v4, v5⟩ := hV
      refine ⟨fun k hk => ?_, fun j k hj hk => ?_, fun j hj => ?_, ?_, ?_⟩
      · have := v1 k hk
        have := v1 0 (by decide)
        have := v1 1 (by decide)
        simp only [qI_wI, addS]
        grind
      · have := v2 j k hj hk
        have := v1 1 (by decide)
        have := v1 2 (by decide)
        have := r5 j hj
        have := r6 j n hj hn
        simp only [qI_wI, addS]
        grind
      · have := v3 j hj
        simp only [qI_wI, addS]
        grind
      · simp only [qI_wI, addS]
        grind
      · simp only [qI_wI, addS]
        grind
  · exact absurd c4 (by decide)
/-- the comet at place i is sold -/
def sellS (S : kS) (n i : Nat) : kS := takeS (fun k => if k = 3 then S.1 3 + S.2.1 i 2 else S.1 k, S.2) n i
theorem slot_V {m : qM} {q : Nat} {ad : Nat → Nat} {S : kS} (hV : SkyV m q ad S) (x : Int32) {n : Nat} (hn : n ≤ 6) : slotF (fun i => qI m (ad i) 0) x 0 n = slotF (fun i => S.2.1 i 0) x 0 n := slotF_congr n 0 (fun j _ h => hV.c j 0 (by omega) (by decide))
/-- the number of x among the first n -/
def plc (S : kS) (n : Nat) (x : Int32) : Option Nat := slotF (fun i => S.2.1 i 0) x 0 n
theorem plc_lt {S : kS} {n i : Nat} {x : Int32} (h : plc S n x = some i) : i < n ∧ S.2.1 i 0 = x := by
  have := slotF_some h
  exact ⟨by omega, this.2.2⟩
set_option maxRecDepth 20000 in
set_option maxHeartbeats 4000000 in
theorem s_X5_slotV (E : qE) (g : qG) (m : qM) (q : Nat) (x : Int32) (S : kS) (hS : SkyIs g m q S) (n : Nat) (hc : S.1 0 = nI n ∧ n ≤ 6) : Sp E yX5_slotOf cX5_slotOf 3 (some .int) 0 0 0 [.ref q, .int x] g m (fun v g' m' => v = some (.int (slotI (plc S n x))) ∧ g' = g ∧ m' = m) := by
  obtain ⟨hs, ad, hr, hV⟩ := hS
  have h := s_X5_slotOf E g m q x hs ad hr n ⟨(hV.h 0 (by decide)).trans hc.1, hc.2⟩
  rw [slot_V hV x hc.2] at h
  exact h
set_option maxRecDepth 20000 in
set_option maxHeartbeats 4000000 in
theorem s_X5_sell0 (E : qE) (g : qG) (m : qM) (q : Nat) (x : Int32) (S : kS) (hS : SkyIs g m q S) (n : Nat) (hc : S.1 0 = nI n ∧ n ≤ 6) (hp : plc S n x = none) : Sp E yX5_sell cX5_sell 3 (some .boolean) 1 0 0 [.ref q, .int x] g m (fun v g' m' => v = some (.int 0) ∧ g' = g ∧ m' = m) := by
  have hs := hS.1
  refine Sp.of (by decide) [some (.ref q), some (.int x), none] rfl rfl (Nat.le_of_ble_eq_true rfl) (fun X hX => ?_)
  refine r_aload_n hX dX5_sell_0 rfl ?_
  refine r_iload_n hX dX5_sell_1 rfl ?_
  refine r_callV hX dX5_sell_2 (s_X5_slotV E g m q x S hS n hc) ml_X5_73 rfl rfl hs.1 rfl ⟨Nat.le_of_ble_eq_true rfl, Nat.le_of_ble_eq_true rfl⟩ ⟨Nat.le_of_ble_eq_true rfl, Nat.le_of_ble_eq_true rfl, rfl, Nat.le_of_ble_eq_true rfl⟩ (fun v2 g2 m2 hp => ?_)
  obtain ⟨hv, hg, hm⟩ := hp
  subst v2
  subst g2
  subst m2
  rw [hp, slotI_none]
  refine r_istore_n hX dX5_sell_5 (Nat.le_of_ble_eq_true rfl) rfl ?_
  refine r_iload_n hX dX5_sell_6 rfl ?_
  refine r_iconst (v := (-1)) hX dX5_sell_7 (by decide) ?_
  refine r_icmp_ne (tgt := 13) hX dX5_sell_8 (by decide) (fun c8 => ?_) (fun c8 => ?_)
  · exact absurd rfl c8
  · refine r_iconst (v := 0) hX dX5_sell_11 (by decide) ?_
    exact r_zret hX dX5_sell_12 rfl ⟨rfl, rfl, rfl⟩ ⟨Nat.le_of_ble_eq_true rfl, Nat.le_of_ble_eq_true rfl⟩
set_option maxRecDepth 20000 in
set_option maxHeartbeats 4000000 in
theorem s_X5_sell1 (E : qE) (g : qG) (m : qM) (q : Nat) (x : Int32) (S : kS) (hS : SkyIs g m q S) (n : Nat) (hc : S.1 0 = nI n ∧ n ≤ 6) (i : Nat) (hp : plc S n x = some i) : Sp E yX5_sell cX5_sell 3 (some .boolean) 1 0 0 [.ref q, .int x] g m (fun v g' m' => v = some (.int 1) ∧ g' = g ∧ SkyIs g m' q (sellS S n i) ∧ Outs q 10 m m') := by
  have hi := (plc_lt hp).1
  have hi6 : i < 6 := by omega
  have hS0 := hS
  obtain ⟨hs, ad, hr, hV⟩ := hS
  refine Sp.of (by decide) [some (.ref q), some (.int x), none] rfl rfl (Nat.le_of_ble_eq_true rfl) (fun X hX => ?_)
  refine r_aload_n hX dX5_sell_0 rfl ?_
  refine r_iload_n hX dX5_sell_1 rfl ?_
  refine r_callV hX dX5_sell_2 (s_X5_slotV E g m q x S hS0 n hc) ml_X5_73 rfl rfl hs.1 rfl ⟨Nat.le_of_ble_eq_true rfl, Nat.le_of_ble_eq_true rfl⟩ ⟨Nat.le_of_ble_eq_true rfl, Nat.le_of_ble_eq_true rfl, rfl, Nat.le_of_ble_eq_true rfl⟩ (fun v2 g2 m2 hp => ?_)
  obtain ⟨hv, hg, hm⟩ := hp
  subst v2
  subst g2
  subst m2
  rw [hp, show slotI (some i) = nI i from rfl]
  refine r_istore_n hX dX5_sell_5 (Nat.le_of_ble_eq_true rfl) rfl ?_
  refine r_iload_n hX dX5_sell_6 rfl ?_
  refine r_iconst (v := (-1)) hX dX5_sell_7 (by decide) ?_
  refine r_icmp_ne (tgt := 13) hX dX5_sell_8 (by decide) (fun c8 => ?_) (fun c8 => ?_)
  · refine r_aload_n hX dX5_sell_13 rfl ?_
    refine r_dup hX dX5_sell_14 rfl ?_
    refine r_getI hX dX5_sell_15 hs.1 fl_X5_25 ?_
    refine r_aload_n hX dX5_sell_18 rfl ?_
    refine r_getR hX dX5_sell_19 hs.1 fl_X5_11 hr.1 ?_
    refine r_iload_n hX dX5_sell_22 rfl ?_
    refine r_aaload5N hX dX5_sell_23 hs.2.1 (by omega) (by decide) (hr.2.2.2.1 i (by omega)) ?_
    refine r_getI hX dX5_sell_24 (adAt hs hr hi6) fl_X5_64 ?_
    refine r_iadd hX dX5_sell_27 ?_
    refine r_putI hX dX5_sell_28 hs.1 fl_X5_25 ?_
    refine r_aload_n hX dX5_sell_31 rfl ?_
    refine r_iload_n hX dX5_sell_32 rfl ?_
    refine r_callV hX dX5_sell_33 (s_X5_takeOut E g (wI m q 5 (qI m q 5 + qI m (ad i) 2)) q i hs ad (hr.to rfl) n ⟨((qI_wI_k _ _ _ _ (by decide)).trans (hV.h 0 (by decide))).trans hc.1, hc.2⟩ hi) ml_X5_77 rfl rfl hs.1 rfl ⟨Nat.le_of_ble_eq_true rfl, Nat.le_of_ble_eq_true rfl⟩ ⟨Nat.le_of_ble_eq_true rfl, Nat.le_of_ble_eq_true rfl, rfl, Nat.le_of_ble_eq_true rfl⟩ (fun v33 g33 m33 hp => ?_)
    obtain ⟨hv, hg, hr2, hI2, hR2, hL2⟩ := hp
    subst v33
    subst g33
    have hV1 : SkyV (wI m q 5 (qI m q 5 + qI m (ad i) 2)) q ad (fun k => if k = 3 then S.1 3 + S.2.1 i 2 else S.1 k, S.2) := by
      obtain ⟨r1, r2, r3, r4, r5, r6⟩ := hr
      obtain ⟨v1, v2, v3, v4, v5⟩ := hV
      refine ⟨fun k hk => ?_, fun j k hj hk => ?_, fun j hj => ?_, ?_, ?_⟩
      · have := v1 k hk
        have := v1 3 (by decide)
        have := v2 i 2 hi6 (by decide)
        simp only [qI_wI]
        grind
      · have h5 := r5 j hj
        rw [qI_wI_a _ _ _ _ (by omega)]
        exact v2 j k hj hk
      · rw [qI_wI_a _ _ _ _ (by omega)]; exact v3 j hj
      · rw [qI_wI_a _ _ _ _ (by omega)]; exact v4
      · rw [qI_wI_a _ _ _ _ (by omega)]; exact v5
    have hO2 := ((Outs.rf q 10 m).wI (by omega)).tr (take_O hI2 hR2 hL2)
    have hV2 : SkyV m33 q (fun j => ad (rot n i j)) (sellS S n i) := take_IV (S := (fun k => if k = 3 then S.1 3 + S.2.1 i 2 else S.1 k, S.2)) hV1 hc.2 hi hr.2.2.2.2.1 hI2
    refine r_iconst (v := 1) hX dX5_sell_36 (by decide) ?_
    exact r_zret hX dX5_sell_37 rfl ⟨rfl, rfl, ⟨hs, _, hr2, hV2⟩, hO2⟩ ⟨Nat.le_of_ble_eq_true rfl, Nat.le_of_ble_eq_true rfl⟩
  · exact absurd c8 (slotI_ne i (by omega))
def gainS (S : kS) (a b : Nat) : Int32 := dSum S.2.2.1 a b - S.1 4 * nI b
def swpS (S : kS) (a b : Nat) : kS := (fun k => if k = 3 then S.1 3 + gainS S a b else S.1 k, S.2.1, fun j => if inArc a b j = true then 0 else S.2.2.1 j, S.2.2.2.1, S.2.2.2.2 + dSum S.2.2.1 a b)
theorem dSum_V {m : qM} {q : Nat} {ad : Nat → Nat} {S : kS} (hV : SkyV m q ad S) (a b : Nat) : dSum (fun j => qI m (q + 9) j) a b = dSum S.2.2.1 a b := dSum_congr a (fun j hj => hV.2.2.1 j hj) b
set_option maxRecDepth 20000 in
set_option maxHeartbeats 4000000 in
theorem s_X5_canSweep (E : qE) (g : qG) (m : qM) (q : Nat) (S : kS) (hS : SkyIs g m q S) (a b : Nat) (ha : a < 12) (hb : b ≤ 12) : Sp E yX5_canSweep cX5_canSweep 3 (some .boolean) 3 0 0 [.ref q, .int (nI a), .int (nI b)] g m (fun v g' m' => v = some (.int (if S.1 3 + gainS S a b < 0 then 0 else 1)) ∧ g' = g ∧ m' = m) := by
  obtain ⟨hs, ad, hr, hV⟩ := hS
  refine Sp.of (by decide) [some (.ref q), some (.int (nI a)), some (.int (nI b))] rfl rfl (Nat.le_of_ble_eq_true rfl) (fun X hX => ?_)
  refine r_aload_n hX dX5_canSweep_0 rfl ?_
  refine r_getI hX dX5_canSweep_1 hs.1 fl_X5_25 ?_
  rw [hV.h 3 (by decide)]
  refine r_aload_n hX dX5_canSweep_4 rfl ?_
  refine r_getR hX dX5_canSweep_5 hs.1 fl_X5_21 hr.2.1 ?_
  refine r_iload_n hX dX5_canSweep_8 rfl ?_
  refine r_iload_n hX dX5_canSweep_9 rfl ?_
  refine r_aload_n hX dX5_canSweep_10 rfl ?_
  refine r_getI hX dX5_canSweep_11 hs.1 fl_X5_29 ?_
  rw [hV.h 4 (by decide)]
  refine r_callV hX dX5_canSweep_14 (s_X4_gainOf E g m (q + 8) (q + 9) a b (S.1 4) (hr.ring hs) ha hb) ml_X5_81 rfl rfl hs.2.2.2.1 rfl ⟨Nat.le_of_ble_eq_true rfl, Nat.le_of_ble_eq_true rfl⟩ ⟨Nat.le_of_ble_eq_true rfl, Nat.le_of_ble_eq_true rfl, rfl, Nat.le_of_ble_eq_true rfl⟩ (fun v14 g14 m14 hp => ?_)
  obtain ⟨hv, hg, hm⟩ := hp
  subst v14
  subst g14
  subst m14
  rw [dSum_V hV, show dSum S.2.2.1 a b - S.1 4 * nI b = gainS S a b from rfl]
  refine r_iadd hX dX5_canSweep_17 ?_
  refine r_if_lt (tgt := 25) hX dX5_canSweep_18 (by decide) (fun c18 => ?_) (fun c18 => ?_)
  · refine r_iconst (v := 0) hX dX5_canSweep_25 (by decide) ?_
    first
    | exact r_zret hX dX5_canSweep_26 rfl ⟨by rw [if_pos c18], rfl, rfl⟩ ⟨Nat.le_of_ble_eq_true rfl, Nat.le_of_ble_eq_true rfl⟩
    | exact r_zret hX dX5_canSweep_26 rfl ⟨by rw [if_neg c18], rfl, rfl⟩ ⟨Nat.le_of_ble_eq_true rfl, Nat.le_of_ble_eq_true rfl⟩
  · refine r_iconst (v := 1) hX dX5_canSweep_21 (by decide) ?_
    refine r_goto (tgt := 26) hX dX5_canSweep_22 (by decide) ?_
    first
    | exact r_zret hX dX5_canSweep_26 rfl ⟨by rw [if_pos c18], rfl, rfl⟩ ⟨Nat.le_of_ble_eq_true rfl, Nat.le_of_ble_eq_true rfl⟩
    | exact r_zret hX dX5_canSweep_26 rfl ⟨by rw [if_neg c18], rfl, rfl⟩ ⟨Nat.le_of_ble_eq_true rfl, Nat.le_of_ble_eq_true rfl⟩
set_option maxRecDepth 20000 in
set_option maxHeartbeats 4000000 in
theorem s_X5_sweep (E : qE) (g : qG) (m : qM) (q : Nat) (S : kS) (hS : SkyIs g m q S) (a b : Nat) (ha : a < 12) (hb : b ≤ 12) : Sp E yX5_sweep cX5_sweep 3 (some .int) 3 0 0 [.ref q, .int (nI a), .int (nI b)] g m (fun v g' m' => v = some (.int (dSum S.2.2.1 a b)) ∧ g' = g ∧ SkyIs g m' q (swpS S a b) ∧ Outs q 10 m m') := by
  obtain ⟨hs, ad, hr, hV⟩ := hS
  refine Sp.of (by decide) [some (.ref q), some (.int (nI a)), some (.int (nI b))] rfl rfl (Nat.le_of_ble_eq_true rfl) (fun X hX => ?_)
  refine r_aload_n hX dX5_sweep_0 rfl ?_
  refine r_dup hX dX5_sweep_1 rfl ?_
  refine r_getI hX dX5_sweep_2 hs.1 fl_X5_25 ?_
  rw [hV.h 3 (by decide)]
  refine r_aload_n hX dX5_sweep_5 rfl ?_
  refine r_getR hX dX5_sweep_6 hs.1 fl_X5_21 hr.2.1 ?_
  refine r_iload_n hX dX5_sweep_9 rfl ?_
  refine r_iload_n hX dX5_sweep_10 rfl ?_
  refine r_aload_n hX dX5_sweep_11 rfl ?_
  refine r_getI hX dX5_sweep_12 hs.1 fl_X5_29 ?_
  rw [hV.h 4 (by decide)]
  refine r_callV hX dX5_sweep_15 (s_X4_gainOf E g m (q + 8) (q + 9) a b (S.1 4) (hr.ring hs) ha hb) ml_X5_81 rfl rfl hs.2.2.2.1 rfl ⟨Nat.le_of_ble_eq_true rfl, Nat.le_of_ble_eq_true rfl⟩ ⟨Nat.le_of_ble_eq_true rfl, Nat.le_of_ble_eq_true rfl, rfl, Nat.le_of_ble_eq_true rfl⟩ (fun v15 g15 m15 hp => ?_)
  obtain ⟨hv, hg, hm⟩ := hp
  subst v15
  subst g15
  subst m15
  rw [dSum_V hV, show dSum S.2.2.1 a b - S.1 4 * nI b = gainS S a b from rfl]
  refine r_iadd hX dX5_sweep_18 ?_
  refine r_putI hX dX5_sweep_19 hs.1 fl_X5_25 ?_
  refine r_aload_n hX dX5_sweep_22 rfl ?_
  refine r_getR hX dX5_sweep_23 hs.1 fl_X5_21 hr.2.1 ?_
  refine r_iload_n hX dX5_sweep_26 rfl ?_
  refine r_iload_n hX dX5_sweep_27 rfl ?_
  refine r_callV hX dX5_sweep_28 (s_X4_empty E g (wI m q 5 (S.1 3 + gainS S a b)) (q + 8) (q + 9) a b ((hr.to rfl).ring hs) ha hb) ml_X5_85 rfl rfl hs.2.2.2.1 rfl ⟨Nat.le_of_ble_eq_true rfl, Nat.le_of_ble_eq_true rfl⟩ ⟨Nat.le_of_ble_eq_true rfl, Nat.le_of_ble_eq_true rfl, rfl, Nat.le_of_ble_eq_true rfl⟩ (fun v28 g28 m28 hp => ?_)
  obtain ⟨hv, hg, hI, hM⟩ := hp
  subst v28
  subst g28
  have eD : dSum (fun j => qI (wI m q 5 (S.1 3 + gainS S a b)) (q + 9) j) a b = dSum S.2.2.1 a b := dSum_congr a (fun j hj => (qI_wI_a _ _ _ _ (by omega)).trans (hV.2.2.1 j hj)) b
  rw [eD]
  rw [eD] at hI
  refine r_iret hX dX5_sweep_31 ⟨rfl, rfl, ⟨hs, ad, (hr.to rfl).to hM, ?_⟩, ⟨fun c j hc => ⟨?_, ?_⟩, by rw [hM]; rfl⟩⟩ ⟨Nat.le_of_ble_eq_true rfl, Nat.le_of_ble_eq_true rfl⟩
  · obtain ⟨r1, r2, r3, r4, r5, r6⟩ := hr
    obtain ⟨v1, v2, v3, v4, v5⟩ := hV
    refine ⟨fun k hk => ?_, fun j k hj hk => ?_, fun j hj => ?_, ?_, ?_⟩
    · have := v1 k hk
      rw [hI]
      simp only [qI_wI, swpS]
      grind
    · have h5 := r5 j hj
      rw [hI, if_neg (by omega), if_neg (by omega), qI_wI_a _ _ _ _ (by omega)]
      exact v2 j k hj hk
    · have := v3 j hj
      rw [hI]
      simp only [qI_wI, swpS]
      grind
    · rw [hI, if_neg (by omega), if_neg (by omega), qI_wI_a _ _ _ _ (by omega)]; exact v4
    · rw [hI, if_neg (by omega), if_pos ⟨rfl, rfl⟩, qI_wI_a _ _ _ _ (by omega)]
      show qI m (q + 8) 2 + _ = S.2.2.2.2 + _
      rw [v5]
  · rw [hI, if_neg (by omega), if_neg (by omega), qI_wI_a _ _ _ _ (by omega)]
  · unfold qR
    rw [hM]
    rfl
/-- the shapes after a sky's row and i comets -/
def gC (g : qG) : Nat → qG
  | 0 => gNew g (.inr (5, 6))
  | i + 1 => gNew (gC g i) (.inl 4)
theorem gC_sz (g : qG) : ∀ i, (gC g i).2 = g.2 + 1 + i
  | 0 => rfl
  | i + 1 => by show (gC g i).2 + 1 = _; rw [gC_sz g i]; omega
theorem gC_old {g : qG} {a : Nat} (h : a < g.2) : ∀ i, (gC g i).1 a = g.1 a
  | 0 => if_neg (Nat.ne_of_lt h)
  | i + 1 => (if_neg (by rw [gC_sz]; omega)).trans (gC_old h i)
theorem gC_arr (g : qG) : ∀ i, gAt (gC g i) g.2 (.inr (5, 6))
  | 0 => gNew_at g _
  | i + 1 => gNew_old (gC_arr g i) (by rw [gC_sz]; omega)
theorem gC_c (g : qG) {j : Nat} : ∀ {i : Nat}, j < i → gAt (gC g i) (g.2 + 1 + j) (.inl 4)
  | 0, h => absurd h (Nat.not_lt_zero j)
  | i + 1, h => by
    by_cases e : j = i
    · subst e
      have := gNew_at (gC g j) (.inl 4)
      rw [gC_sz] at this
      exact this
    · exact gNew_old (gC_c g (by omega)) (by rw [gC_sz]; omega)
/-- a new sky -/
def sky0 : kS := (fun k => if k = 3 then 20 else if k = 4 then 2 else 0, fun _ _ => 0, fun _ => 0, 0, 0)
/-- outside n cells from q on nothing is changed -/
def OutN (q n : Nat) (m m' : qM) : Prop := ∀ a, (a < q ∨ q + n ≤ a) → m'.1 a = m.1 a ∧ m'.2.1 a = m.2.1 a ∧ m'.2.2.1 a = m.2.2.1 a ∧ m'.2.2.2 a = m.2.2.2 a
theorem OutN.rf (q n : Nat) (m : qM) : OutN q n m m := fun _ _ => ⟨rfl, rfl, rfl, rfl⟩
theorem OutN.tr {q n : Nat} {m m1 m2 : qM} (h : OutN q n m m1) (h2 : OutN q n m1 m2) : OutN q n m m2 := fun a ha => ⟨(h2 a ha).1.trans (h a ha).1, (h2 a ha).2.1.trans (h a ha).2.1, (h2 a ha).2.2.1.trans (h a ha).2.2.1, (h2 a ha).2.2.2.trans (h a ha).2.2.2⟩
theorem OutN.mono {q n q' n' : Nat} {m m' : qM} (h : OutN q n m m') (h1 : q' ≤ q ∧ q + n ≤ q' + n') : OutN q' n' m m' := fun a ha => h a (by omega)
theorem OutN.wI {q n : Nat} {m m' : qM} (h : OutN q n m m') {a k : Nat} {v : Int32} (ha : q ≤ a ∧ a < q + n) : OutN q n m (wI m' a k v) := fun b hb => ⟨(funext fun j => if_neg (by omega)).trans (h b hb).1, (h b hb).2⟩
theorem OutN.wR {q n : Nat} {m m' : qM} (h : OutN q n m m') {a k : Nat} {v : Option Nat} (ha : q ≤ a ∧ a < q + n) : OutN q n m (wR m' a k v) := fun b hb => ⟨(h b hb).1, (funext fun j => if_neg (by omega)).trans (h b hb).2.1, (h b hb).2.2⟩
theorem OutN.wZ {q n : Nat} {m m' : qM} (h : OutN q n m m') {a : Nat} (ha : q ≤ a ∧ a < q + n) : OutN q n m (wZ m' a) := fun b hb => ⟨(funext fun j => if_neg (by omega)).trans (h b hb).1, (funext fun j => if_neg (by omega)).trans (h b hb).2.1, (funext fun j => if_neg (by omega)).trans (h b hb).2.2.1, (funext fun j => if_neg (by omega)).trans (h b hb).2.2.2⟩
theorem OutN.of {q n : Nat} {m m' : qM} (h : Outs q n m m') : OutN q n m m' := fun a ha => ⟨funext fun j => (h.1 a j ha).1, funext fun j => (h.1 a j ha).2, congrFun (congrArg Prod.fst h.2) a, congrFun (congrArg Prod.snd h.2) a⟩
theorem OutN.I {q n : Nat} {m m' : qM} (h : OutN q n m m') {a : Nat} (ha : a < q ∨ q + n ≤ a) (j : Nat) : qI m' a j = qI m a j := congrFun (h a ha).1 j
theorem OutN.R {q n : Nat} {m m' : qM} (h : OutN q n m m') {a : Nat} (ha : a < q ∨ q + n ≤ a) (j : Nat) : qR m' a j = qR m a j := congrFun (h a ha).2.1 j
theorem SkyIs.outN {g g' : qG} {m m' : qM} {q q' n : Nat} {S : kS} (h : SkyIs g m q S) (ho : OutN q' n m m') (hd : q + 10 ≤ q' ∨ q' + n ≤ q) (hg : ∀ a, q ≤ a → a < q + 10 → g'.1 a = g.1 a) : SkyIs g' m' q S := by
  obtain ⟨⟨s1, s2, s3, s4, s5⟩, ad, hr, h1, h2, h3, h4, h5⟩ := h
  obtain ⟨r1, r2, r3, r4, r5, r6⟩ := hr
  have e : ∀ a j, q ≤ a → a < q + 10 → qI m' a j = qI m a j ∧ qR m' a j = qR m a j := fun a j a1 a2 => ⟨ho.I (by omega) j, ho.R (by omega) j⟩
  have eg : ∀ a s, q ≤ a → a < q + 10 → gAt g a s → gAt g' a s := fun a s a1 a2 h => (hg a a1 a2).trans h
  refine ⟨⟨eg _ _ (by omega) (by omega) s1, eg _ _ (by omega) (by omega) s2, fun i hi => eg _ _ (by omega) (by omega) (s3 i hi), eg _ _ (by omega) (by omega) s4, eg _ _ (by omega) (by omega) s5⟩, ad, ⟨?_, ?_, ?_, fun i hi => ?_, r5, r6⟩, fun k hk => ?_, fun i k hi hk => ?_, fun j hj => ?_, ?_, ?_⟩
  · rw [(e q 0 (by omega) (by omega)).2]; exact r1
  · rw [(e q 1 (by omega) (by omega)).2]; exact r2
  · rw [(e (q + 8) 0 (by omega) (by omega)).2]; exact r3
  · rw [(e (q + 1) i (by omega) (by omega)).2]; exact r4 i hi
  · rw [(e q (k + 2) (by omega) (by omega)).1]; exact h1 k hk
  · have := r5 i hi
    rw [(e (ad i) k (by omega) (by omega)).1]; exact h2 i k hi hk
  · rw [(e (q + 9) j (by omega) (by omega)).1]; exact h3 j hj
  · rw [(e (q + 8) 1 (by omega) (by omega)).1]; exact h4
  · rw [(e (q + 8) 2 (by omega) (by omega)).1]; exact h5
set_option maxRecDepth 20000 in
set_option maxHeartbeats 4000000 in
theorem s_X5_init_l {E : qE} {X : qX} {Q : State → Prop} {g : qG} {m : qM} (hX : MC E yX5_init cX5_init 2 none 2 9 54 [] X) {q : Nat} (hq : gAt g q (.inl 8)) (hg : g.2 = q + 1) : ∀ (k i : Nat) (m1 : qM), i + k = 6 → ((∀ j, j < i → qR m1 (q + 1) j = some (q + 2 + j)) ∧ (∀ c j, q + 1 ≤ c → c < q + 2 + i → qI m1 c j = 0) ∧ (∀ j, qI m1 q j = 0) ∧ qR m1 q 0 = some (q + 1) ∧ OutN q 10 m m1) → (∀ (j : Int32) (m2 : qM), ((∀ j, j < 6 → qR m2 (q + 1) j = some (q + 2 + j)) ∧ (∀ c j, q + 1 ≤ c → c < q + 2 + 6 → qI m2 c j = 0) ∧ (∀ j, qI m2 q j = 0) ∧ qR m2 q 0 = some (q + 1) ∧ OutN q 10 m m2) → WS E X (1 + 6) (6 + 30) Q (gC g 6) m2 40 [some (.ref q), some (.int j)] []) → WS E X (1 + i) (6 + 5 * i) Q (gC g i) m1 15 [some (.ref q), some (.int (nI i))] [] := by
  intro k
  induction k with
  | zero =>
    intro i m1 hi hm1 K
    have hib : i = 6 := by omega
    subst hib
    refine r_iload_n hX dX5_init_15 rfl ?_
    refine r_bipush (v := 6) hX dX5_init_16 (by decide) ?_
    refine r_icmp_ge (tgt := 40) hX dX5_init_18 (by decide) (fun c18 => ?_) (fun c18 => ?_)
    · exact K _ _ hm1
    · exact absurd (by decide) c18
  | succ k ih =>
    intro i m1 hi hm1 K
    have hi6 : i < 6 := by omega
    have hsz : (gC g i).2 = q + 2 + i := by rw [gC_sz, hg]
    have hca : gAt (gC g i) (q + 1) (.inr (5, 6)) := hg ▸ gC_arr g i
    have hcc : gAt (gC g (i + 1)) (q + 2 + i) (.inl 4) := by have := gC_c g (Nat.lt_succ_self i); rwa [show g.2 + 1 + i = q + 2 + i by omega] at this
    have hca2 : gAt (gC g (i + 1)) (q + 1) (.inr (5, 6)) := hg ▸ gC_arr g (i + 1)
    refine r_iload_n hX dX5_init_15 rfl ?_
    refine r_bipush (v := 6) hX dX5_init_16 (by decide) ?_
    refine r_icmp_ge (tgt := 40) hX dX5_init_18 (by decide) (fun c18 => ?_) (fun c18 => ?_)
    · exact absurd c18 (nI_ge (b := 6) (by omega) (by omega))
    · refine r_aload_n hX dX5_init_21 rfl ?_
      refine r_getR hX dX5_init_22 ((gC_old (by omega) i).trans hq) fl_X5_11 hm1.2.2.2.1 ?_
      refine r_iload_n hX dX5_init_25 rfl ?_
      refine r_new hX dX5_init_26 nl_X5_9 (by omega) (by omega) ?_
      rw [hsz]
      show WS E X _ _ Q (gC g (i + 1)) _ _ _ _
      refine r_dup hX dX5_init_29 rfl ?_
      refine r_callIN hX dX5_init_30 (s_X0_init E (gC g (i + 1)) (wZ m1 (q + 2 + i)) (q + 2 + i)) ml_X5_17 rfl rfl ⟨Nat.le_of_ble_eq_true rfl, Nat.le_of_ble_eq_true rfl⟩ ⟨by omega, by omega, rfl, by exact Nat.le_of_ble_eq_true rfl⟩ (fun v30 g30 m30 hp => ?_)
      obtain ⟨hv, hg, hm⟩ := hp
      subst v30
      subst g30
      subst m30
      refine r_aastore5N hX dX5_init_33 hca2 hi6 (by decide) hcc ?_
      refine r_iinc (v := nI (i + 1)) hX dX5_init_34 rfl (ii1 i) rfl ?_
      refine r_goto (tgt := 15) hX dX5_init_37 (by decide) ?_
      refine ih (i + 1) _ (by omega) ⟨fun j hj => ?_, fun c j h1 h2 => ?_, fun j => ?_, ?_, ((hm1.2.2.2.2.wZ (by omega)).wR (by omega))⟩ K
      · rw [qR_wR]
        by_cases e : j = i
        · subst e; exact if_pos ⟨rfl, rfl⟩
        · rw [if_neg (fun h => e h.2), qR_wZ_a _ _ (by omega)]; exact hm1.1 j (by omega)
      · rw [qI_wR]
        by_cases e : c = q + 2 + i
        · subst e; exact qI_wZ_s _ _ _
        · rw [qI_wZ_a _ _ e]; exact hm1.2.1 c j h1 (by omega)
      · rw [qI_wR, qI_wZ_a _ _ (by omega)]; exact hm1.2.2.1 j
      · rw [qR_wR_a _ _ _ _ (by omega), qR_wZ_a _ _ (by omega)]; exact hm1.2.2.2.1
theorem g17_sz (g : qG) (i : Nat) (s1 s2 : qSh) : (gNew (gNew (gC g i) s1) s2).2 = g.2 + 3 + i := by
  show (gC g i).2 + 1 + 1 = _
  rw [gC_sz]; omega
def gSky (g : qG) : qG := gNew (gNew (gC g 6) (.inl 7)) (.inr (0, 12))
theorem gSky_sz {g : qG} {q : Nat} (hg : g.2 = q + 1) : (gSky g).2 = q + 10 := by unfold gSky; rw [g17_sz, hg]
theorem gSky_old {g : qG} {a : Nat} (h : a < g.2) : (gSky g).1 a = g.1 a := by
  have h2 : (gC g 6).2 = g.2 + 7 := by rw [gC_sz]
  refine (if_neg ?_).trans ((if_neg ?_).trans (gC_old h 6))
  · show ¬ a = (gC g 6).2 + 1
    omega
  · omega
theorem gSky_sh {g : qG} {q : Nat} (hg : g.2 = q + 1) (hq : gAt g q (.inl 8)) : SkySh (gSky g) q := by
  have h2 : (gC g 6).2 = q + 8 := by rw [gC_sz, hg]
  have o1 : ∀ a s, a < q + 8 → gAt (gC g 6) a s → gAt (gSky g) a s := fun a s ha h => by
    refine (if_neg ?_).trans ((if_neg ?_).trans h)
    · show ¬ a = (gC g 6).2 + 1
      omega
    · omega
  refine ⟨o1 _ _ (by omega) ((gC_old (by omega) 6).trans hq), o1 _ _ (by omega) (hg ▸ gC_arr g 6), fun i hi => o1 _ _ (by omega) ?_, ?_, ?_⟩
  · have := gC_c g hi
    rwa [show g.2 + 1 + i = q + 2 + i by omega] at this
  · have := gNew_old (sh := .inr (0, 12)) (gNew_at (gC g 6) (.inl 7)) (Nat.lt_succ_self _)
    rwa [h2] at this
  · have := gNew_at (gNew (gC g 6) (.inl 7)) (.inr (0, 12))
    rwa [show (gNew (gC g 6) (.inl 7)).2 = q + 9 from congrArg (· + 1) h2] at this
set_option maxRecDepth 20000 in
set_option maxHeartbeats 4000000 in
theorem s_X5_init (E : qE) (g : qG) (m : qM) (q : Nat) (hq : gAt g q (.inl 8)) (hg : g.2 = q + 1) (hz : ∀ k, qI m q k = 0) : Sp E yX5_init cX5_init 2 none 2 9 54 [.ref q] g m (fun v g' m' => v = none ∧ g' = gSky g ∧ SkyIs g' m' q sky0 ∧ OutN q 10 m m') := by
  refine Sp.of (by decide) [some (.ref q), none] rfl rfl (Nat.le_of_ble_eq_true rfl) (fun X hX => ?_)
  have hq1 : gAt (gC g 0) q (.inl 8) := (gC_old (by omega) 0).trans hq
  have hq6 : gAt (gC g 6) q (.inl 8) := (gC_old (by omega) 6).trans hq
  have h2 : (gC g 6).2 = q + 8 := by rw [gC_sz, hg]
  have hq7 : gAt (gNew (gC g 6) (.inl 7)) q (.inl 8) := gNew_old hq6 (by omega)
  have hq8 : gAt (gSky g) q (.inl 8) := (gSky_old (by omega)).trans hq
  refine r_aload_n hX dX5_init_0 rfl ?_
  refine r_objInit hX dX5_init_1 mo_X5_3 ⟨Nat.le_of_ble_eq_true rfl, rfl, Nat.le_of_ble_eq_true rfl⟩ ?_
  refine r_aload_n hX dX5_init_4 rfl ?_
  refine r_bipush (v := 6) hX dX5_init_5 (by decide) ?_
  refine r_anewa (t := 5) (n := 6) hX dX5_init_7 ⟨⟨List.mem_of_getElem? (i := 56) (by decide +kernel), by decide +kernel⟩, ⟨List.mem_of_getElem? (i := 57) (by decide +kernel), by decide +kernel⟩⟩ ⟨by decide, by decide, rfl⟩ ⟨by decide, by decide, by decide⟩ (Nat.le_of_ble_eq_true rfl) (Nat.le_of_ble_eq_true rfl) ?_
  rw [hg]
  show WS E X _ _ _ (gC g 0) _ _ _ _
  refine r_putFR hX dX5_init_10 hq1 ff_X5_11 rfl rfl rfl ?_
  refine r_iconst (v := 0) hX dX5_init_13 (by decide) ?_
  refine r_istore_n hX dX5_init_14 (Nat.le_of_ble_eq_true rfl) rfl ?_
  refine s_X5_init_l hX hq hg 6 0 _ rfl ⟨fun j hj => absurd hj (by omega), fun c j h1 h2 => ?_, fun j => ?_, qR_wR_s _ _ _ _, ((OutN.rf q 10 m).wZ (by omega)).wR (by omega)⟩ (fun j m1 hm1 => ?_)
  · rw [qI_wR, show c = q + 1 by omega]; exact qI_wZ_s _ _ _
  · rw [qI_wR, qI_wZ_a _ _ (by omega)]; exact hz j
  refine r_aload_n hX dX5_init_40 rfl ?_
  refine r_new hX dX5_init_41 nl_X5_18 (Nat.le_of_ble_eq_true rfl) (Nat.le_of_ble_eq_true rfl) ?_
  rw [h2]
  refine r_dup hX dX5_init_44 rfl ?_
  refine r_callI hX dX5_init_45 (s_X4_init E (gNew (gC g 6) (.inl 7)) (wZ m1 (q + 8)) (q + 8) (by have := gNew_at (gC g 6) (.inl 7); rwa [h2] at this) (by show q + 8 < (gC g 6).2 + 1; omega)) ml_X5_20 rfl rfl ⟨Nat.le_of_ble_eq_true rfl, Nat.le_of_ble_eq_true rfl⟩ ⟨Nat.le_of_ble_eq_true rfl, Nat.le_of_ble_eq_true rfl, rfl, Nat.le_of_ble_eq_true rfl⟩ (fun v45 g45 m45 hp => ?_)
  obtain ⟨hv, hg9, hm⟩ := hp
  subst v45
  subst g45
  subst m45
  rw [show (gNew (gC g 6) (.inl 7)).2 = q + 9 from congrArg (· + 1) h2]
  show WS E X _ _ _ (gSky g) _ _ _ _
  refine r_putFR hX dX5_init_48 hq8 ff_X5_21 rfl rfl rfl ?_
  refine r_aload_n hX dX5_init_51 rfl ?_
  refine r_bipush (v := 20) hX dX5_init_52 (by decide) ?_
  refine r_putI hX dX5_init_54 hq8 fl_X5_25 ?_
  refine r_aload_n hX dX5_init_57 rfl ?_
  refine r_iconst (v := 2) hX dX5_init_58 (by decide) ?_
  refine r_putI hX dX5_init_59 hq8 fl_X5_29 ?_
  refine r_vret hX dX5_init_62 ⟨rfl, rfl, ⟨gSky_sh hg hq, fun i => q + 2 + i, ?_, ?_⟩, ?_⟩ ⟨Nat.le_of_ble_eq_true rfl, Nat.le_of_ble_eq_true rfl⟩
  · obtain ⟨a1, a2, a3, a4, a5⟩ := hm1
    refine ⟨?_, ?_, ?_, fun i hi => ?_, fun i hi => by show q + 2 ≤ q + 2 + i ∧ q + 2 + i < q + 8; omega, fun i j hi hj h => by have h : q + 2 + i = q + 2 + j := h; omega⟩
    · simp only [qR_wI]
      rw [qR_wR_k _ _ _ _ (by decide), qR_wR_a _ _ _ _ (by omega), qR_wZ_a _ _ (by omega), qR_wZ_a _ _ (by omega)]
      exact a4
    · simp only [qR_wI]
      exact qR_wR_s _ _ _ _
    · simp only [qR_wI]
      rw [qR_wR_a _ _ _ _ (by omega)]
      exact qR_wR_s _ _ _ _
    · simp only [qR_wI]
      rw [qR_wR_a _ _ _ _ (by omega), qR_wR_a _ _ _ _ (by omega), qR_wZ_a _ _ (by omega), qR_wZ_a _ _ (by omega)]
      exact a1 i hi
  · obtain ⟨a1, a2, a3, a4, a5⟩ := hm1
    refine ⟨fun k hk => ?_, fun i k hi hk => ?_, fun j hj => ?_, ?_, ?_⟩
    · have := a3 (k + 2)
      simp only [qI_wI, qI_wR, sky0]
      rw [qI_wZ_a _ _ (by omega), qI_wZ_a _ _ (by omega)]
      grind
    · simp only [qI_wI, qI_wR, sky0]
      rw [if_neg (by omega), if_neg (by omega), qI_wZ_a _ _ (by omega), qI_wZ_a _ _ (by omega)]
      exact a2 _ _ (by omega) (by omega)
    · simp only [qI_wI, qI_wR, sky0]
      rw [if_neg (by omega), if_neg (by omega)]
      exact qI_wZ_s _ _ _
    · simp only [qI_wI, qI_wR, sky0]
      rw [if_neg (by omega), if_neg (by omega), qI_wZ_a _ _ (by omega)]
      exact qI_wZ_s _ _ _
    · simp only [qI_wI, qI_wR, sky0]
      rw [if_neg (by omega), if_neg (by omega), qI_wZ_a _ _ (by omega)]
      exact qI_wZ_s _ _ _
  · exact ((((((hm1.2.2.2.2.wZ (by omega)).wZ (by omega)).wR (by omega)).wR (by omega)).wI (by omega)).wI (by omega))
