/-! ===== CometObservatory.Sky, changes ===== -/
set_option maxRecDepth 20000 in
set_option maxHeartbeats 4000000 in
theorem s_X5_copyFrom_l {E : qE} {X : qX} {Q : State → Prop} {g : qG} {m : qM} (hX : MC E yX5_copyFrom cX5_copyFrom 3 none 1 0 0 [] X) {q q2 : Nat} {ad : Nat → Nat} (hs : SkySh g q) (hr : SkyR m q ad) {ad2 : Nat → Nat} (hs2 : SkySh g q2) (hr2 : SkyR m q2 ad2) {S2 : kS} (hV2 : SkyV m q2 ad2 S2) (hne : q + 10 ≤ q2 ∨ q2 + 10 ≤ q) : ∀ (k i : Nat) (m1 : qM), i + k = 6 → ((∀ k j, k < i → j < 5 → qI m1 (ad k) j = S2.2.1 k j) ∧ (∀ c j, (∀ k, k < 6 → c ≠ ad k) → qI m1 c j = qI m c j) ∧ m1.2 = m.2) → (∀ (j : Int32) (m2 : qM), ((∀ k j, k < 6 → j < 5 → qI m2 (ad k) j = S2.2.1 k j) ∧ (∀ c j, (∀ k, k < 6 → c ≠ ad k) → qI m2 c j = qI m c j) ∧ m2.2 = m.2) → WS E X 0 0 Q g m2 29 [some (.ref q), some (.ref q2), some (.int j)] []) → WS E X 0 0 Q g m1 2 [some (.ref q), some (.ref q2), some (.int (nI i))] [] := by
  intro k
  induction k with
  | zero =>
    intro i m1 hi hm1 K
    have hib : i = 6 := by omega
    subst hib
    refine r_iload_n hX dX5_copyFrom_2 rfl ?_
    refine r_bipush (v := 6) hX dX5_copyFrom_3 (by decide) ?_
    refine r_icmp_ge (tgt := 29) hX dX5_copyFrom_5 (by decide) (fun c5 => ?_) (fun c5 => ?_)
    · exact K _ _ hm1
    · exact absurd (by decide) c5
  | succ k ih =>
    intro i m1 hi hm1 K
    have hi6 : i < 6 := by omega
    have d1 := hr.2.2.2.2.1 i hi6
    have d2 := hr2.2.2.2.2.1 i hi6
    refine r_iload_n hX dX5_copyFrom_2 rfl ?_
    refine r_bipush (v := 6) hX dX5_copyFrom_3 (by decide) ?_
    refine r_icmp_ge (tgt := 29) hX dX5_copyFrom_5 (by decide) (fun c5 => ?_) (fun c5 => ?_)
    · exact absurd c5 (nI_ge (b := 6) (by omega) (by omega))
    · refine r_aload_n hX dX5_copyFrom_8 rfl ?_
      refine r_getR hX dX5_copyFrom_9 hs.1 fl_X5_11 (hr.to hm1.2.2).1 ?_
      refine r_iload_n hX dX5_copyFrom_12 rfl ?_
      refine r_aaload5N hX dX5_copyFrom_13 hs.2.1 hi6 (by decide) ((hr.to hm1.2.2).2.2.2.1 i hi6) ?_
      refine r_aload_n hX dX5_copyFrom_14 rfl ?_
      refine r_getR hX dX5_copyFrom_15 hs2.1 fl_X5_11 (hr2.to hm1.2.2).1 ?_
      refine r_iload_n hX dX5_copyFrom_18 rfl ?_
      refine r_aaload5N hX dX5_copyFrom_19 hs2.2.1 hi6 (by decide) ((hr2.to hm1.2.2).2.2.2.1 i hi6) ?_
      refine r_callV hX dX5_copyFrom_20 (s_X0_copyFrom E g m1 (ad i) (ad2 i) (adAt hs hr hi6) (adAt hs2 hr2 hi6)) ml_X5_32 rfl rfl (adAt hs hr hi6) rfl ⟨Nat.le_of_ble_eq_true rfl, Nat.le_of_ble_eq_true rfl⟩ ⟨Nat.le_of_ble_eq_true rfl, Nat.le_of_ble_eq_true rfl, rfl, Nat.le_of_ble_eq_true rfl⟩ (fun v20 g20 m20 hp => ?_)
      obtain ⟨hv, hg, hI, hM⟩ := hp
      subst v20
      subst g20
      refine r_iinc (v := nI (i + 1)) hX dX5_copyFrom_23 rfl (ii1 i) rfl ?_
      refine r_goto (tgt := 2) hX dX5_copyFrom_26 (by decide) ?_
      refine ih (i + 1) _ (by omega) ⟨fun k j hk hj => ?_, fun c j hc => ?_, hM.trans hm1.2.2⟩ K
      · rw [hI]
        have d3 := hr.2.2.2.2.1 k (by omega)
        by_cases e : k = i
        · subst e
          rw [if_pos ⟨rfl, hj⟩, hm1.2.1 _ _ (fun k2 hk2 => by have := hr.2.2.2.2.1 k2 hk2; omega), hV2.c k j hi6 hj]
        · rw [if_neg (fun h => e (hr.2.2.2.2.2 k i (by omega) hi6 h.1)), hm1.1 k j (by omega) hj]
      · rw [hI, if_neg (fun h => hc i hi6 h.1), hm1.2.1 c j hc]
set_option maxRecDepth 20000 in
set_option maxHeartbeats 4000000 in
theorem s_X5_copyFrom (E : qE) (g : qG) (m : qM) (q q2 : Nat) (S S2 : kS) (hS : SkyIs g m q S) (hS2 : SkyIs g m q2 S2) (hne : q + 10 ≤ q2 ∨ q2 + 10 ≤ q) : Sp E yX5_copyFrom cX5_copyFrom 3 none 1 0 0 [.ref q, .ref q2] g m (fun v g' m' => v = none ∧ g' = g ∧ SkyIs g m' q (S2) ∧ Outs q 10 m m') := by
  obtain ⟨hs, ad, hr, hV⟩ := hS
  obtain ⟨hs2, ad2, hr2, hV2⟩ := hS2
  refine Sp.of (by decide) [some (.ref q), some (.ref q2), none] rfl rfl (Nat.le_of_ble_eq_true rfl) (fun X hX => ?_)
  refine r_iconst (v := 0) hX dX5_copyFrom_0 (by decide) ?_
  refine r_istore_n hX dX5_copyFrom_1 (Nat.le_of_ble_eq_true rfl) rfl ?_
  refine s_X5_copyFrom_l hX hs hr hs2 hr2 hV2 hne 6 0 m rfl ⟨fun k j hk => absurd hk (by omega), fun c j _ => rfl, rfl⟩ (fun j m1 hm1 => ?_)
  refine r_aload_n hX dX5_copyFrom_29 rfl ?_
  refine r_getR hX dX5_copyFrom_30 hs.1 fl_X5_21 (hr.to hm1.2.2).2.1 ?_
  refine r_aload_n hX dX5_copyFrom_33 rfl ?_
  refine r_getR hX dX5_copyFrom_34 hs2.1 fl_X5_21 (hr2.to hm1.2.2).2.1 ?_
  refine r_callV hX dX5_copyFrom_37 (s_X4_copyFrom E g m1 (q + 8) (q + 9) (q2 + 8) (q2 + 9) ((hr.to hm1.2.2).ring hs) ((hr2.to hm1.2.2).ring hs2) (by omega) (by omega)) ml_X5_36 rfl rfl hs.2.2.2.1 rfl ⟨Nat.le_of_ble_eq_true rfl, Nat.le_of_ble_eq_true rfl⟩ ⟨Nat.le_of_ble_eq_true rfl, Nat.le_of_ble_eq_true rfl, rfl, Nat.le_of_ble_eq_true rfl⟩ (fun v37 g37 m37 hp => ?_)
  obtain ⟨hv, hg, hI, hM⟩ := hp
  subst v37
  subst g37
  refine r_aload_n hX dX5_copyFrom_40 rfl ?_
  refine r_aload_n hX dX5_copyFrom_41 rfl ?_
  refine r_getI hX dX5_copyFrom_42 hs2.1 fl_X5_39 ?_
  refine r_putI hX dX5_copyFrom_45 hs.1 fl_X5_39 ?_
  refine r_aload_n hX dX5_copyFrom_48 rfl ?_
  refine r_aload_n hX dX5_copyFrom_49 rfl ?_
  refine r_getI hX dX5_copyFrom_50 hs2.1 fl_X5_42 ?_
  refine r_putI hX dX5_copyFrom_53 hs.1 fl_X5_42 ?_
  refine r_aload_n hX dX5_copyFrom_56 rfl ?_
  refine r_aload_n hX dX5_copyFrom_57 rfl ?_
  refine r_getI hX dX5_copyFrom_58 hs2.1 fl_X5_45 ?_
  refine r_putI hX dX5_copyFrom_61 hs.1 fl_X5_45 ?_
  refine r_aload_n hX dX5_copyFrom_64 rfl ?_
  refine r_aload_n hX dX5_copyFrom_65 rfl ?_
  refine r_getI hX dX5_copyFrom_66 hs2.1 fl_X5_25 ?_
  refine r_putI hX dX5_copyFrom_69 hs.1 fl_X5_25 ?_
  refine r_aload_n hX dX5_copyFrom_72 rfl ?_
  refine r_aload_n hX dX5_copyFrom_73 rfl ?_
  refine r_getI hX dX5_copyFrom_74 hs2.1 fl_X5_29 ?_
  refine r_putI hX dX5_copyFrom_77 hs.1 fl_X5_29 ?_
  refine r_aload_n hX dX5_copyFrom_80 rfl ?_
  refine r_aload_n hX dX5_copyFrom_81 rfl ?_
  refine r_getI hX dX5_copyFrom_82 hs2.1 fl_X5_48 ?_
  refine r_putI hX dX5_copyFrom_85 hs.1 fl_X5_48 ?_
  refine r_aload_n hX dX5_copyFrom_88 rfl ?_
  refine r_aload_n hX dX5_copyFrom_89 rfl ?_
  refine r_getI hX dX5_copyFrom_90 hs2.1 fl_X5_51 ?_
  refine r_putI hX dX5_copyFrom_93 hs.1 fl_X5_51 ?_
  refine r_vret hX dX5_copyFrom_96 ⟨rfl, rfl, ⟨hs, ad, (hr.to (hM.trans hm1.2.2)).to rfl, ?_⟩, ?_⟩ ⟨Nat.le_of_ble_eq_true rfl, Nat.le_of_ble_eq_true rfl⟩
  · have r5 := hr.2.2.2.2.1
    have r52 := hr2.2.2.2.2.1
    have hA : ∀ j, qI m37 q2 j = qI m q2 j := fun j => by
      rw [hI, if_neg (by omega), if_neg (by omega), hm1.2.1 _ _ (fun k hk => by have := r5 k hk; omega)]
    obtain ⟨w1, w2, w3, w4, w5⟩ := hV2
    refine ⟨fun k hk => ?_, fun i k hi hk => ?_, fun j hj => ?_, ?_, ?_⟩
    · have := w1 k hk
      have := hA (k + 2)
      have hq : q2 ≠ q := by omega
      have h2 := hA 2
      have h3 := hA 3
      have h4 := hA 4
      have h5 := hA 5
      have h6 := hA 6
      have h7 := hA 7
      have h8 := hA 8
      simp only [qI_wI]
      grind
    · have := r5 i hi
      simp only [qI_wI]
      rw [if_neg (by omega), if_neg (by omega), if_neg (by omega), if_neg (by omega), if_neg (by omega), if_neg (by omega), if_neg (by omega), hI, if_neg (by omega), if_neg (by omega)]
      exact hm1.1 i k hi hk
    · simp only [qI_wI]
      rw [if_neg (by omega), if_neg (by omega), if_neg (by omega), if_neg (by omega), if_neg (by omega), if_neg (by omega), if_neg (by omega), hI, if_pos ⟨rfl, hj⟩, hm1.2.1 _ _ (fun k hk => by have := r5 k hk; omega)]
      exact w3 j hj
    · simp only [qI_wI]
      rw [if_neg (by omega), if_neg (by omega), if_neg (by omega), if_neg (by omega), if_neg (by omega), if_neg (by omega), if_neg (by omega), hI, if_neg (by omega), if_pos (by simp), hm1.2.1 _ _ (fun k hk => by have := r5 k hk; omega)]
      exact w4
    · simp only [qI_wI]
      rw [if_neg (by omega), if_neg (by omega), if_neg (by omega), if_neg (by omega), if_neg (by omega), if_neg (by omega), if_neg (by omega), hI, if_neg (by omega), if_pos (by simp), hm1.2.1 _ _ (fun k hk => by have := r5 k hk; omega)]
      exact w5
  · refine (((((((Outs.wI ⟨fun a j ha => ⟨?_, ?_⟩, ?_⟩ (by omega)).wI (by omega)).wI (by omega)).wI (by omega)).wI (by omega)).wI (by omega)).wI (by omega))
    · rw [hI, if_neg (by omega), if_neg (by omega), hm1.2.1 _ _ (fun k hk => by have := hr.2.2.2.2.1 k hk; omega)]
    · unfold qR
      rw [hM, hm1.2.2]
    · rw [hM, hm1.2.2]
/-- a comet is put behind those that exist -/
def addS (S : kS) (n : Nat) (p d b : Int32) : kS := (fun k => if k = 0 then S.1 0 + 1 else if k = 1 then S.1 1 + 1 else S.1 k, fun i k => if i = n then (if k = 0 then S.1 1 else if k = 1 then p else if k = 2 then b else if k = 3 then S.1 2 + d else if k = 4 then 0 else S.2.1 i k) else S.2.1 i k, S.2.2)
set_option maxRecDepth 20000 in
set_option maxHeartbeats 4000000 in
theorem s_X5_add (E : qE) (g : qG) (m : qM) (q : Nat) (p d b : Int32) (S : kS) (hS : SkyIs g m q S) (n : Nat) (hc : S.1 0 = nI n) (hn : n < 6) : Sp E yX5_add cX5_add 5 (some .int) 1 0 0 [.ref q, .int p, .int d, .int b] g m (fun v g' m' => v = some (.int (S.1 1)) ∧ g' = g ∧ SkyIs g m' q (addS S n p d b) ∧ Outs q 10 m m') := by
  obtain ⟨hs, ad, hr, hV⟩ := hS
  have hn0 : ¬ 6 ≤ qI m q 2 := by rw [(hV.h 0 (by decide)).trans hc]; exact nI_ge (b := 6) hn (by decide)
  have h5 := hr.2.2.2.2.1 n hn
  refine Sp.of (by decide) [some (.ref q), some (.int p), some (.int d), some (.int b), none] rfl rfl (Nat.le_of_ble_eq_true rfl) (fun X hX => ?_)
  refine r_aload_n hX dX5_add_0 rfl ?_
  refine r_callV hX dX5_add_1 (s_X5_hasRoom E g m q hs) ml_X5_54 rfl rfl hs.1 rfl ⟨Nat.le_of_ble_eq_true rfl, Nat.le_of_ble_eq_true rfl⟩ ⟨Nat.le_of_ble_eq_true rfl, Nat.le_of_ble_eq_true rfl, rfl, Nat.le_of_ble_eq_true rfl⟩ (fun v1 g1 m1 hp => ?_)
  obtain ⟨hv, hg, hm⟩ := hp
  subst v1
  subst g1
  subst m1
  rw [if_neg hn0]
  refine r_if_ne (tgt := 9) hX dX5_add_4 (by decide) (fun c4 => ?_) (fun c4 => ?_)
  · refine r_aload_n hX dX5_add_9 rfl ?_
    refine r_getR hX dX5_add_10 hs.1 fl_X5_11 hr.1 ?_
    refine r_aload_n hX dX5_add_13 rfl ?_
    refine r_getI hX dX5_add_14 hs.1 fl_X5_39 ?_
    rw [(hV.h 0 (by decide)).trans hc]
    refine r_aaload5N hX dX5_add_17 hs.2.1 hn (by decide) (hr.2.2.2.1 n hn) ?_
    refine r_astore hX dX5_add_18 (Nat.le_of_ble_eq_true rfl) rfl ?_
    refine r_aload hX dX5_add_20 rfl ?_
    refine r_aload_n hX dX5_add_22 rfl ?_
    refine r_getI hX dX5_add_23 hs.1 fl_X5_42 ?_
    refine r_putI hX dX5_add_26 (adAt hs hr hn) fl_X5_58 ?_
    refine r_aload hX dX5_add_29 rfl ?_
    refine r_iload_n hX dX5_add_31 rfl ?_
    refine r_putI hX dX5_add_32 (adAt hs hr hn) fl_X5_61 ?_
    refine r_aload hX dX5_add_35 rfl ?_
    refine r_iload_n hX dX5_add_37 rfl ?_
    refine r_putI hX dX5_add_38 (adAt hs hr hn) fl_X5_64 ?_
    refine r_aload hX dX5_add_41 rfl ?_
    refine r_aload_n hX dX5_add_43 rfl ?_
    refine r_getI hX dX5_add_44 hs.1 fl_X5_45 ?_
    refine r_iload_n hX dX5_add_47 rfl ?_
    refine r_iadd hX dX5_add_48 ?_
    refine r_putI hX dX5_add_49 (adAt hs hr hn) fl_X5_67 ?_
    refine r_aload hX dX5_add_52 rfl ?_
    refine r_iconst (v := 0) hX dX5_add_54 (by decide) ?_
    refine r_putI hX dX5_add_55 (adAt hs hr hn) fl_X5_70 ?_
    refine r_aload_n hX dX5_add_58 rfl ?_
    refine r_dup hX dX5_add_59 rfl ?_
    refine r_getI hX dX5_add_60 hs.1 fl_X5_39 ?_
    refine r_iconst (v := 1) hX dX5_add_63 (by decide) ?_
    refine r_iadd hX dX5_add_64 ?_
    refine r_putI hX dX5_add_65 hs.1 fl_X5_39 ?_
    refine r_aload_n hX dX5_add_68 rfl ?_
    refine r_dup hX dX5_add_69 rfl ?_
    refine r_getI hX dX5_add_70 hs.1 fl_X5_42 ?_
    refine r_iconst (v := 1) hX dX5_add_73 (by decide) ?_
    refine r_iadd hX dX5_add_74 ?_
    refine r_putI hX dX5_add_75 hs.1 fl_X5_42 ?_
    refine r_aload hX dX5_add_78 rfl ?_
    refine r_getI hX dX5_add_80 (adAt hs hr hn) fl_X5_58 ?_
    refine r_iret hX dX5_add_83 ⟨?_, rfl, ⟨hs, ad, hr.to rfl, ?_⟩, ((((((((Outs.rf q 10 m).wI (by omega)).wI (by omega)).wI (by omega)).wI (by omega)).wI (by omega)).wI (by omega)).wI (by omega))⟩ ⟨Nat.le_of_ble_eq_true rfl, Nat.le_of_ble_eq_true rfl⟩
    · have := hV.h 1 (by decide)
      simp only [qI_wI]
      grind
    · obtain ⟨r1, r2, r3, r4, r5, r6⟩ := hr
      obtain ⟨v1, v2, v3, v4, v5⟩ := hV
      refine ⟨fun k hk => ?_, fun j k hj hk => ?_, fun j hj => ?_, ?_, ?_⟩
      · have := v1 k hk
        have := v1 0 (by decide)
        have := v1 1 (by decide)
        simp only [qI_wI, addS]
        grind
      · have := v2 j k hj hk
        have := v1 1 (by decide)
        have := v1 2 (by decide)
        have := r5 j hj
        have := r6 j n hj hn
        simp only [qI_wI, addS]
        grind
      · have := v3 j hj
        simp only [qI_wI, addS]
        grind
      · simp only [qI_wI, addS]
        grind
      · simp only [qI_wI, addS]
        grind
  · exact absurd c4 (by decide)
/-- the comet at place i is sold -/
def sellS (S : kS) (n i : Nat) : kS := takeS (fun k => if k = 3 then S.1 3 + S.2.1 i 2 else S.1 k, S.2) n i
theorem slot_V {m : qM} {q : Nat} {ad : Nat → Nat} {S : kS} (hV : SkyV m q ad S) (x : Int32) {n : Nat} (hn : n ≤ 6) : slotF (fun i => qI m (ad i) 0) x 0 n = slotF (fun i => S.2.1 i 0) x 0 n := slotF_congr n 0 (fun j _ h => hV.c j 0 (by omega) (by decide))
/-- the number of x among the first n -/
def plc (S : kS) (n : Nat) (x : Int32) : Option Nat := slotF (fun i => S.2.1 i 0) x 0 n
theorem plc_lt {S : kS} {n i : Nat} {x : Int32} (h : plc S n x = some i) : i < n ∧ S.2.1 i 0 = x := by
  have := slotF_some h
  exact ⟨by omega, this.2.2⟩
set_option maxRecDepth 20000 in
set_option maxHeartbeats 4000000 in
theorem s_X5_slotV (E : qE) (g : qG) (m : qM) (q : Nat) (x : Int32) (S : kS) (hS : SkyIs g m q S) (n : Nat) (hc : S.1 0 = nI n ∧ n ≤ 6) : Sp E yX5_slotOf cX5_slotOf 3 (some .int) 0 0 0 [.ref q, .int x] g m (fun v g' m' => v = some (.int (slotI (plc S n x))) ∧ g' = g ∧ m' = m) := by
  obtain ⟨hs, ad, hr, hV⟩ := hS
  have h := s_X5_slotOf E g m q x hs ad hr n ⟨(hV.h 0 (by decide)).trans hc.1, hc.2⟩
  rw [slot_V hV x hc.2] at h
  exact h
set_option maxRecDepth 20000 in
set_option maxHeartbeats 4000000 in
theorem s_X5_sell0 (E : qE) (g : qG) (m : qM) (q : Nat) (x : Int32) (S : kS) (hS : SkyIs g m q S) (n : Nat) (hc : S.1 0 = nI n ∧ n ≤ 6) (hp : plc S n x = none) : Sp E yX5_sell cX5_sell 3 (some .boolean) 1 0 0 [.ref q, .int x] g m (fun v g' m' => v = some (.int 0) ∧ g' = g ∧ m' = m) := by
  have hs := hS.1
  refine Sp.of (by decide) [some (.ref q), some (.int x), none] rfl rfl (Nat.le_of_ble_eq_true rfl) (fun X hX => ?_)
  refine r_aload_n hX dX5_sell_0 rfl ?_
  refine r_iload_n hX dX5_sell_1 rfl ?_
  refine r_callV hX dX5_sell_2 (s_X5_slotV E g m q x S hS n hc) ml_X5_73 rfl rfl hs.1 rfl ⟨Nat.le_of_ble_eq_true rfl, Nat.le_of_ble_eq_true rfl⟩ ⟨Nat.le_of_ble_eq_true rfl, Nat.le_of_ble_eq_true rfl, rfl, Nat.le_of_ble_eq_true rfl⟩ (fun v2 g2 m2 hp => ?_)
  obtain ⟨hv, hg, hm⟩ := hp
  subst v2
  subst g2
  subst m2
  rw [hp, slotI_none]
  refine r_istore_n hX dX5_sell_5 (Nat.le_of_ble_eq_true rfl) rfl ?_
  refine r_iload_n hX dX5_sell_6 rfl ?_
  refine r_iconst (v := (-1)) hX dX5_sell_7 (by decide) ?_
  refine r_icmp_ne (tgt := 13) hX dX5_sell_8 (by decide) (fun c8 => ?_) (fun c8 => ?_)
  · exact absurd rfl c8
  · refine r_iconst (v := 0) hX dX5_sell_11 (by decide) ?_
    exact r_zret hX dX5_sell_12 rfl ⟨rfl, rfl, rfl⟩ ⟨Nat.le_of_ble_eq_true rfl, Nat.le_of_ble_eq_true rfl⟩
set_option maxRecDepth 20000 in
set_option maxHeartbeats 4000000 in
theorem s_X5_sell1 (E : qE) (g : qG) (m : qM) (q : Nat) (x : Int32) (S : kS) (hS : SkyIs g m q S) (n : Nat) (hc : S.1 0 = nI n ∧ n ≤ 6) (i : Nat) (hp : plc S n x = some i) : Sp E yX5_sell cX5_sell 3 (some .boolean) 1 0 0 [.ref q, .int x] g m (fun v g' m' => v = some (.int 1) ∧ g' = g ∧ SkyIs g m' q (sellS S n i) ∧ Outs q 10 m m') := by
  have hi := (plc_lt hp).1
  have hi6 : i < 6 := by omega
  have hS0 := hS
  obtain ⟨hs, ad, hr, hV⟩ := hS
  refine Sp.of (by decide) [some (.ref q), some (.int x), none] rfl rfl (Nat.le_of_ble_eq_true rfl) (fun X hX => ?_)
  refine r_aload_n hX dX5_sell_0 rfl ?_
  refine r_iload_n hX dX5_sell_1 rfl ?_
  refine r_callV hX dX5_sell_2 (s_X5_slotV E g m q x S hS0 n hc) ml_X5_73 rfl rfl hs.1 rfl ⟨Nat.le_of_ble_eq_true rfl, Nat.le_of_ble_eq_true rfl⟩ ⟨Nat.le_of_ble_eq_true rfl, Nat.le_of_ble_eq_true rfl, rfl, Nat.le_of_ble_eq_true rfl⟩ (fun v2 g2 m2 hp => ?_)
  obtain ⟨hv, hg, hm⟩ := hp
  subst v2
  subst g2
  subst m2
  rw [hp, show slotI (some i) = nI i from rfl]
  refine r_istore_n hX dX5_sell_5 (Nat.le_of_ble_eq_true rfl) rfl ?_
  refine r_iload_n hX dX5_sell_6 rfl ?_
  refine r_iconst (v := (-1)) hX dX5_sell_7 (by decide) ?_
  refine r_icmp_ne (tgt := 13) hX dX5_sell_8 (by decide) (fun c8 => ?_) (fun c8 => ?_)
  · refine r_aload_n hX dX5_sell_13 rfl ?_
    refine r_dup hX dX5_sell_14 rfl ?_
    refine r_getI hX dX5_sell_15 hs.1 fl_X5_25 ?_
    refine r_aload_n hX dX5_sell_18 rfl ?_
    refine r_getR hX dX5_sell_19 hs.1 fl_X5_11 hr.1 ?_
    refine r_iload_n hX dX5_sell_22 rfl ?_
    refine r_aaload5N hX dX5_sell_23 hs.2.1 (by omega) (by decide) (hr.2.2.2.1 i (by omega)) ?_
    refine r_getI hX dX5_sell_24 (adAt hs hr hi6) fl_X5_64 ?_
    refine r_iadd hX dX5_sell_27 ?_
    refine r_putI hX dX5_sell_28 hs.1 fl_X5_25 ?_
    refine r_aload_n hX dX5_sell_31 rfl ?_
    refine r_iload_n hX dX5_sell_32 rfl ?_
    refine r_callV hX dX5_sell_33 (s_X5_takeOut E g (wI m q 5 (qI m q 5 + qI m (ad i) 2)) q i hs ad (hr.to rfl) n ⟨((qI_wI_k _ _ _ _ (by decide)).trans (hV.h 0 (by decide))).trans hc.1, hc.2⟩ hi) ml_X5_77 rfl rfl hs.1 rfl ⟨Nat.le_of_ble_eq_true rfl, Nat.le_of_ble_eq_true rfl⟩ ⟨Nat.le_of_ble_eq_true rfl, Nat.le_of_ble_eq_true rfl, rfl, Nat.le_of_ble_eq_true rfl⟩ (fun v33 g33 m33 hp => ?_)
    obtain ⟨hv, hg, hr2, hI2, hR2, hL2⟩ := hp
    subst v33
    subst g33
    have hV1 : SkyV (wI m q 5 (qI m q 5 + qI m (ad i) 2)) q ad (fun k => if k = 3 then S.1 3 + S.2.1 i 2 else S.1 k, S.2) := by
      obtain ⟨r1, r2, r3, r4, r5, r6⟩ := hr
      obtain ⟨v1, v2, v3, v4, v5⟩ := hV
      refine ⟨fun k hk => ?_, fun j k hj hk => ?_, fun j hj => ?_, ?_, ?_⟩
      · have := v1 k hk
        have := v1 3 (by decide)
        have := v2 i 2 hi6 (by decide)
        simp only [qI_wI]
        grind
      · have h5 := r5 j hj
        rw [qI_wI_a _ _ _ _ (by omega)]
        exact v2 j k hj hk
      · rw [qI_wI_a _ _ _ _ (by omega)]; exact v3 j hj
      · rw [qI_wI_a _ _ _ _ (by omega)]; exact v4
      · rw [qI_wI_a _ _ _ _ (by omega)]; exact v5
    have hO2 := ((Outs.rf q 10 m).wI (by omega)).tr (take_O hI2 hR2 hL2)
    have hV2 : SkyV m33 q (fun j => ad (rot n i j)) (sellS S n i) := take_IV (S := (fun k => if k = 3 then S.1 3 + S.2.1 i 2 else S.1 k, S.2)) hV1 hc.2 hi hr.2.2.2.2.1 hI2
    refine r_iconst (v := 1) hX dX5_sell_36 (by decide) ?_
    exact r_zret hX dX5_sell_37 rfl ⟨rfl, rfl, ⟨hs, _, hr2, hV2⟩, hO2⟩ ⟨Nat.le_of_ble_eq_true rfl, Nat.le_of_ble_eq_true rfl⟩
  · exact absurd c8 (slotI_ne i (by omega))
