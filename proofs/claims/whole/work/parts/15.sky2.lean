/-! ===== CometObservatory.Sky, by what it holds ===== -/
theorem SkyV.h {m : qM} {q : Nat} {ad : Nat → Nat} {S : kS} (h : SkyV m q ad S) (k : Nat) (hk : k < 7) : qI m q (k + 2) = S.1 k := h.1 k hk
theorem SkyV.c {m : qM} {q : Nat} {ad : Nat → Nat} {S : kS} (h : SkyV m q ad S) (i k : Nat) (hi : i < 6) (hk : k < 5) : qI m (ad i) k = S.2.1 i k := h.2.1 i k hi hk
/-- the comet at place i passes, on day dd -/
def passS (S : kS) (i dd : Nat) : kS := (fun k => if k = 5 then S.1 5 + 1 else S.1 k, fun j k => if j = i then (if k = 2 then S.2.1 i 2 - 1 else if k = 3 then S.2.1 i 3 + S.2.1 i 1 else if k = 4 then S.2.1 i 4 + 1 else S.2.1 i k) else S.2.1 j k, fun j => if j = dd % 12 then S.2.2.1 j + S.2.1 i 2 else S.2.2.1 j, S.2.2.2.1 + S.2.1 i 2, S.2.2.2.2)
set_option maxRecDepth 20000 in
set_option maxHeartbeats 4000000 in
theorem s_X5_letCometPass (E : qE) (g : qG) (m : qM) (q i dd : Nat) (hs : SkySh g q) (ad : Nat → Nat) (hr : SkyR m q ad) (S : kS) (hV : SkyV m q ad S) (hi : i < 6) (hdd : S.1 2 = nI dd ∧ dd < 2 ^ 31) : Sp E yX5_letCometPass cX5_letCometPass 2 none 2 0 0 [.ref q, .ref (ad i)] g m (fun v g' m' => v = none ∧ g' = g ∧ SkyR m' q ad ∧ SkyV m' q ad (passS S i dd) ∧ Outs q 10 m m') := by
  refine Sp.of (by decide) [some (.ref q), some (.ref (ad i))] rfl rfl (Nat.le_of_ble_eq_true rfl) (fun X hX => ?_)
  refine r_aload_n hX dX5_letCometPass_0 rfl ?_
  refine r_getR hX dX5_letCometPass_1 hs.1 fl_X5_21 hr.2.1 ?_
  refine r_aload_n hX dX5_letCometPass_4 rfl ?_
  refine r_getI hX dX5_letCometPass_5 hs.1 fl_X5_45 ?_
  rw [show qI m q 4 = nI dd from (hV.h 2 (by decide)).trans hdd.1]
  refine r_aload_n hX dX5_letCometPass_8 rfl ?_
  refine r_getI hX dX5_letCometPass_9 (adAt hs hr hi) fl_X5_64 ?_
  refine r_callV hX dX5_letCometPass_12 (s_X4_receive E g m (q + 8) (q + 9) dd _ (hr.ring hs) hdd.2) ml_X5_98 rfl rfl hs.2.2.2.1 rfl ⟨Nat.le_of_ble_eq_true rfl, Nat.le_of_ble_eq_true rfl⟩ ⟨Nat.le_of_ble_eq_true rfl, Nat.le_of_ble_eq_true rfl, rfl, Nat.le_of_ble_eq_true rfl⟩ (fun v12 g12 m12 hp => ?_)
  obtain ⟨hv, hg, hm⟩ := hp
  subst v12
  subst g12
  subst m12
  refine r_aload_n hX dX5_letCometPass_15 rfl ?_
  refine r_dup hX dX5_letCometPass_16 rfl ?_
  refine r_getI hX dX5_letCometPass_17 (adAt hs hr hi) fl_X5_64 ?_
  refine r_iconst (v := 1) hX dX5_letCometPass_20 (by decide) ?_
  refine r_isub hX dX5_letCometPass_21 ?_
  refine r_putI hX dX5_letCometPass_22 (adAt hs hr hi) fl_X5_64 ?_
  refine r_aload_n hX dX5_letCometPass_25 rfl ?_
  refine r_dup hX dX5_letCometPass_26 rfl ?_
  refine r_getI hX dX5_letCometPass_27 (adAt hs hr hi) fl_X5_67 ?_
  refine r_aload_n hX dX5_letCometPass_30 rfl ?_
  refine r_getI hX dX5_letCometPass_31 (adAt hs hr hi) fl_X5_61 ?_
  refine r_iadd hX dX5_letCometPass_34 ?_
  refine r_putI hX dX5_letCometPass_35 (adAt hs hr hi) fl_X5_67 ?_
  refine r_aload_n hX dX5_letCometPass_38 rfl ?_
  refine r_dup hX dX5_letCometPass_39 rfl ?_
  refine r_getI hX dX5_letCometPass_40 (adAt hs hr hi) fl_X5_70 ?_
  refine r_iconst (v := 1) hX dX5_letCometPass_43 (by decide) ?_
  refine r_iadd hX dX5_letCometPass_44 ?_
  refine r_putI hX dX5_letCometPass_45 (adAt hs hr hi) fl_X5_70 ?_
  refine r_aload_n hX dX5_letCometPass_48 rfl ?_
  refine r_dup hX dX5_letCometPass_49 rfl ?_
  refine r_getI hX dX5_letCometPass_50 hs.1 fl_X5_48 ?_
  refine r_iconst (v := 1) hX dX5_letCometPass_53 (by decide) ?_
  refine r_iadd hX dX5_letCometPass_54 ?_
  refine r_putI hX dX5_letCometPass_55 hs.1 fl_X5_48 ?_
  refine r_vret hX dX5_letCometPass_58 ⟨rfl, rfl, hr.to rfl, ?_, ?_⟩ ⟨Nat.le_of_ble_eq_true rfl, Nat.le_of_ble_eq_true rfl⟩
  · obtain ⟨r1, r2, r3, r4, r5, r6⟩ := hr
    obtain ⟨v1, v2, v3, v4, v5⟩ := hV
    have h5 := r5 i hi
    have n1 : ad i ≠ q := by omega
    have n2 : ad i ≠ q + 8 := by omega
    have n3 : ad i ≠ q + 9 := by omega
    have n4 : ∀ k, q ≠ ad i + k ∨ k ≠ 0 := fun k => by omega
    refine ⟨fun k hk => ?_, fun j k hj hk => ?_, fun j hj => ?_, ?_, ?_⟩
    · have := v1 k hk
      have := v1 5 (by decide)
      simp only [qI_wI, passS]
      grind
    · have := v2 j k hj hk
      have := v2 i 1 hi (by decide)
      have := v2 i 2 hi (by decide)
      have := v2 i 3 hi (by decide)
      have := v2 i 4 hi (by decide)
      have := r5 j hj
      have := r6 j i hj hi
      simp only [qI_wI, passS]
      grind
    · have := v3 j hj
      have := v2 i 2 hi (by decide)
      simp only [qI_wI, passS]
      grind
    · have := v2 i 2 hi (by decide)
      simp only [qI_wI, passS]
      grind
    · simp only [qI_wI, passS]
      grind
  · have h5 := hr.2.2.2.2.1 i hi
    exact (((((((Outs.rf q 10 m).wI (by omega)).wI (by omega)).wI (by omega)).wI (by omega)).wI (by omega)).wI (by omega))
