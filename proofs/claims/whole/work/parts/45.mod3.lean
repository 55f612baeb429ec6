/-! ===== CometObservatoryModel: days, and the seven commands ===== -/
/-- what a command answers: its number; what it leaves when that is 0 -/
def pM (y : Nat) (g : qG) (m : qM) (R : kA) : Option Value → qG → qM → Prop := fun v g' m' => v = some (.int (nI R.1)) ∧ g' = g ∧ RepF (rowF m' y 0) R.2.2 ∧ (R.1 = 0 → qI m' y 4 = R.2.1) ∧ MF (P0 y) m m'
theorem PR_0 {y : Nat} {m m' : qM} (h : MF (PR y) m m') : MF (P0 y) m m' := h.mono (fun a j hp => Or.inl hp)
theorem live_c (d : Nat) (c : Nat → Nat) (L : List (Nat → Nat)) : liveL (passL d (c :: L)) = if pasD d c 2 ≠ 0 then pasD d c :: liveL (passL d L) else liveL (passL d L) := by
  unfold liveL passL
  rw [List.map_cons, List.filter_cons]
  by_cases e : pasD d c 2 = 0
  · rw [if_neg (by simp [e]), if_neg (not_not_intro e)]
  · rw [if_pos (by simp [e]), if_pos e]
theorem eraseIdx_pre (pre post : List (Nat → Nat)) (c : Nat → Nat) : (pre ++ c :: post).eraseIdx pre.length = pre ++ post := by
  rw [List.eraseIdx_append_of_length_le (Nat.le_refl _), Nat.sub_self]
  rfl
theorem upd65 {H H' : Nat → Nat} {a b a' b' : Nat} (h : ∀ k, k ≠ 5 → k ≠ 6 → H k = H' k) (ha : a = a') (hb : b = b') : updH (updH H 5 a) 6 b = updH (updH H' 5 a') 6 b' := by
  subst ha; subst hb
  funext k
  unfold updH
  by_cases k6 : k = 6
  · rw [if_pos k6, if_pos k6]
  · rw [if_neg k6, if_neg k6]
    by_cases k5 : k = 5
    · rw [if_pos k5, if_pos k5]
    · rw [if_neg k5, if_neg k5]; exact h k k5 k6
theorem RepF.eq {f : Nat → Int32} {V V' : kV} (h : RepF f V) (e : V = V') : RepF f V' := e ▸ h
theorem live_len (d : Nat) (L : List (Nat → Nat)) : (liveL (passL d L)).length ≤ L.length := by
  have h := liveL_le (passL d L)
  rw [passL_len] at h
  exact h
theorem pcnt_n {d : Nat} {c : Nat → Nat} {L : List (Nat → Nat)} (h : ¬ c 3 = d) : pcnt d (c :: L) = pcnt d L := by
  unfold pcnt; rw [if_neg h, Nat.zero_add]
  cases L <;> rfl
theorem pcnt_y {d : Nat} {c : Nat → Nat} {L : List (Nat → Nat)} (h : c 3 = d) : pcnt d (c :: L) = 1 + pcnt d L := by
  conv => lhs; unfold pcnt
  rw [if_pos h]
theorem falls_n {d : Nat} {c : Nat → Nat} {L : List (Nat → Nat)} (h : ¬ c 3 = d) : falls d (c :: L) = falls d L := by
  conv => lhs; unfold falls
  rw [if_neg h, Nat.zero_add]
theorem falls_y {d : Nat} {c : Nat → Nat} {L : List (Nat → Nat)} (h : c 3 = d) : falls d (c :: L) = c 2 + falls d L := by
  conv => lhs; unfold falls
  rw [if_pos h]
theorem pasD_n {d : Nat} {c : Nat → Nat} (h : ¬ c 3 = d) : pasD d c = c := if_neg h
theorem pasD_y {d : Nat} {c : Nat → Nat} (h : c 3 = d) : pasD d c = pasC c := if_pos h
set_option maxRecDepth 20000 in
set_option maxHeartbeats 4000000 in
theorem s_X8_goesBy_l {E : qE} {X : qX} {Q : State → Prop} {g : qG} {m : qM} (hX : MC E yX8_goesBy cX8_goesBy 4 (some .int) 2 0 0 [] X) {y : Nat} (hs : ModS g m y) : ∀ (post pre : List (Nat → Nat)) (H f : Nat → Nat) (m1 : qM) (N : Nat) (o : Option Value), RepF (rowF m1 y 0) (pre ++ post, H, f) → (pre ++ post).length ≤ 6 → H 2 < 2 ^ 31 → (∀ c ∈ post, 1 ≤ c 2 ∧ c 2 < 2 ^ 31 ∧ c 3 < 2 ^ 31) → MF (PR y) m m1 → (∀ (m2 : qM) (o2 : Option Value), RepF (rowF m2 y 0) (pre ++ liveL (passL (H 2) post), updH (updH H 5 (H 5 + pcnt (H 2) post)) 6 (H 6 + (post.length - (liveL (passL (H 2) post)).length)), fun j => if j = H 2 % 12 then f j + falls (H 2) post else f j) → MF (PR y) m m2 → ∀ k : Int32, WS E X 0 0 Q g m2 94 [some (.ref y), some (.int (nI (N + pcnt (H 2) post))), some (.int k), o2] []) → WS E X 0 0 Q g m1 14 [some (.ref y), some (.int (nI N)), some (.int (nI pre.length)), o] [] := by
  intro post
  induction post with
  | nil =>
    intro pre H f m1 N o hR hl hd hc hM K
    have h0 : qI m1 (y + 1) 0 = nI pre.length := hR.r0.trans (congrArg nI (by simp))
    refine r_iload_n hX dX8_goesBy_14 rfl ?_
    refine r_aload_n hX dX8_goesBy_15 rfl ?_
    refine r_getR hX dX8_goesBy_16 hs.1.1 fl_X8_9 (hs.to hM.2).2.1 ?_
    refine r_iconst (v := 0) hX dX8_goesBy_19 (by decide) ?_
    refine r_ialoadN hX dX8_goesBy_20 hs.1.2.1 (show 0 < 539 by decide) (by decide) ?_
    rw [h0]
    refine r_icmp_ge (tgt := 94) hX dX8_goesBy_21 (by decide) (fun c21 => ?_) (fun c21 => ?_)
    · exact K m1 o (hR.eq (congr (congrArg Prod.mk rfl) (congr (congrArg Prod.mk (funext fun k => by unfold updH; by_cases k6 : k = 6; rw [if_pos k6, k6]; rfl; rw [if_neg k6]; by_cases k5 : k = 5; rw [if_pos k5, k5]; rfl; rw [if_neg k5])) (funext fun j => by split <;> rfl)))) hM _
    · exact absurd (Int32.le_refl _) c21
  | cons c post ih =>
    intro pre H f m1 N o hR hl hd hc hM K
    have hl6 : pre.length + (post.length + 1) ≤ 6 := by simpa using hl
    have h0 : qI m1 (y + 1) 0 = nI (pre.length + (post.length + 1)) := hR.r0.trans (congrArg nI (by simp))
    obtain ⟨h2a, h2b, h3⟩ := hc c List.mem_cons_self
    have h2 : 1 ≤ c 2 ∧ c 2 < 2 ^ 31 := ⟨h2a, h2b⟩
    have hlen1 : ∀ c : Nat → Nat, (pre ++ [c]).length = pre.length + 1 := fun c => by rw [List.length_append]; rfl
    have e3 : qI m1 (y + 1) (7 + 5 * pre.length + 3) = nI (c 3) := by rw [hR.rC (by simp) (by decide)]; exact congrArg (fun z => nI (z 3)) (cAt_pre _ _ _)
    refine r_iload_n hX dX8_goesBy_14 rfl ?_
    refine r_aload_n hX dX8_goesBy_15 rfl ?_
    refine r_getR hX dX8_goesBy_16 hs.1.1 fl_X8_9 (hs.to hM.2).2.1 ?_
    refine r_iconst (v := 0) hX dX8_goesBy_19 (by decide) ?_
    refine r_ialoadN hX dX8_goesBy_20 hs.1.2.1 (show 0 < 539 by decide) (by decide) ?_
    rw [h0]
    refine r_icmp_ge (tgt := 94) hX dX8_goesBy_21 (by decide) (fun c21 => ?_) (fun c21 => ?_)
    · exact absurd c21 (nI_ge (by omega) (by omega))
    · refine r_aload_n hX dX8_goesBy_24 rfl ?_
      refine r_iload_n hX dX8_goesBy_25 rfl ?_
      refine r_iconst (v := 3) hX dX8_goesBy_26 (by decide) ?_
      refine r_callV hX dX8_goesBy_27 (s_X8_c E g m1 y (hs.to hM.2) pre.length 3 (by omega)) ml_X8_49 rfl rfl hs.1.1 rfl ⟨Nat.le_of_ble_eq_true rfl, Nat.le_of_ble_eq_true rfl⟩ ⟨Nat.le_of_ble_eq_true rfl, Nat.le_of_ble_eq_true rfl, rfl, Nat.le_of_ble_eq_true rfl⟩ (fun v27 g27 m27 hp => ?_)
      obtain ⟨hv, hg, hm⟩ := hp
      subst v27
      subst g27
      subst m27
      rw [e3]
      refine r_aload_n hX dX8_goesBy_30 rfl ?_
      refine r_getR hX dX8_goesBy_31 hs.1.1 fl_X8_9 (hs.to hM.2).2.1 ?_
      refine r_iconst (v := 2) hX dX8_goesBy_34 (by decide) ?_
      refine r_ialoadN hX dX8_goesBy_35 hs.1.2.1 (show 2 < 539 by decide) (by decide) ?_
      rw [hR.rH (k := 2) (by decide) (by decide)]
      refine r_icmp_ne (tgt := 43) hX dX8_goesBy_36 (by decide) (fun c36 => ?_) (fun c36 => ?_)
      · have hne : ¬ c 3 = H 2 := fun h => c36 (congrArg nI h)
        refine r_iconst (v := 0) hX dX8_goesBy_43 (by decide) ?_
        refine r_istore_n hX dX8_goesBy_44 (Nat.le_of_ble_eq_true rfl) rfl ?_
        refine r_iload_n hX dX8_goesBy_45 rfl ?_
        refine r_iload_n hX dX8_goesBy_46 rfl ?_
        refine r_if_eq (tgt := 54) hX dX8_goesBy_47 (by decide) (fun c47 => ?_) (fun c47 => ?_)
        · refine r_iconst (v := 0) hX dX8_goesBy_54 (by decide) ?_
          refine r_iadd hX dX8_goesBy_55 ?_
          rw [Int32.add_zero]
          refine r_istore_n hX dX8_goesBy_56 (Nat.le_of_ble_eq_true rfl) rfl ?_
          refine r_iload_n hX dX8_goesBy_57 rfl ?_
          refine r_if_eq (tgt := 88) hX dX8_goesBy_58 (by decide) (fun c58 => ?_) (fun c58 => ?_)
          · refine r_iinc (v := nI (pre.length + 1)) hX dX8_goesBy_88 rfl (ii1 _) rfl ?_
            refine r_goto (tgt := 14) hX dX8_goesBy_91 (by decide) ?_
            rw [← hlen1 c]
            refine ih (pre ++ [c]) H f m1 N _ (hR.eq (by rw [List.append_assoc]; rfl)) (by simpa using hl) hd (fun c' hc' => hc c' (List.mem_cons_of_mem _ hc')) hM (fun m2 o2 hR2 hM2 => ?_)
            rw [show N + pcnt (H 2) post = N + pcnt (H 2) (c :: post) by rw [pcnt_n hne]]
            refine K m2 o2 (hR2.eq ?_) hM2
            rw [live_c, if_pos (by rw [pasD_n hne]; omega), pasD_n hne, List.append_assoc, pcnt_n hne, falls_n hne]
            simp only [List.length_cons]
            rw [Nat.add_sub_add_right]
            rfl
          · exact absurd rfl c58
        · exact absurd rfl c47
      · have heq : c 3 = H 2 := (nI_eq h3 hd).mp c36
        refine r_iconst (v := 1) hX dX8_goesBy_39 (by decide) ?_
        refine r_goto (tgt := 44) hX dX8_goesBy_40 (by decide) ?_
        refine r_istore_n hX dX8_goesBy_44 (Nat.le_of_ble_eq_true rfl) rfl ?_
        refine r_iload_n hX dX8_goesBy_45 rfl ?_
        refine r_iload_n hX dX8_goesBy_46 rfl ?_
        refine r_if_eq (tgt := 54) hX dX8_goesBy_47 (by decide) (fun c47 => ?_) (fun c47 => ?_)
        · exact absurd c47 (by decide)
        · refine r_iconst (v := 1) hX dX8_goesBy_50 (by decide) ?_
          refine r_goto (tgt := 55) hX dX8_goesBy_51 (by decide) ?_
          refine r_iadd hX dX8_goesBy_55 ?_
          rw [nI_1]
          refine r_istore_n hX dX8_goesBy_56 (Nat.le_of_ble_eq_true rfl) rfl ?_
          refine r_iload_n hX dX8_goesBy_57 rfl ?_
          refine r_if_eq (tgt := 88) hX dX8_goesBy_58 (by decide) (fun c58 => ?_) (fun c58 => ?_)
          · exact absurd c58 (by decide)
          · refine r_aload_n hX dX8_goesBy_61 rfl ?_
            refine r_iload_n hX dX8_goesBy_62 rfl ?_
            refine r_callV hX dX8_goesBy_63 (s_X8_passes E g m1 y (hs.to hM.2) pre post c H f hR hl ⟨h2.1, h2.2⟩ heq hd) ml_X8_61 rfl rfl hs.1.1 rfl ⟨Nat.le_of_ble_eq_true rfl, Nat.le_of_ble_eq_true rfl⟩ ⟨Nat.le_of_ble_eq_true rfl, Nat.le_of_ble_eq_true rfl, rfl, Nat.le_of_ble_eq_true rfl⟩ (fun v63 g63 m63 hp => ?_)
            obtain ⟨hv, hg, hR2, hM9⟩ := hp
            subst v63
            subst g63
            have hM2 := hM.tr hM9
            refine r_if_eq (tgt := 88) hX dX8_goesBy_66 (by decide) (fun c66 => ?_) (fun c66 => ?_)
            · refine r_iinc (v := nI (pre.length + 1)) hX dX8_goesBy_88 rfl (ii1 _) rfl ?_
              refine r_goto (tgt := 14) hX dX8_goesBy_91 (by decide) ?_
              have hne : ¬ c 2 = 1 := fun h => absurd c66 (by rw [if_pos h]; decide)
              rw [← hlen1 (pasC c)]
              refine ih (pre ++ [pasC c]) (updH H 5 (H 5 + 1)) _ m63 (N + 1) _ (hR2.eq (by rw [List.append_assoc]; rfl)) (by simpa using hl) hd (fun c' hc' => hc c' (List.mem_cons_of_mem _ hc')) hM2 (fun m2 o2 hR3 hM3 => ?_)
              rw [show N + 1 + pcnt (updH H 5 (H 5 + 1) 2) post = N + pcnt (H 2) (c :: post) by rw [pcnt_y heq]; exact Nat.add_assoc _ _ _]
              refine K m2 o2 (hR3.eq ?_) hM3
              rw [live_c, if_pos (by rw [pasD_y heq]; show c 2 - 1 ≠ 0; omega), pasD_y heq, List.append_assoc, pcnt_y heq, falls_y heq]
              simp only [List.length_cons]
              rw [Nat.add_sub_add_right]
              refine congr (congrArg Prod.mk rfl) (congr (congrArg Prod.mk (upd65 (fun k k5 _ => if_neg k5) ?_ ?_)) (funext fun j => ?_))
              · show H 5 + 1 + pcnt (H 2) post = _; omega
              · show H 6 + _ = _; rfl
              · show (if j = H 2 % 12 then (if j = H 2 % 12 then f j + c 2 else f j) + falls (H 2) post else if j = H 2 % 12 then f j + c 2 else f j) = _
                by_cases e : j = H 2 % 12
                · rw [if_pos e, if_pos e, if_pos e, Nat.add_assoc]
                · rw [if_neg e, if_neg e, if_neg e]
            · have heq1 : c 2 = 1 := Classical.byContradiction (fun h => c66 (by rw [if_neg h]))
              have hl2 : (pre ++ pasC c :: post).length ≤ 6 := by simpa using hl
              refine r_aload_n hX dX8_goesBy_69 rfl ?_
              refine r_iload_n hX dX8_goesBy_70 rfl ?_
              refine r_callV hX dX8_goesBy_71 (s_X8_goes E g m63 y (hs.to hM2.2) _ hR2 hl2 pre.length (by simp)) ml_X8_65 rfl rfl hs.1.1 rfl ⟨Nat.le_of_ble_eq_true rfl, Nat.le_of_ble_eq_true rfl⟩ ⟨Nat.le_of_ble_eq_true rfl, Nat.le_of_ble_eq_true rfl, rfl, Nat.le_of_ble_eq_true rfl⟩ (fun v71 g71 m71 hp => ?_)
              obtain ⟨hv, hg, hR3, hM8⟩ := hp
              subst v71
              subst g71
              have hM3 := hM2.tr hM8
              have hR3 := hR3.eq (congr (congrArg Prod.mk (eraseIdx_pre pre post (pasC c))) rfl)
              refine r_aload_n hX dX8_goesBy_74 rfl ?_
              refine r_getR hX dX8_goesBy_75 hs.1.1 fl_X8_9 (hs.to hM3.2).2.1 ?_
              refine r_bipush (v := 6) hX dX8_goesBy_78 (by decide) ?_
              refine r_dup2 hX dX8_goesBy_80 rfl rfl ?_
              refine r_ialoadN hX dX8_goesBy_81 hs.1.2.1 (show 6 < 539 by decide) (by decide) ?_
              rw [hR3.rH (k := 6) (by decide) (by decide)]
              refine r_iconst (v := 1) hX dX8_goesBy_82 (by decide) ?_
              refine r_iadd hX dX8_goesBy_83 ?_
              rw [nI_1]
              refine r_iastoreN hX dX8_goesBy_84 hs.1.2.1 (show 6 < 539 by decide) (by decide) ?_
              have hR4 := hR3.wH (k := 6) (v := H 6 + 1) (by decide)
              have hM4 := hM3.wI (a := y + 1) (k := 6) (v := nI (H 6 + 1)) ⟨rfl, by decide⟩
              refine r_goto (tgt := 91) hX dX8_goesBy_85 (by decide) ?_
              refine r_goto (tgt := 14) hX dX8_goesBy_91 (by decide) ?_
              refine ih pre _ _ _ (N + 1) _ hR4 (by have : pre.length + (post.length + 1) ≤ 6 := by simpa using hl
                                                    rw [List.length_append]; omega) hd (fun c' hc' => hc c' (List.mem_cons_of_mem _ hc')) hM4 (fun m2 o2 hR5 hM5 => ?_)
              rw [show N + 1 + pcnt (updH (updH H 5 (H 5 + 1)) 6 (H 6 + 1) 2) post = N + pcnt (H 2) (c :: post) by rw [pcnt_y heq]; exact Nat.add_assoc _ _ _]
              refine K m2 o2 (hR5.eq ?_) hM5
              have hll := live_len (H 2) post
              rw [live_c, if_neg (by rw [pasD_y heq]; show ¬ c 2 - 1 ≠ 0; omega), pcnt_y heq, falls_y heq]
              simp only [List.length_cons]
              refine congr (congrArg Prod.mk rfl) (congr (congrArg Prod.mk (upd65 (fun k k5 k6 => (if_neg k6).trans (if_neg k5)) ?_ ?_)) (funext fun j => ?_))
              · show H 5 + 1 + pcnt (H 2) post = _; omega
              · show H 6 + 1 + (post.length - (liveL (passL (H 2) post)).length) = _; omega
              · show (if j = H 2 % 12 then (if j = H 2 % 12 then f j + c 2 else f j) + falls (H 2) post else if j = H 2 % 12 then f j + c 2 else f j) = _
                by_cases e : j = H 2 % 12
                · rw [if_pos e, if_pos e, if_pos e, Nat.add_assoc]
                · rw [if_neg e, if_neg e, if_neg e]
