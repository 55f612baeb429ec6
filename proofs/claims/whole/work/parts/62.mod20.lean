/-! ===== CometObservatoryModel: a command, the parse ===== -/
set_option maxRecDepth 20000 in
set_option maxHeartbeats 4000000 in
theorem s_X8_command (E : qE) (g : qG) (m : qM) (y : Nat) (hs : ModS g m y) (n : Nat) (tx : Nat → Int32) (h c : Nat) (hp : PaM m y n tx (h, none)) (h14 : qI m y 14 = nI c) (hc60 : c ≤ 60) : Sp E yX8_command cX8_command 5 none 4 0 0 [.ref y] g m (pK y g m n tx c (comM tx n h)) := by
  refine Sp.of (by decide) [some (.ref y), none, none, none, none] rfl rfl (Nat.le_of_ble_eq_true rfl) (fun X hX => ?_)
  obtain ⟨p1, p2, p3, p4, p5, p6, p7⟩ := id hp
  refine r_iconst (v := 4) hX dX8_command_0 (by decide) ?_
  refine r_aload_n hX dX8_command_1 rfl ?_
  refine r_getI hX dX8_command_2 hs.1.1 fl_X8_181 ?_
  rw [h14]
  refine r_imul hX dX8_command_5 ?_
  rw [show (4 : Int32) * nI c = nI (4 * c) from pk_mul 4 c]
  refine r_istore_n hX dX8_command_6 (Nat.le_of_ble_eq_true rfl) rfl ?_
  refine r_aload_n hX dX8_command_7 rfl ?_
  refine r_getI hX dX8_command_8 hs.1.1 fl_X8_166 ?_
  rw [p4]
  refine r_istore_n hX dX8_command_11 (Nat.le_of_ble_eq_true rfl) rfl ?_
  refine r_aload_n hX dX8_command_12 rfl ?_
  refine r_dup hX dX8_command_13 rfl ?_
  refine r_getI hX dX8_command_14 hs.1.1 fl_X8_181 ?_
  rw [h14]
  refine r_iconst (v := 1) hX dX8_command_17 (by decide) ?_
  refine r_iadd hX dX8_command_18 ?_
  rw [nI_1]
  refine r_putI hX dX8_command_19 hs.1.1 fl_X8_181 ?_
  refine r_aload_n hX dX8_command_22 rfl ?_
  refine r_callV hX dX8_command_23 (s_X8_sign E g _ y (by exact hs.to rfl) n tx (h, none) (by exact hp.mv (fun j hj => qI_wI_k _ _ _ _ (by omega)) (fun j => qI_wI_a _ _ _ _ (by omega)))) ml_X8_172 rfl rfl hs.1.1 rfl ⟨Nat.le_of_ble_eq_true rfl, Nat.le_of_ble_eq_true rfl⟩ ⟨Nat.le_of_ble_eq_true rfl, Nat.le_of_ble_eq_true rfl, rfl, Nat.le_of_ble_eq_true rfl⟩ (fun v23 g23 m23 hp => ?_)
  obtain ⟨hv, hg, hm⟩ := hp
  subst v23
  subst g23
  subst m23
  refine r_istore_n hX dX8_command_26 (Nat.le_of_ble_eq_true rfl) rfl ?_
  refine r_iconst (v := 0) hX dX8_command_27 (by decide) ?_
  refine r_istore hX dX8_command_28 (Nat.le_of_ble_eq_true rfl) rfl ?_
  refine s_X8_command_z (g := g) (m := wI m y 14 (nI (c + 1))) hX (hs.to rfl) (to := 4 * c) (by omega) 4 0 _ (by decide) ⟨fun a j => by rw [if_neg (by omega)], rfl⟩ (fun j9 m2 hm2 => ?_)
  have e2 : ∀ a j, ¬ (a = y + 5 ∧ 4 * c ≤ j ∧ j < 4 * c + 4) → ¬ (a = y ∧ j = 14) → qI m2 a j = qI m a j := fun a j h1 h2 => by rw [hm2.1, if_neg h1, qI_wI, if_neg h2]
  refine r_aload_n hX dX8_command_52 rfl ?_
  refine r_getR hX dX8_command_53 hs.1.1 fl_X8_30 (hs.to hm2.2).2.2.2.2.2.1 ?_
  refine r_iload_n hX dX8_command_56 rfl ?_
  refine r_iload_n hX dX8_command_57 rfl ?_
  refine r_iastoreN hX dX8_command_58 hs.1.2.2.2.2.2.1 (show 4 * c < 244 by omega) (by decide) ?_
  refine r_aload_n hX dX8_command_59 rfl ?_
  refine r_dup hX dX8_command_60 rfl ?_
  refine r_getI hX dX8_command_61 hs.1.1 fl_X8_166 ?_
  rw [show qI (wI m2 (y + 5) (4 * c) (sgM tx n h)) y 9 = nI h by rw [qI_wI_a _ _ _ _ (by omega), e2 _ _ (by omega) (by omega)]; exact p4]
  refine r_iconst (v := 1) hX dX8_command_64 (by decide) ?_
  refine r_iadd hX dX8_command_65 ?_
  rw [nI_1]
  refine r_putI hX dX8_command_66 hs.1.1 fl_X8_166 ?_
  refine r_iload_n hX dX8_command_69 rfl ?_
  refine s_X8_command_s (g := g) (m := m) (mB := wI (wI m2 (y + 5) (4 * c) (sgM tx n h)) y 9 (nI (h + 1))) hX (hs.to hm2.2) hc60 ⟨fun a j hn => ?_, hm2.2⟩ (fun hlt => ?_) (fun m3 q1 q2 q3 q4 => ?_) ?_ ?_ (fun i hi => ?_) j9
  · unfold PCm at hn
    rw [qI_wI, if_neg (by omega), qI_wI, if_neg (by omega)]; exact e2 a j (by omega) (by omega)
  · refine hp.h (s := (h, none)) (fun j hj => ?_) (fun j => ?_) (qI_wI_s _ _ _ _) hlt
    · rw [qI_wI_k _ _ _ _ (by omega), qI_wI_a _ _ _ _ (by omega)]; exact e2 _ _ (by omega) (by omega)
    · rw [qI_wI_a _ _ _ _ (by omega), qI_wI_a _ _ _ _ (by omega)]; exact e2 _ _ (by omega) (by omega)
  · have r8 : qI m3 y 8 = qI m y 8 := by rw [q1 8 (by decide) (by decide), qI_wI_k _ _ _ _ (by decide), qI_wI_a _ _ _ _ (by omega)]; exact e2 _ _ (by omega) (by omega)
    exact ⟨r8.trans p1, p2, fun j hj => by rw [q2, qI_wI_a _ _ _ _ (by omega), qI_wI_a _ _ _ _ (by omega), e2 _ _ (by omega) (by omega)]; exact p3 j hj, q3, p5, q4, fun e he => by cases he; exact p5⟩
  · rw [qI_wI_k _ _ _ _ (by decide), qI_wI_a _ _ _ _ (by omega), hm2.1, if_neg (by omega), qI_wI_s]
  · rw [qI_wI_a _ _ _ _ (by omega), qI_wI_s]
  · rw [qI_wI_a _ _ _ _ (by omega), qI_wI_k _ _ _ _ (by omega), hm2.1, if_pos ⟨rfl, by omega, by omega⟩]
/-- what is read: the error, how many, the commands -/
abbrev kPm : Type := Option Nat × Nat × (Nat → Int32 × List Int32)
def updC (cs : Nat → Int32 × List Int32) (c : Nat) (v : Int32 × List Int32) : Nat → Int32 × List Int32 := fun j => if j = c then v else cs j
def parM (tx : Nat → Int32) (n : Nat) : Nat → Nat → Nat → (Nat → Int32 × List Int32) → kPm
  | 0, c, _, cs => (none, c, cs)
  | k + 1, c, h, cs => match (comM tx n h).2.2.2 with
    | some e => (some e, c + 1, updC cs c ((comM tx n h).1, (comM tx n h).2.1))
    | none => if sgM tx n (comM tx n h).2.2.1 = 59 then parM tx n k (c + 1) ((comM tx n h).2.2.1 + 1) (updC cs c ((comM tx n h).1, (comM tx n h).2.1))
      else (if (comM tx n h).2.2.1 < n then some (comM tx n h).2.2.1 else none, c + 1, updC cs c ((comM tx n h).1, (comM tx n h).2.1))
theorem parM_e {tx : Nat → Int32} {n k c h e : Nat} {cs : Nat → Int32 × List Int32} (hq : (comM tx n h).2.2.2 = some e) : parM tx n (k + 1) c h cs = (some e, c + 1, updC cs c ((comM tx n h).1, (comM tx n h).2.1)) := by conv => lhs; unfold parM; rw [hq]
theorem parM_s {tx : Nat → Int32} {n k c h : Nat} {cs : Nat → Int32 × List Int32} (hq : (comM tx n h).2.2.2 = none) : parM tx n (k + 1) c h cs = if sgM tx n (comM tx n h).2.2.1 = 59 then parM tx n k (c + 1) ((comM tx n h).2.2.1 + 1) (updC cs c ((comM tx n h).1, (comM tx n h).2.1)) else (if (comM tx n h).2.2.1 < n then some (comM tx n h).2.2.1 else none, c + 1, updC cs c ((comM tx n h).1, (comM tx n h).2.1)) := by conv => lhs; unfold parM; rw [hq]
/-- the commands stand in their row -/
def CoM (m : qM) (y c : Nat) (cs : Nat → Int32 × List Int32) : Prop := ∀ i, i < c → qI m (y + 5) (4 * i) = (cs i).1 ∧ ∀ j, j < 3 → qI m (y + 5) (4 * i + 1 + j) = (cs i).2.getD j 0
/-- what the parser changes -/
def PP (y : Nat) : Nat → Nat → Prop := fun a j => a = y + 5 ∨ (a = y ∧ (j = 9 ∨ j = 10 ∨ j = 14))
theorem PC_P {y to : Nat} {m m' : qM} (h : MF (PCm y to) m m') : MF (PP y) m m' := h.mono (fun a j hp => by unfold PCm at hp; unfold PP; omega)
theorem CoM.up {m m' : qM} {y c : Nat} {cs : Nat → Int32 × List Int32} {v : Int32 × List Int32} (h : CoM m y c cs) (hM : MF (PCm y (4 * c)) m m') (h1 : qI m' (y + 5) (4 * c) = v.1) (h2 : ∀ j, j < 3 → qI m' (y + 5) (4 * c + 1 + j) = v.2.getD j 0) : CoM m' y (c + 1) (updC cs c v) := by
  intro i hi
  unfold updC
  by_cases e : i = c
  · subst e
    rw [if_pos rfl]; exact ⟨h1, h2⟩
  · rw [if_neg e]
    obtain ⟨a1, a2⟩ := h i (by omega)
    exact ⟨(hM.1 _ _ (by unfold PCm; omega)).trans a1, fun j hj => (hM.1 _ _ (by unfold PCm; omega)).trans (a2 j hj)⟩
theorem CoM.mv {m m' : qM} {y c : Nat} {cs : Nat → Int32 × List Int32} (h : CoM m y c cs) (he : ∀ j, qI m' (y + 5) j = qI m (y + 5) j) : CoM m' y c cs := fun i hi => ⟨(he _).trans (h i hi).1, fun j hj => (he _).trans ((h i hi).2 j hj)⟩
/-- read: text, error, count, commands -/
def RdM (m : qM) (y n : Nat) (tx : Nat → Int32) (r : kPm) : Prop := qI m y 10 = oI r.1 ∧ (∀ e, r.1 = some e → e ≤ n) ∧ qI m y 14 = nI r.2.1 ∧ r.2.1 ≤ 61 ∧ CoM m y r.2.1 r.2.2
/-- a place with no error is not behind -/
theorem needM_up {tx : Nat → Int32} {n : Nat} {c : Int32} {s : kP2} : s.1 ≤ (needM tx n c s).1 := by
  obtain ⟨h, e⟩ := s
  rcases e with _ | e
  · by_cases hq : sgM tx n h = c
    · rw [needM_y hq]; exact Nat.le_succ h
    · rw [needM_n hq]; exact Nat.le_refl h
  · exact Nat.le_refl h
theorem wordM_up {tx : Nat → Int32} {n : Nat} : ∀ {l : List Int32} {s : kP2}, s.1 ≤ (wordM tx n l s).1
  | [], s => Nat.le_refl _
  | c :: l, s => Nat.le_trans needM_up (wordM_up (l := l) (s := needM tx n c s))
theorem rN_up {tx : Nat → Int32} {n : Nat} : ∀ {k p : Nat} {v : Int32}, p ≤ (rN tx n k p v).2
  | 0, p, v => Nat.le_refl p
  | k + 1, p, v => by
    by_cases hd : digA tx n p = true
    · rw [rN_y hd]; exact Nat.le_trans (Nat.le_succ p) rN_up
    · rw [rN_n hd]; exact Nat.le_refl p
theorem numM_up {tx : Nat → Int32} {n d : Nat} {s : kP2} : s.1 ≤ (numM tx n d s).2.1 := by
  have h1 := needM_up (tx := tx) (n := n) (c := 32) (s := s)
  rcases hq : (needM tx n 32 s).2 with _ | e
  · rw [numM_s hq]
    split
    · exact Nat.le_trans h1 rN_up
    · exact h1
  · rw [numM_e hq]; exact h1
theorem numsM_up {tx : Nat → Int32} {n : Nat} : ∀ {k : Nat} {s : kP2}, s.1 ≤ (numsM tx n k s).2.1
  | 0, s => Nat.le_refl _
  | k + 1, s => Nat.le_trans numM_up (numsM_up (k := k) (s := (numM tx n 2 s).2))
theorem needM_u1 {tx : Nat → Int32} {n h : Nat} {c : Int32} {e : Option Nat} : h ≤ (needM tx n c (h, e)).1 := needM_up (s := (h, e))
theorem wordM_u1 {tx : Nat → Int32} {n h : Nat} {l : List Int32} {e : Option Nat} : h ≤ (wordM tx n l (h, e)).1 := wordM_up (s := (h, e))
theorem comM_up {tx : Nat → Int32} {n h : Nat} (hq : (comM tx n h).2.2.2 = none) : h < (comM tx n h).2.2.1 := by
  unfold comM at hq ⊢
  have b : ∀ s : kP2, h + 1 ≤ s.1 → h < s.1 := fun s hs => hs
  split
  · exact b _ (Nat.le_trans (Nat.le_trans wordM_u1 needM_up) numsM_up)
  · split
    · split
      · exact b _ (Nat.le_trans (Nat.le_trans needM_u1 needM_up) numsM_up)
      · exact b _ (Nat.le_trans wordM_u1 numsM_up)
    · split
      · exact b _ (Nat.le_trans wordM_u1 numsM_up)
      · split
        · exact b _ (Nat.le_trans (Nat.le_trans wordM_u1 needM_up) numsM_up)
        · split
          · exact b _ (Nat.le_trans (Nat.le_trans needM_u1 needM_up) numsM_up)
          · split
            · exact b _ (Nat.le_trans wordM_u1 numM_up)
            · rename_i h1 h2 h3 h4 h5 h6
              rw [if_neg h1, if_neg h2, if_neg h3, if_neg h4, if_neg h5, if_neg h6] at hq
              cases hq
set_option maxRecDepth 20000 in
set_option maxHeartbeats 4000000 in
theorem s_X8_parse_l {E : qE} {X : qX} {Q : State → Prop} {g : qG} {m : qM} (hX : MC E yX8_parse cX8_parse 1 none 5 0 0 [] X) {y : Nat} (hs : ModS g m y) {n : Nat} {tx : Nat → Int32} : ∀ (k c h : Nat) (cs : Nat → Int32 × List Int32) (m1 : qM), c ≤ h → c ≤ 60 → n < h + k + 1 → PaM m1 y n tx (comM tx n h).2.2 → qI m1 y 14 = nI (c + 1) → CoM m1 y (c + 1) (updC cs c ((comM tx n h).1, (comM tx n h).2.1)) → MF (PP y) m m1 → (∀ (m2 : qM), RdM m2 y n tx (parM tx n (k + 1) c h cs) → MF (PP y) m m2 → WS E X 0 0 Q g m2 78 [some (.ref y)] []) → WS E X 0 0 Q g m1 19 [some (.ref y)] [] := by
  intro k
  induction k with
  | zero =>
    intro c h cs m1 hch hc60 hk hp h14 hC hM K
    rcases hq : (comM tx n h).2.2 with ⟨h2, e⟩
    rw [hq] at hp
    obtain ⟨p1, p2, p3, p4, p5, p6, p7⟩ := id hp
    refine r_aload_n hX dX8_parse_19 rfl ?_
    refine r_getI hX dX8_parse_20 hs.1.1 fl_X8_169 ?_
    rw [p6]
    refine r_if_ge (tgt := 52) hX dX8_parse_23 (by decide) (fun c23 => ?_) (fun c23 => ?_)
    · rcases e with _ | e
      · exact absurd c23 (show ¬ (0 : Int32) ≤ oI none by decide)
      · have eR := parM_e (k := 0) (c := c) (cs := cs) (show (comM tx n h).2.2.2 = some e by rw [hq])
        refine r_aload_n hX dX8_parse_52 rfl ?_
        refine r_getI hX dX8_parse_53 hs.1.1 fl_X8_169 ?_
        rw [p6]
        refine r_if_ge (tgt := 78) hX dX8_parse_56 (by decide) (fun c56 => ?_) (fun c56 => ?_)
        · exact K m1 (by rw [eR]; exact ⟨p6, fun e9 he => by cases he; exact p7 e rfl, h14, by show c + 1 ≤ 61; omega, hC⟩) hM
        · exact absurd (show (0 : Int32) ≤ oI (some e) from nI_pos' (by have := p7 e rfl; omega)) c56
    · rcases e with _ | e
      · refine r_aload_n hX dX8_parse_26 rfl ?_
        refine r_callV hX dX8_parse_27 (s_X8_sign E g m1 y (hs.to hM.2) n tx (h2, none) hp) ml_X8_172 rfl rfl hs.1.1 rfl ⟨Nat.le_of_ble_eq_true rfl, Nat.le_of_ble_eq_true rfl⟩ ⟨Nat.le_of_ble_eq_true rfl, Nat.le_of_ble_eq_true rfl, rfl, Nat.le_of_ble_eq_true rfl⟩ (fun v27 g27 m27 hp => ?_)
        obtain ⟨hv, hg, hm⟩ := hp
        subst v27
        subst g27
        subst m27
        refine r_bipush (v := 59) hX dX8_parse_30 (by decide) ?_
        refine r_icmp_ne (tgt := 52) hX dX8_parse_32 (by decide) (fun c32 => ?_) (fun c32 => ?_)
        · have eR := parM_s (k := 0) (c := c) (cs := cs) (show (comM tx n h).2.2.2 = none by rw [hq])
          rw [hq, if_neg (show ¬ sgM tx n h2 = 59 from c32)] at eR
          refine r_aload_n hX dX8_parse_52 rfl ?_
          refine r_getI hX dX8_parse_53 hs.1.1 fl_X8_169 ?_
          rw [p6]
          refine r_if_ge (tgt := 78) hX dX8_parse_56 (by decide) (fun c56 => ?_) (fun c56 => ?_)
          · exact absurd c56 (show ¬ (0 : Int32) ≤ oI none by decide)
          · refine r_aload_n hX dX8_parse_59 rfl ?_
            refine r_getI hX dX8_parse_60 hs.1.1 fl_X8_166 ?_
            rw [p4]
            refine r_aload_n hX dX8_parse_63 rfl ?_
            refine r_getI hX dX8_parse_64 hs.1.1 fl_X8_163 ?_
            rw [p1]
            refine r_icmp_ge (tgt := 78) hX dX8_parse_67 (by decide) (fun c67 => ?_) (fun c67 => ?_)
            · have h1 : ¬ h2 < n := fun q => absurd c67 (nI_ge q (by omega))
              rw [if_neg h1] at eR
              exact K m1 (by rw [eR]; exact ⟨p6, (fun e9 he => absurd he (by simp)), h14, by show c + 1 ≤ 61; omega, hC⟩) hM
            · have h1 : h2 < n := Nat.lt_of_not_le (fun q => c67 (nI_le q (by omega)))
              rw [if_pos h1] at eR
              refine r_aload_n hX dX8_parse_70 rfl ?_
              refine r_aload_n hX dX8_parse_71 rfl ?_
              refine r_getI hX dX8_parse_72 hs.1.1 fl_X8_166 ?_
              rw [p4]
              refine r_putI hX dX8_parse_75 hs.1.1 fl_X8_169 ?_
              exact K _ (by rw [eR]; exact ⟨qI_wI_s _ _ _ _, fun e9 he => by cases he; exact p5, (qI_wI_k _ _ _ _ (by decide)).trans h14, by show c + 1 ≤ 61; omega, hC.mv (fun j => qI_wI_a _ _ _ _ (by omega))⟩) (hM.wI (Or.inr ⟨rfl, Or.inr (Or.inl rfl)⟩))
        · have hlt := sg_lt (tx := tx) (n := n) (h := h2) (by decide) c32
          have hh2 := comM_up (tx := tx) (n := n) (h := h) (by rw [hq])
          rw [hq] at hh2
          have hh2 : h < h2 := hh2
          omega
      · exact absurd (nI_pos' (by have := p7 e rfl; omega)) c23
  | succ k ih =>
    intro c h cs m1 hch hc60 hk hp h14 hC hM K
    rcases hq : (comM tx n h).2.2 with ⟨h2, e⟩
    rw [hq] at hp
    obtain ⟨p1, p2, p3, p4, p5, p6, p7⟩ := id hp
    refine r_aload_n hX dX8_parse_19 rfl ?_
    refine r_getI hX dX8_parse_20 hs.1.1 fl_X8_169 ?_
    rw [p6]
    refine r_if_ge (tgt := 52) hX dX8_parse_23 (by decide) (fun c23 => ?_) (fun c23 => ?_)
    · rcases e with _ | e
      · exact absurd c23 (show ¬ (0 : Int32) ≤ oI none by decide)
      · have eR := parM_e (k := k + 1) (c := c) (cs := cs) (show (comM tx n h).2.2.2 = some e by rw [hq])
        refine r_aload_n hX dX8_parse_52 rfl ?_
        refine r_getI hX dX8_parse_53 hs.1.1 fl_X8_169 ?_
        rw [p6]
        refine r_if_ge (tgt := 78) hX dX8_parse_56 (by decide) (fun c56 => ?_) (fun c56 => ?_)
        · exact K m1 (by rw [eR]; exact ⟨p6, fun e9 he => by cases he; exact p7 e rfl, h14, by show c + 1 ≤ 61; omega, hC⟩) hM
        · exact absurd (show (0 : Int32) ≤ oI (some e) from nI_pos' (by have := p7 e rfl; omega)) c56
    · rcases e with _ | e
      · refine r_aload_n hX dX8_parse_26 rfl ?_
        refine r_callV hX dX8_parse_27 (s_X8_sign E g m1 y (hs.to hM.2) n tx (h2, none) hp) ml_X8_172 rfl rfl hs.1.1 rfl ⟨Nat.le_of_ble_eq_true rfl, Nat.le_of_ble_eq_true rfl⟩ ⟨Nat.le_of_ble_eq_true rfl, Nat.le_of_ble_eq_true rfl, rfl, Nat.le_of_ble_eq_true rfl⟩ (fun v27 g27 m27 hp => ?_)
        obtain ⟨hv, hg, hm⟩ := hp
        subst v27
        subst g27
        subst m27
        refine r_bipush (v := 59) hX dX8_parse_30 (by decide) ?_
        refine r_icmp_ne (tgt := 52) hX dX8_parse_32 (by decide) (fun c32 => ?_) (fun c32 => ?_)
        · have eR := parM_s (k := k + 1) (c := c) (cs := cs) (show (comM tx n h).2.2.2 = none by rw [hq])
          rw [hq, if_neg (show ¬ sgM tx n h2 = 59 from c32)] at eR
          refine r_aload_n hX dX8_parse_52 rfl ?_
          refine r_getI hX dX8_parse_53 hs.1.1 fl_X8_169 ?_
          rw [p6]
          refine r_if_ge (tgt := 78) hX dX8_parse_56 (by decide) (fun c56 => ?_) (fun c56 => ?_)
          · exact absurd c56 (show ¬ (0 : Int32) ≤ oI none by decide)
          · refine r_aload_n hX dX8_parse_59 rfl ?_
            refine r_getI hX dX8_parse_60 hs.1.1 fl_X8_166 ?_
            rw [p4]
            refine r_aload_n hX dX8_parse_63 rfl ?_
            refine r_getI hX dX8_parse_64 hs.1.1 fl_X8_163 ?_
            rw [p1]
            refine r_icmp_ge (tgt := 78) hX dX8_parse_67 (by decide) (fun c67 => ?_) (fun c67 => ?_)
            · have h1 : ¬ h2 < n := fun q => absurd c67 (nI_ge q (by omega))
              rw [if_neg h1] at eR
              exact K m1 (by rw [eR]; exact ⟨p6, (fun e9 he => absurd he (by simp)), h14, by show c + 1 ≤ 61; omega, hC⟩) hM
            · have h1 : h2 < n := Nat.lt_of_not_le (fun q => c67 (nI_le q (by omega)))
              rw [if_pos h1] at eR
              refine r_aload_n hX dX8_parse_70 rfl ?_
              refine r_aload_n hX dX8_parse_71 rfl ?_
              refine r_getI hX dX8_parse_72 hs.1.1 fl_X8_166 ?_
              rw [p4]
              refine r_putI hX dX8_parse_75 hs.1.1 fl_X8_169 ?_
              exact K _ (by rw [eR]; exact ⟨qI_wI_s _ _ _ _, fun e9 he => by cases he; exact p5, (qI_wI_k _ _ _ _ (by decide)).trans h14, by show c + 1 ≤ 61; omega, hC.mv (fun j => qI_wI_a _ _ _ _ (by omega))⟩) (hM.wI (Or.inr ⟨rfl, Or.inr (Or.inl rfl)⟩))
        · have hlt := sg_lt (tx := tx) (n := n) (h := h2) (by decide) c32
          have eR := parM_s (k := k + 1) (c := c) (cs := cs) (show (comM tx n h).2.2.2 = none by rw [hq])
          rw [hq, if_pos (show sgM tx n h2 = 59 from c32)] at eR
          have hh2 := comM_up (tx := tx) (n := n) (h := h) (by rw [hq])
          rw [hq] at hh2
          have hh2 : h < h2 := hh2
          refine r_aload_n hX dX8_parse_35 rfl ?_
          refine r_dup hX dX8_parse_36 rfl ?_
          refine r_getI hX dX8_parse_37 hs.1.1 fl_X8_166 ?_
          rw [p4]
          refine r_iconst (v := 1) hX dX8_parse_40 (by decide) ?_
          refine r_iadd hX dX8_parse_41 ?_
          rw [nI_1]
          refine r_putI hX dX8_parse_42 hs.1.1 fl_X8_166 ?_
          refine r_aload_n hX dX8_parse_45 rfl ?_
          refine r_callV hX dX8_parse_46 (s_X8_command E g _ y (by exact hs.to hM.2) n tx (h2 + 1) (c + 1) (by exact hp.h (s := (h2, none)) (fun j hj => qI_wI_k _ _ _ _ (by omega)) (fun j => qI_wI_a _ _ _ _ (by omega)) (qI_wI_s _ _ _ _) hlt) (by exact (qI_wI_k _ _ _ _ (by decide)).trans h14) (by omega)) ml_X8_190 rfl rfl hs.1.1 rfl ⟨Nat.le_of_ble_eq_true rfl, Nat.le_of_ble_eq_true rfl⟩ ⟨Nat.le_of_ble_eq_true rfl, Nat.le_of_ble_eq_true rfl, rfl, Nat.le_of_ble_eq_true rfl⟩ (fun v46 g46 m46 hp => ?_)
          obtain ⟨hv, hg, hp46, h46, hL46, hn46, hM46⟩ := hp
          subst v46
          subst g46
          refine r_goto (tgt := 19) hX dX8_parse_49 (by decide) ?_
          have hM1 := hM.wI (a := y) (k := 9) (v := nI (h2 + 1)) (Or.inr ⟨rfl, Or.inl rfl⟩)
          refine ih (c + 1) (h2 + 1) (updC cs c ((comM tx n h).1, (comM tx n h).2.1)) m46 (by omega) (by omega) (by omega) hp46 h46 (CoM.up (m := wI m1 y 9 (nI (h2 + 1))) (hC.mv (fun j => qI_wI_a _ _ _ _ (by omega))) hM46 hL46 hn46) (hM1.tr (PC_P hM46)) (fun m2 hr hm2 => K m2 (by rw [eR]; exact hr) hm2)
      · exact absurd (nI_pos' (by have := p7 e rfl; omega)) c23
