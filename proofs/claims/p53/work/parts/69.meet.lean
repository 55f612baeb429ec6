/-! ===== both sides alike: meetings, alignment ===== -/
/-- both pass on day x -/
def IsMt (p1 d1 p2 d2 x : Nat) : Prop := d1 ≤ x ∧ p1 ∣ x - d1 ∧ d2 ≤ x ∧ p2 ∣ x - d2
def FirMt (p1 d1 p2 d2 M : Nat) : Prop := IsMt p1 d1 p2 d2 M ∧ ∀ x, IsMt p1 d1 p2 d2 x → M ≤ x
theorem mt_dec (p1 d1 p2 d2 : Nat) : (∃ M, FirMt p1 d1 p2 d2 M) ∨ ∀ x, ¬ IsMt p1 d1 p2 d2 x := by
  by_cases h : ∃ x, IsMt p1 d1 p2 d2 x
  · obtain ⟨M, h1, h2⟩ := pk_least _ h
    exact Or.inl ⟨M, h1, fun x hx => Classical.byContradiction (fun hn => h2 x (by omega) hx)⟩
  · exact Or.inr (fun x hx => h ⟨x, hx⟩)
theorem FirMt.bd {p1 d1 p2 d2 M : Nat} (h : FirMt p1 d1 p2 d2 M) (h1 : 1 ≤ p1) (h2 : 1 ≤ p2) : M < max d1 d2 + p1 * p2 := by
  obtain ⟨⟨a1, a2, a3, a4⟩, hm⟩ := h
  refine Classical.byContradiction (fun hn => ?_)
  have hK : 1 ≤ p1 * p2 := Nat.mul_pos h1 h2
  have h3 := hm (M - p1 * p2) ⟨by omega, by
    rw [show M - p1 * p2 - d1 = (M - d1) - p1 * p2 by omega]
    exact Nat.dvd_sub a2 (Nat.dvd_mul_right _ _), by omega, by
    rw [show M - p1 * p2 - d2 = (M - d2) - p1 * p2 by omega]
    exact Nat.dvd_sub a4 (Nat.dvd_mul_left _ _)⟩
  omega
/-! the reference's way: one's passes, one after the other -/
theorem pOn_iff {c : Nat → Nat} {d : Nat} : pOn c d ↔ c 3 ≤ d ∧ c 1 ∣ d - c 3 := ⟨fun h => ⟨h.1, Nat.dvd_of_mod_eq_zero h.2⟩, fun h => ⟨h.1, Nat.mod_eq_zero_of_dvd h.2⟩⟩
theorem scM_y {a b : Nat → Nat} {last M : Nat} (hp : 1 ≤ a 1) (hM : FirMt (a 1) (a 3) (b 1) (b 3) M) (hl : M ≤ last) : ∀ n d, a 3 ≤ d → a 1 ∣ d - a 3 → d ≤ M → M + 1 ≤ d + n → scM (a 1) b last n d = M
  | 0, d, _, _, h3, h4 => by omega
  | n + 1, d, h1, h2, h3, h4 => by
    unfold scM
    rw [if_neg (by omega)]
    by_cases e : pOn b d
    · rw [if_pos e]
      have := hM.2 d ⟨h1, h2, (pOn_iff.mp e).1, (pOn_iff.mp e).2⟩
      omega
    · rw [if_neg e]
      have hne : d ≠ M := fun q => e (pOn_iff.mpr (by rw [q]; exact ⟨hM.1.2.2.1, hM.1.2.2.2⟩))
      have hd : a 1 ∣ M - d := by
        rw [show M - d = (M - a 3) - (d - a 3) by omega]
        exact Nat.dvd_sub hM.1.2.1 h2
      have hle := Nat.le_of_dvd (by omega) hd
      refine scM_y hp hM hl n (d + a 1) (by omega) ?_ (by omega) (by omega)
      rw [show d + a 1 - a 3 = (d - a 3) + a 1 by omega]
      exact Nat.dvd_add h2 (Nat.dvd_refl _)
theorem scM_n {a b : Nat → Nat} {last : Nat} (hp : 1 ≤ a 1) (hM : ∀ x, ¬ IsMt (a 1) (a 3) (b 1) (b 3) x) : ∀ n d, a 3 ≤ d → a 1 ∣ d - a 3 → last < d + n → last < scM (a 1) b last n d
  | 0, d, _, _, h4 => h4
  | n + 1, d, h1, h2, h4 => by
    unfold scM
    by_cases e0 : last < d
    · rw [if_pos e0]; exact e0
    · rw [if_neg e0]
      by_cases e : pOn b d
      · exact absurd ⟨h1, h2, (pOn_iff.mp e).1, (pOn_iff.mp e).2⟩ (hM d)
      · rw [if_neg e]
        refine scM_n hp hM n (d + a 1) (by omega) ?_ (by omega)
        rw [show d + a 1 - a 3 = (d - a 3) + a 1 by omega]
        exact Nat.dvd_add h2 (Nat.dvd_refl _)
theorem dyM_y {a b : Nat → Nat} {M : Nat} (h1 : 1 ≤ a 1) (h2 : 1 ≤ b 1) (hM : FirMt (a 1) (a 3) (b 1) (b 3) M) : dyM a b = M ∧ dyM a b ≤ laM a b := by
  have hb := hM.bd h1 h2
  have hl : M ≤ laM a b := by unfold laM; omega
  have e : dyM a b = M := scM_y h1 hM hl _ _ (Nat.le_refl _) (by rw [Nat.sub_self]; exact Nat.dvd_zero _) hM.1.1 (by omega)
  exact ⟨e, by rw [e]; exact hl⟩
theorem dyM_n {a b : Nat → Nat} (h1 : 1 ≤ a 1) (hM : ∀ x, ¬ IsMt (a 1) (a 3) (b 1) (b 3) x) : ¬ dyM a b ≤ laM a b :=
  Nat.not_le.mpr (scM_n h1 hM _ _ (Nat.le_refl _) (by rw [Nat.sub_self]; exact Nat.dvd_zero _) (by omega))
/-! the class's first way: both walk -/
theorem wk_y {p1 d1 p2 d2 M : Nat} (h1 : 1 ≤ p1) (h2 : 1 ≤ p2) (hM : FirMt p1 d1 p2 d2 M) (hb : M < 2 ^ 30) : ∀ (n i j x y : Nat), i + j ≤ n → d1 ≤ x → p1 ∣ x - d1 → x + i * p1 = M → d2 ≤ y → p2 ∣ y - d2 → y + j * p2 = M → itr wkC (wkS (nI p1) (nI p2)) n (nI x, nI y) = (nI M, nI M)
  | 0, i, j, x, y, hn, a1, a2, a3, b1, b2, b3 => by
    have e1 : i = 0 := by omega
    have e2 : j = 0 := by omega
    subst e1 e2
    rw [Nat.zero_mul, Nat.add_zero] at a3 b3
    rw [a3, b3]; rfl
  | n + 1, i, j, x, y, hn, a1, a2, a3, b1, b2, b3 => by
    by_cases e : x = y
    · subst e
      have hx := hM.2 x ⟨a1, a2, b1, b2⟩
      have hxM : x = M := by omega
      rw [itr_f (by simp [wkC]), hxM]
    · have hc : wkC (nI x, nI y) = true := by
        simp only [wkC, decide_eq_true_eq]
        exact fun q => e ((nI_eq (by omega) (by omega)).mp q)
      rw [itr_t hc]
      by_cases hle : y ≤ x
      · have hs : wkS (nI p1) (nI p2) (nI x, nI y) = (nI x, nI (y + p2)) := by
          unfold wkS
          rw [if_pos ((nI_leI (by omega) (by omega)).mpr hle), ← nI_add]
        obtain ⟨j', rfl⟩ : ∃ j', j = j' + 1 := by
          rcases j with _ | j'
          · rw [Nat.zero_mul] at b3; omega
          · exact ⟨j', rfl⟩
        rw [Nat.succ_mul] at b3
        rw [hs]
        refine wk_y h1 h2 hM hb n i j' x (y + p2) (by omega) a1 a2 a3 (by omega) ?_ (by omega)
        rw [show y + p2 - d2 = (y - d2) + p2 by omega]
        exact Nat.dvd_add b2 (Nat.dvd_refl _)
      · have hs : wkS (nI p1) (nI p2) (nI x, nI y) = (nI (x + p1), nI y) := by
          unfold wkS
          rw [if_neg (fun q => hle ((nI_leI (by omega) (by omega)).mp q)), ← nI_add]
        obtain ⟨i', rfl⟩ : ∃ i', i = i' + 1 := by
          rcases i with _ | i'
          · rw [Nat.zero_mul] at a3; omega
          · exact ⟨i', rfl⟩
        rw [Nat.succ_mul] at a3
        rw [hs]
        refine wk_y h1 h2 hM hb n i' j (x + p1) y (by omega) (by omega) ?_ (by omega) b1 b2 b3
        rw [show x + p1 - d1 = (x - d1) + p1 by omega]
        exact Nat.dvd_add a2 (Nat.dvd_refl _)
theorem wk_n {p1 d1 p2 d2 : Nat} (h1 : p1 ≤ 60) (h2 : p2 ≤ 60) (hM : ∀ x, ¬ IsMt p1 d1 p2 d2 x) : ∀ (n x y : Nat), d1 ≤ x → p1 ∣ x - d1 → d2 ≤ y → p2 ∣ y - d2 → x + 60 * n < 2 ^ 31 → y + 60 * n < 2 ^ 31 → ¬ (itr wkC (wkS (nI p1) (nI p2)) n (nI x, nI y)).1 = (itr wkC (wkS (nI p1) (nI p2)) n (nI x, nI y)).2
  | 0, x, y, a1, a2, b1, b2, c1, c2 => fun q => by
    have q : nI x = nI y := q
    have := (nI_eq (by omega) (by omega)).mp q
    subst this
    exact hM x ⟨a1, a2, b1, b2⟩
  | n + 1, x, y, a1, a2, b1, b2, c1, c2 => by
    have e : ¬ x = y := fun q => by
      subst q
      exact hM x ⟨a1, a2, b1, b2⟩
    have hc : wkC (nI x, nI y) = true := by
      simp only [wkC, decide_eq_true_eq]
      exact fun q => e ((nI_eq (by omega) (by omega)).mp q)
    rw [itr_t hc]
    by_cases hle : y ≤ x
    · have hs : wkS (nI p1) (nI p2) (nI x, nI y) = (nI x, nI (y + p2)) := by
        unfold wkS
        rw [if_pos ((nI_leI (by omega) (by omega)).mpr hle), ← nI_add]
      rw [hs]
      refine wk_n h1 h2 hM n x (y + p2) a1 a2 (by omega) ?_ (by omega) (by omega)
      rw [show y + p2 - d2 = (y - d2) + p2 by omega]
      exact Nat.dvd_add b2 (Nat.dvd_refl _)
    · have hs : wkS (nI p1) (nI p2) (nI x, nI y) = (nI (x + p1), nI y) := by
        unfold wkS
        rw [if_neg (fun q => hle ((nI_leI (by omega) (by omega)).mp q)), ← nI_add]
      rw [hs]
      refine wk_n h1 h2 hM n (x + p1) y (by omega) ?_ b1 b2 (by omega) (by omega)
      rw [show x + p1 - d1 = (x - d1) + p1 by omega]
      exact Nat.dvd_add a2 (Nat.dvd_refl _)
theorem wk_steps {p1 d1 p2 d2 : Nat} (h1 : p1 ≤ 60) (h2 : p2 ≤ 60) (h3 : d1 < 2 ^ 28) (h4 : d2 < 2 ^ 28) : (nI p1 + nI p2 + (if 0 ≤ nI d1 - nI d2 then nI d1 - nI d2 else 0 - (nI d1 - nI d2))).toNatClampNeg = p1 + p2 + ((d1 - d2) + (d2 - d1)) := by
  by_cases e : d2 ≤ d1
  · rw [pk_sub e, if_pos (nI_pos' (by omega)), nI_add, nI_add, nI_clamp (by omega)]
    omega
  · have hn : nI d1 - nI d2 < 0 := pk_sneg (by omega) (by omega)
    rw [if_neg (Int32.not_le.mpr hn), Int32.zero_sub, Int32.neg_sub, pk_sub (by omega), nI_add, nI_add, nI_clamp (by omega)]
    omega
/-- the number of steps is enough -/
theorem wk_enough {p1 d1 p2 d2 M i j : Nat} (h1 : 1 ≤ p1) (h2 : 1 ≤ p2) (hb : M < max d1 d2 + p1 * p2) (hi : d1 + i * p1 = M) (hj : d2 + j * p2 = M) : i + j ≤ p1 + p2 + ((d1 - d2) + (d2 - d1)) := by
  have hi2 : i < p2 + (d2 - d1) + 1 := Classical.byContradiction (fun q => by
    have := Nat.mul_le_mul_right p1 (show p2 + (d2 - d1) + 1 ≤ i by omega)
    rw [Nat.add_mul, Nat.add_mul, Nat.mul_comm p2 p1] at this
    have := Nat.le_mul_of_pos_right (d2 - d1) h1
    omega)
  have hj2 : j < p1 + (d1 - d2) + 1 := Classical.byContradiction (fun q => by
    have := Nat.mul_le_mul_right p2 (show p1 + (d1 - d2) + 1 ≤ j by omega)
    rw [Nat.add_mul, Nat.add_mul] at this
    have := Nat.le_mul_of_pos_right (d1 - d2) h2
    omega)
  by_cases e : d1 ≤ d2
  · by_cases e2 : d1 = d2
    · omega
    · omega
  · omega
theorem walk_y {p1 d1 p2 d2 M : Nat} (h1 : 1 ≤ p1 ∧ p1 ≤ 60) (h2 : 1 ≤ p2 ∧ p2 ≤ 60) (h3 : d1 < 2 ^ 28) (h4 : d2 < 2 ^ 28) (hM : FirMt p1 d1 p2 d2 M) : mWalk (nI p1) (nI d1) (nI p2) (nI d2) = nI M := by
  have hb := hM.bd h1.1 h2.1
  have hpp : p1 * p2 ≤ 60 * 60 := Nat.mul_le_mul h1.2 h2.2
  obtain ⟨i, hi⟩ := hM.1.2.1
  obtain ⟨j, hj⟩ := hM.1.2.2.2
  have m1 := hM.1.1
  have m2 := hM.1.2.2.1
  have hi' : d1 + i * p1 = M := by rw [Nat.mul_comm]; omega
  have hj' : d2 + j * p2 = M := by rw [Nat.mul_comm]; omega
  have e := wk_y h1.1 h2.1 hM (by omega) (p1 + p2 + ((d1 - d2) + (d2 - d1))) i j d1 d2 (wk_enough h1.1 h2.1 hb hi' hj') (Nat.le_refl _) (by rw [Nat.sub_self]; exact Nat.dvd_zero _) hi' (Nat.le_refl _) (by rw [Nat.sub_self]; exact Nat.dvd_zero _) hj'
  unfold mWalk
  rw [wk_steps h1.2 h2.2 h3 h4, e, if_pos rfl]
theorem walk_n {p1 d1 p2 d2 : Nat} (h1 : 1 ≤ p1 ∧ p1 ≤ 60) (h2 : 1 ≤ p2 ∧ p2 ≤ 60) (h3 : d1 < 2 ^ 20) (h4 : d2 < 2 ^ 20) (hM : ∀ x, ¬ IsMt p1 d1 p2 d2 x) : mWalk (nI p1) (nI d1) (nI p2) (nI d2) = -1 := by
  have e := wk_n h1.2 h2.2 hM (p1 + p2 + ((d1 - d2) + (d2 - d1))) d1 d2 (Nat.le_refl _) (by rw [Nat.sub_self]; exact Nat.dvd_zero _) (Nat.le_refl _) (by rw [Nat.sub_self]; exact Nat.dvd_zero _) (by omega) (by omega)
  unfold mWalk
  rw [wk_steps h1.2 h2.2 (by omega) (by omega), if_neg e]
