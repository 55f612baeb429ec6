/-! ===== both sides alike: the telescope ===== -/
theorem brC_0 {c : Nat → Nat} {D : Nat} (h : D < c 3) : brC c D = 0 := if_pos h
theorem brC_y {c : Nat → Nat} {D : Nat} (h : c 3 ≤ D) (h2 : (D - c 3) % c 1 = 0) : brC c D = c 2 - (D - c 3) / c 1 := by unfold brC; rw [if_neg (by omega), if_pos h2]
theorem brC_n {c : Nat → Nat} {D : Nat} (h : c 3 ≤ D) (h2 : ¬ (D - c 3) % c 1 = 0) : brC c D = 0 := by unfold brC; rw [if_neg (by omega), if_neg h2]
def MemU (s : kU) (q : kP) : Prop := ∃ i, i < s.2 ∧ s.1 i = q
def SrtT (T : Nat → kP) (n : Nat) : Prop := ∀ i j, i < j → j < n → (T i).2.1 ≤ (T j).2.1
theorem slotT_hi {T : Nat → kP} {d : Nat} : ∀ n i, slotT T d n ≤ i → i < n → d < (T i).2.1
  | 0, i, _, h => absurd h (Nat.not_lt_zero i)
  | n + 1, i, h1, h2 => by
    unfold slotT at h1
    by_cases e : d < (T n).2.1
    · rw [if_pos e] at h1
      by_cases e2 : i = n
      · rw [e2]; exact e
      · exact slotT_hi n i h1 (by omega)
    · rw [if_neg e] at h1; omega
theorem slotT_lo {T : Nat → kP} {d : Nat} : ∀ n, SrtT T n → ∀ i, i < slotT T d n → (T i).2.1 ≤ d
  | 0, _, i, h => absurd h (Nat.not_lt_zero i)
  | n + 1, hs, i, h => by
    unfold slotT at h
    by_cases e : d < (T n).2.1
    · rw [if_pos e] at h
      exact slotT_lo n (fun i j a b => hs i j a (by omega)) i h
    · rw [if_neg e] at h
      by_cases e2 : i = n
      · rw [e2]; omega
      · have := hs i n (by omega) (by omega)
        omega
theorem insU_mem {s : kU} {p q : kP} : MemU (insU s p) q ↔ MemU s q ∨ q = p := by
  have hsl := slotT_le s.1 p.2.1 s.2
  have e : ∀ i, (insU s p).1 i = if i < slotT s.1 p.2.1 s.2 then s.1 i else if i = slotT s.1 p.2.1 s.2 then p else s.1 (i - 1) := fun i => rfl
  constructor
  · rintro ⟨i, hi, hq⟩
    have hi : i < s.2 + 1 := hi
    rw [e] at hq
    by_cases h1 : i < slotT s.1 p.2.1 s.2
    · rw [if_pos h1] at hq
      exact Or.inl ⟨i, by omega, hq⟩
    · rw [if_neg h1] at hq
      by_cases h2 : i = slotT s.1 p.2.1 s.2
      · rw [if_pos h2] at hq
        exact Or.inr hq.symm
      · rw [if_neg h2] at hq
        exact Or.inl ⟨i - 1, by omega, hq⟩
  · rintro (⟨i, hi, hq⟩ | hq)
    · by_cases h1 : i < slotT s.1 p.2.1 s.2
      · exact ⟨i, by show i < s.2 + 1; omega, by rw [e, if_pos h1]; exact hq⟩
      · exact ⟨i + 1, by show i + 1 < s.2 + 1; omega, by rw [e, if_neg (by omega), if_neg (by omega), Nat.add_sub_cancel]; exact hq⟩
    · exact ⟨slotT s.1 p.2.1 s.2, by show _ < s.2 + 1; omega, by rw [e, if_neg (Nat.lt_irrefl _), if_pos rfl]; exact hq.symm⟩
theorem insU_srt {s : kU} {p : kP} (h : SrtT s.1 s.2) : SrtT (insU s p).1 (insU s p).2 := by
  have hsl := slotT_le s.1 p.2.1 s.2
  have e : ∀ i, (insU s p).1 i = if i < slotT s.1 p.2.1 s.2 then s.1 i else if i = slotT s.1 p.2.1 s.2 then p else s.1 (i - 1) := fun i => rfl
  have hlo := slotT_lo (d := p.2.1) s.2 h
  have hhi := slotT_hi (T := s.1) (d := p.2.1) s.2
  intro i j hij hj
  have hj : j < s.2 + 1 := hj
  rw [e, e]
  by_cases h1 : i < slotT s.1 p.2.1 s.2
  · rw [if_pos h1]
    by_cases h2 : j < slotT s.1 p.2.1 s.2
    · rw [if_pos h2]; exact h i j hij (by omega)
    · rw [if_neg h2]
      by_cases h3 : j = slotT s.1 p.2.1 s.2
      · rw [if_pos h3]; exact hlo i h1
      · rw [if_neg h3]; exact h i (j - 1) (by omega) (by omega)
  · rw [if_neg h1, if_neg (by omega : ¬ j < slotT s.1 p.2.1 s.2), if_neg (by omega : ¬ j = slotT s.1 p.2.1 s.2)]
    by_cases h3 : i = slotT s.1 p.2.1 s.2
    · rw [if_pos h3]
      exact Nat.le_of_lt (hhi (j - 1) (by omega) (by omega))
    · rw [if_neg h3]; exact h (i - 1) (j - 1) (by omega) (by omega)
/-- the passes of a comet (period p, brightness w, first day f) that can be followed within D days -/
def PasT (D p w f : Nat) (q : kP) : Prop := ∃ v, 1 ≤ v ∧ v ≤ w ∧ q = (f + (w - v) * p, f + (w - v) * p + v / 5, v) ∧ f + (w - v) * p + v / 5 ≤ D
theorem aimC_mem {D p : Nat} {q : kP} : ∀ (w f : Nat) (s : kU), MemU (aimC D p w f s) q ↔ MemU s q ∨ PasT D p w f q
  | 0, f, s => by
    unfold aimC
    refine ⟨Or.inl, fun h => ?_⟩
    rcases h with h | ⟨v, h1, h2, -⟩
    · exact h
    · omega
  | w + 1, f, s => by
    have step : ∀ v, v ≤ w → (w + 1 - v) * p = p + (w - v) * p := fun v hv => by
      rw [show w + 1 - v = (w - v) + 1 by omega, Nat.succ_mul, Nat.add_comm]
    unfold aimC
    by_cases hf : f ≤ D
    · rw [if_pos hf, aimC_mem w (f + p)]
      by_cases hl : f + (w + 1) / 5 ≤ D
      · rw [if_pos hl, insU_mem]
        constructor
        · rintro ((h | h) | ⟨v, h1, h2, h3, h4⟩)
          · exact Or.inl h
          · exact Or.inr ⟨w + 1, by omega, Nat.le_refl _, by rw [Nat.sub_self, Nat.zero_mul, Nat.add_zero]; exact h, by rw [Nat.sub_self, Nat.zero_mul, Nat.add_zero]; exact hl⟩
          · exact Or.inr ⟨v, h1, by omega, by rw [step v h2, ← Nat.add_assoc]; exact h3, by rw [step v h2, ← Nat.add_assoc]; exact h4⟩
        · rintro (h | ⟨v, h1, h2, h3, h4⟩)
          · exact Or.inl (Or.inl h)
          · by_cases hv : v = w + 1
            · subst hv
              rw [Nat.sub_self, Nat.zero_mul, Nat.add_zero] at h3
              exact Or.inl (Or.inr h3)
            · rw [step v (by omega), ← Nat.add_assoc] at h3 h4
              exact Or.inr ⟨v, h1, by omega, h3, h4⟩
      · rw [if_neg hl]
        constructor
        · rintro (h | ⟨v, h1, h2, h3, h4⟩)
          · exact Or.inl h
          · exact Or.inr ⟨v, h1, by omega, by rw [step v h2, ← Nat.add_assoc]; exact h3, by rw [step v h2, ← Nat.add_assoc]; exact h4⟩
        · rintro (h | ⟨v, h1, h2, h3, h4⟩)
          · exact Or.inl h
          · by_cases hv : v = w + 1
            · subst hv
              rw [Nat.sub_self, Nat.zero_mul, Nat.add_zero] at h4
              exact absurd h4 hl
            · rw [step v (by omega), ← Nat.add_assoc] at h3 h4
              exact Or.inr ⟨v, h1, by omega, h3, h4⟩
    · rw [if_neg hf]
      refine ⟨Or.inl, fun h => ?_⟩
      rcases h with h | ⟨v, h1, h2, h3, h4⟩
      · exact h
      · exact absurd (by omega : f ≤ D) hf
theorem aimC_srt {D p : Nat} : ∀ (w f : Nat) (s : kU), SrtT s.1 s.2 → SrtT (aimC D p w f s).1 (aimC D p w f s).2
  | 0, _, _, h => h
  | w + 1, f, s, h => by
    unfold aimC
    by_cases hf : f ≤ D
    · rw [if_pos hf]
      refine aimC_srt w (f + p) _ ?_
      by_cases hl : f + (w + 1) / 5 ≤ D
      · rw [if_pos hl]; exact insU_srt h
      · rw [if_neg hl]; exact h
    · rw [if_neg hf]; exact h
theorem aimA_mem {D : Nat} {C : Nat → Nat × Nat × Nat} {q : kP} : ∀ n, MemU (aimA D C n) q ↔ ∃ i, i < n ∧ PasT D (C i).1 (C i).2.1 (C i).2.2 q
  | 0 => ⟨fun h => let ⟨i, h1, _⟩ := h; absurd h1 (Nat.not_lt_zero i), fun h => let ⟨i, h1, _⟩ := h; absurd h1 (Nat.not_lt_zero i)⟩
  | n + 1 => by
    unfold aimA
    rw [aimC_mem, aimA_mem n]
    constructor
    · rintro (⟨i, h1, h2⟩ | h)
      · exact ⟨i, by omega, h2⟩
      · exact ⟨n, by omega, h⟩
    · rintro ⟨i, h1, h2⟩
      by_cases e : i = n
      · subst e; exact Or.inr h2
      · exact Or.inl ⟨i, by omega, h2⟩
theorem aimA_srt {D : Nat} {C : Nat → Nat × Nat × Nat} : ∀ n, SrtT (aimA D C n).1 (aimA D C n).2
  | 0 => fun i j _ h => absurd h (Nat.not_lt_zero j)
  | n + 1 => aimC_srt _ _ _ (aimA_srt n)
/-- with how much brightness a comet passes -/
theorem brC_iff {c : Nat → Nat} {D0 d v : Nat} (hp : 1 ≤ c 1) (hn : D0 < c 3) (hv : 1 ≤ v) : brC c (D0 + d) = v ↔ v ≤ c 2 ∧ d = c 3 - D0 + (c 2 - v) * c 1 := by
  constructor
  · intro h
    by_cases h1 : D0 + d < c 3
    · rw [brC_0 h1] at h; omega
    · by_cases h2 : (D0 + d - c 3) % c 1 = 0
      · rw [brC_y (by omega) h2] at h
        have h3 := Nat.div_add_mod (D0 + d - c 3) (c 1)
        rw [h2, Nat.add_zero, Nat.mul_comm] at h3
        generalize (D0 + d - c 3) / c 1 = q at h h3
        have h4 : c 2 - v = q := by omega
        rw [h4, h3]
        omega
      · rw [brC_n (by omega) h2] at h; omega
  · rintro ⟨h1, h2⟩
    have h3 : D0 + d - c 3 = (c 2 - v) * c 1 := by omega
    rw [brC_y (by omega) (by rw [h3]; exact Nat.mul_mod_left _ _), h3, Nat.mul_div_cancel _ (by omega)]
    omega
/-! the better of two -/
def le2 (a b : Nat × Nat) : Prop := a.1 < b.1 ∨ (a.1 = b.1 ∧ b.2 ≤ a.2)
def BestS (S : Nat × Nat → Prop) (r : Nat × Nat) : Prop := S r ∧ ∀ x, S x → le2 x r
theorem BestS.uniq {S : Nat × Nat → Prop} {a b : Nat × Nat} (ha : BestS S a) (hb : BestS S b) : a = b := by
  have h1 := ha.2 b hb.1
  have h2 := hb.2 a ha.1
  unfold le2 at h1 h2
  exact Prod.ext (by omega) (by omega)
theorem le2_tr {a b c : Nat × Nat} (h1 : le2 a b) (h2 : le2 b c) : le2 a c := by
  unfold le2 at *; omega
theorem offr_best {S : Nat × Nat → Prop} {c : Nat × Nat} {w p : Nat} (h : BestS S c) : BestS (fun x => S x ∨ x = (w, p)) (offr c w p) := by
  unfold offr
  by_cases e : c.1 < w ∨ (w = c.1 ∧ p < c.2)
  · rw [if_pos e]
    refine ⟨Or.inr rfl, fun x hx => ?_⟩
    rcases hx with hx | rfl
    · exact le2_tr (h.2 x hx) (by show c.1 < w ∨ (c.1 = w ∧ p ≤ c.2); omega)
    · exact Or.inr ⟨rfl, Nat.le_refl _⟩
  · rw [if_neg e]
    refine ⟨Or.inl h.1, fun x hx => ?_⟩
    rcases hx with hx | rfl
    · exact h.2 x hx
    · show w < c.1 ∨ (w = c.1 ∧ c.2 ≤ p); omega
theorem BestS.congr {S S' : Nat × Nat → Prop} {r : Nat × Nat} (h : BestS S r) (e : ∀ x, S x ↔ S' x) : BestS S' r := ⟨(e r).mp h.1, fun x hx => h.2 x ((e x).mpr hx)⟩
/-- what a pass offers -/
def candT (WP : Nat → Nat × Nat) (q : kP) : Nat × Nat := (q.2.2 + (WP (q.2.1 + 1)).1, 1 + (WP (q.2.1 + 1)).2)
theorem offs_best {T : Nat → kP} {d : Nat} {WP : Nat → Nat × Nat} : ∀ n, BestS (fun x => x = WP (d + 1) ∨ ∃ i, i < n ∧ (T i).1 = d ∧ x = candT WP (T i)) (offs T d WP n)
  | 0 => ⟨Or.inl rfl, fun x hx => by
    rcases hx with rfl | ⟨i, h, -⟩
    · exact Or.inr ⟨rfl, Nat.le_refl _⟩
    · exact absurd h (Nat.not_lt_zero i)⟩
  | n + 1 => by
    have ih := offs_best (T := T) (d := d) (WP := WP) n
    unfold offs
    by_cases e : (T n).1 = d
    · rw [if_pos e]
      refine (offr_best ih).congr (fun x => ?_)
      constructor
      · rintro ((h | ⟨i, h1, h2, h3⟩) | h)
        · exact Or.inl h
        · exact Or.inr ⟨i, by omega, h2, h3⟩
        · exact Or.inr ⟨n, by omega, e, h⟩
      · rintro (h | ⟨i, h1, h2, h3⟩)
        · exact Or.inl (Or.inl h)
        · by_cases q : i = n
          · subst q; exact Or.inr h3
          · exact Or.inl (Or.inr ⟨i, by omega, h2, h3⟩)
    · rw [if_neg e]
      refine ih.congr (fun x => ?_)
      constructor
      · rintro (h | ⟨i, h1, h2, h3⟩)
        · exact Or.inl h
        · exact Or.inr ⟨i, by omega, h2, h3⟩
      · rintro (h | ⟨i, h1, h2, h3⟩)
        · exact Or.inl h
        · by_cases q : i = n
          · subst q; exact absurd h2 e
          · exact Or.inr ⟨i, by omega, h2, h3⟩
theorem daM_best {L : List (Nat → Nat)} {D0 D d : Nat} {WP : Nat → Nat × Nat} : ∀ n, BestS (fun x => x = WP (d + 1) ∨ ∃ k, k < n ∧ ∃ b, brC (cAt L k) (D0 + d) = b ∧ 1 ≤ b ∧ d + b / 5 ≤ D ∧ x = candT WP (d, d + b / 5, b)) (daM L D0 D d WP n)
  | 0 => ⟨Or.inl rfl, fun x hx => by
    rcases hx with rfl | ⟨i, h, -⟩
    · exact Or.inr ⟨rfl, Nat.le_refl _⟩
    · exact absurd h (Nat.not_lt_zero i)⟩
  | n + 1 => by
    have ih := daM_best (L := L) (D0 := D0) (D := D) (d := d) (WP := WP) n
    unfold daM folM
    by_cases e : brC (cAt L n) (D0 + d) = 0 ∨ D + 1 < d + (1 + brC (cAt L n) (D0 + d) / 5)
    · rw [if_pos e]
      refine ih.congr (fun x => ?_)
      constructor
      · rintro (h | ⟨i, h1, h2⟩)
        · exact Or.inl h
        · exact Or.inr ⟨i, by omega, h2⟩
      · rintro (h | ⟨i, h1, b, h2, h3, h4, h5⟩)
        · exact Or.inl h
        · by_cases q : i = n
          · subst q
            rw [h2] at e
            omega
          · exact Or.inr ⟨i, by omega, b, h2, h3, h4, h5⟩
    · rw [if_neg e]
      have hc : (brC (cAt L n) (D0 + d) + (WP (d + (1 + brC (cAt L n) (D0 + d) / 5))).1, 1 + (WP (d + (1 + brC (cAt L n) (D0 + d) / 5))).2) = candT WP (d, d + brC (cAt L n) (D0 + d) / 5, brC (cAt L n) (D0 + d)) := by
        unfold candT
        rw [show d + (1 + brC (cAt L n) (D0 + d) / 5) = d + brC (cAt L n) (D0 + d) / 5 + 1 by omega]
      refine (offr_best ih).congr (fun x => ?_)
      rw [hc]
      constructor
      · rintro ((h | ⟨i, h1, h2⟩) | h)
        · exact Or.inl h
        · exact Or.inr ⟨i, by omega, h2⟩
        · exact Or.inr ⟨n, by omega, _, rfl, by omega, by omega, h⟩
      · rintro (h | ⟨i, h1, b, h2, h3, h4, h5⟩)
        · exact Or.inl (Or.inl h)
        · by_cases q : i = n
          · subst q h2; exact Or.inr h5
          · exact Or.inl (Or.inr ⟨i, by omega, b, h2, h3, h4, h5⟩)
/-- the passes that the telescope knows are those that the comets make -/
theorem telU_mem {V : kV} {D : Nat} (h : ∀ i, i < V.1.length → 1 ≤ cAt V.1 i 1 ∧ V.2.1 2 < cAt V.1 i 3) {q : kP} : MemU (telU V D) q ↔ ∃ k, k < V.1.length ∧ ∃ b, brC (cAt V.1 k) (V.2.1 2 + q.1) = b ∧ 1 ≤ b ∧ q.1 + b / 5 ≤ D ∧ q = (q.1, q.1 + b / 5, b) := by
  unfold telU
  rw [aimA_mem]
  constructor
  · rintro ⟨k, hk, v, h1, h2, h3, h4⟩
    have h2 : v ≤ cAt V.1 k 2 := h2
    have h3 : q = (cAt V.1 k 3 - V.2.1 2 + (cAt V.1 k 2 - v) * cAt V.1 k 1, cAt V.1 k 3 - V.2.1 2 + (cAt V.1 k 2 - v) * cAt V.1 k 1 + v / 5, v) := h3
    have h4 : cAt V.1 k 3 - V.2.1 2 + (cAt V.1 k 2 - v) * cAt V.1 k 1 + v / 5 ≤ D := h4
    have e : q.1 = cAt V.1 k 3 - V.2.1 2 + (cAt V.1 k 2 - v) * cAt V.1 k 1 := by rw [h3]
    rw [← e] at h3 h4
    exact ⟨k, hk, v, (brC_iff (h k hk).1 (h k hk).2 h1).mpr ⟨h2, e⟩, h1, h4, h3⟩
  · rintro ⟨k, hk, v, h2, h1, h4, h3⟩
    obtain ⟨h5, h6⟩ := (brC_iff (h k hk).1 (h k hk).2 h1).mp h2
    rw [h6] at h3 h4
    exact ⟨k, hk, v, h1, h5, h3, h4⟩
theorem plan_eq {V : kV} {D : Nat} (h : ∀ i, i < V.1.length → 1 ≤ cAt V.1 i 1 ∧ V.2.1 2 < cAt V.1 i 3) : ∀ k, plD (telU V D).1 (telU V D).2 D k = plM V.1 (V.2.1 2) D k
  | 0 => rfl
  | k + 1 => by
    have ih := plan_eq (D := D) h k
    funext j
    show (if j = D - k then offs (telU V D).1 (D - k) (plD (telU V D).1 (telU V D).2 D k) (telU V D).2 else plD (telU V D).1 (telU V D).2 D k j) = (if j = D - k then daM V.1 (V.2.1 2) D (D - k) (plM V.1 (V.2.1 2) D k) V.1.length else plM V.1 (V.2.1 2) D k j)
    rw [ih]
    by_cases e : j = D - k
    · rw [if_pos e, if_pos e]
      refine BestS.uniq (offs_best _) ((daM_best _).congr (fun x => ?_))
      constructor
      · rintro (hx | ⟨i, h1, b, h2, h3, h4, h5⟩)
        · exact Or.inl hx
        · obtain ⟨i2, h6, h7⟩ := (telU_mem h (q := (D - k, D - k + b / 5, b))).mpr ⟨i, h1, b, h2, h3, h4, rfl⟩
          exact Or.inr ⟨i2, h6, by rw [h7], by rw [h7]; exact h5⟩
      · rintro (hx | ⟨i, h1, h2, h3⟩)
        · exact Or.inl hx
        · obtain ⟨i2, h6, b, h7, h8, h9, h10⟩ := (telU_mem h (q := (telU V D).1 i)).mp ⟨i, h1, rfl⟩
          rw [h2] at h7 h9 h10
          exact Or.inr ⟨i2, h6, b, h7, h8, h9, by rw [← h10]; exact h3⟩
    · rw [if_neg e, if_neg e]
theorem wod_eq {u : Nat} {O : kO} (hw : WfO u O) (hu : u ≤ 6144) (d : Int32) : qWoD O d = mWor O d ∧ qFew O d = mFew O d := by
  have h : ∀ i, i < O.1.1.length → 1 ≤ cAt O.1.1 i 1 ∧ O.1.2.1 2 < cAt O.1.1 i 3 := fun i hi => by
    obtain ⟨b1, b2, b3, b4, b5, b6, b7, b8⟩ := hw.1.at hi
    exact ⟨by omega, b5⟩
  unfold qWoD qFew mWor mFew
  rw [plan_eq h]
  by_cases e : d.toNatClampNeg = 0
  · rw [e, if_pos rfl, if_pos rfl]; exact ⟨rfl, rfl⟩
  · rw [if_neg e, if_neg e]; exact ⟨rfl, rfl⟩
/-! the two ways to the best worth -/
theorem plD_fin {T : Nat → kP} {n D : Nat} {k : Nat} : ∀ m, k + m ≤ D → ∀ j, D - k < j → plD T n D (k + m) j = plD T n D k j
  | 0, _, j, _ => rfl
  | m + 1, h, j, hj => by
    have ih := plD_fin (T := T) (n := n) (D := D) (k := k) m (by omega) j hj
    show (if j = D - (k + m) then _ else plD T n D (k + m) j) = _
    rw [if_neg (by omega), ih]
theorem plD_out {T : Nat → kP} {n D j : Nat} (h : D < j) : plD T n D D j = (0, 0) := by
  have := plD_fin (T := T) (n := n) (D := D) (k := 0) D (by omega) j (by omega)
  rw [Nat.zero_add] at this
  exact this
theorem plD_at {T : Nat → kP} {n D j : Nat} (h : ∀ i, i < n → (T i).1 ≤ (T i).2.1) (h1 : 1 ≤ j) (h2 : j ≤ D) : BestS (fun x => x = plD T n D D (j + 1) ∨ ∃ i, i < n ∧ (T i).1 = j ∧ x = candT (plD T n D D) (T i)) (plD T n D D j) := by
  have f1 : ∀ j', j < j' → plD T n D D j' = plD T n D (D - j) j' := fun j' hj => by
    have := plD_fin (T := T) (n := n) (D := D) (k := D - j) j (by omega) j' (by omega)
    rw [show D - j + j = D by omega] at this
    exact this
  have f2 : plD T n D D j = offs T j (plD T n D (D - j)) n := by
    have := plD_fin (T := T) (n := n) (D := D) (k := D - j + 1) (j - 1) (by omega) j (by omega)
    rw [show D - j + 1 + (j - 1) = D by omega] at this
    rw [this]
    show (if j = D - (D - j) then offs T (D - (D - j)) (plD T n D (D - j)) n else _) = _
    rw [show D - (D - j) = j by omega, if_pos rfl]
  rw [f2]
  refine (offs_best n).congr (fun x => ?_)
  rw [f1 (j + 1) (by omega)]
  have f3 : ∀ i, i < n → (T i).1 = j → candT (plD T n D (D - j)) (T i) = candT (plD T n D D) (T i) := fun i hi e => by
    unfold candT
    rw [f1 _ (by have := h i hi; omega)]
  constructor
  · rintro (hx | ⟨i, a1, a2, a3⟩)
    · exact Or.inl hx
    · exact Or.inr ⟨i, a1, a2, by rw [← f3 i a1 a2]; exact a3⟩
  · rintro (hx | ⟨i, a1, a2, a3⟩)
    · exact Or.inl hx
    · exact Or.inr ⟨i, a1, a2, by rw [f3 i a1 a2]; exact a3⟩
/-- the worth of a plan -/
def wsP : List kP → Nat
  | [] => 0
  | p :: l => p.2.2 + wsP l
theorem wsP_app : ∀ (l l' : List kP), wsP (l ++ l') = wsP l + wsP l'
  | [], l' => by show wsP l' = 0 + _; omega
  | p :: l, l' => by
    show p.2.2 + wsP (l ++ l') = p.2.2 + wsP l + wsP l'
    rw [wsP_app l l']; omega
theorem wsP_rev : ∀ l : List kP, wsP l.reverse = wsP l
  | [] => rfl
  | p :: l => by
    rw [List.reverse_cons, wsP_app, wsP_rev l]
    show wsP l + (p.2.2 + 0) = p.2.2 + wsP l
    omega
section
variable {T : Nat → kP} {n D : Nat}
def okT (T : Nat → kP) (n D : Nat) : Prop := ∀ i, i < n → 1 ≤ (T i).1 ∧ (T i).1 ≤ (T i).2.1 ∧ (T i).2.1 ≤ D
theorem plD_mono (h : okT T n D) : ∀ (m d : Nat), 1 ≤ d → d + m ≤ D + 1 → (plD T n D D (d + m)).1 ≤ (plD T n D D d).1
  | 0, d, _, _ => Nat.le_refl _
  | m + 1, d, h1, h2 => by
    have ih := plD_mono h m d h1 (by omega)
    have h3 := (plD_at (T := T) (n := n) (D := D) (j := d + m) (fun i hi => (h i hi).2.1) (by omega) (by omega)).2 _ (Or.inl rfl)
    unfold le2 at h3
    show (plD T n D D (d + m + 1)).1 ≤ _
    omega
theorem plD_up (h : okT T n D) : ∀ (l : List kP) (d : Nat), 1 ≤ d → l.Pairwise (fun p q => p.2.1 < q.1) → (∀ p ∈ l, (∃ i, i < n ∧ T i = p) ∧ d ≤ p.1) → wsP l ≤ (plD T n D D d).1
  | [], _, _, _, _ => Nat.zero_le _
  | p :: l, d, hd, hp, hm => by
    obtain ⟨⟨i, hi, rfl⟩, hdp⟩ := hm p List.mem_cons_self
    obtain ⟨a1, a2, a3⟩ := h i hi
    rw [List.pairwise_cons] at hp
    have ih := plD_up h l ((T i).2.1 + 1) (by omega) hp.2 (fun q hq => ⟨(hm q (List.mem_cons_of_mem _ hq)).1, hp.1 q hq⟩)
    have h3 := (plD_at (T := T) (n := n) (D := D) (j := (T i).1) (fun i hi => (h i hi).2.1) (by omega) (by omega)).2 (candT (plD T n D D) (T i)) (Or.inr ⟨i, hi, rfl, rfl⟩)
    have h4 := plD_mono h ((T i).1 - d) d hd (by omega)
    rw [show d + ((T i).1 - d) = (T i).1 by omega] at h4
    unfold le2 candT at h3
    have h3 : (T i).2.2 + (plD T n D D ((T i).2.1 + 1)).1 ≤ (plD T n D D (T i).1).1 := by
      rcases h3 with h3 | h3
      · exact Nat.le_of_lt h3
      · exact Nat.le_of_eq h3.1
    show (T i).2.2 + wsP l ≤ _
    omega
theorem plD_ach (h : okT T n D) : ∀ (k d : Nat), 1 ≤ d → D + 1 ≤ d + k → ∃ l : List kP, l.Pairwise (fun p q => p.2.1 < q.1) ∧ (∀ p ∈ l, (∃ i, i < n ∧ T i = p) ∧ d ≤ p.1) ∧ wsP l = (plD T n D D d).1
  | 0, d, _, h2 => ⟨[], List.Pairwise.nil, fun p hp => absurd hp List.not_mem_nil, by rw [plD_out (T := T) (n := n) (D := D) (j := d) (by omega)]; rfl⟩
  | k + 1, d, h1, h2 => by
    by_cases hd : D < d
    · exact ⟨[], List.Pairwise.nil, fun p hp => absurd hp List.not_mem_nil, by rw [plD_out hd]; rfl⟩
    · rcases (plD_at (T := T) (n := n) (D := D) (j := d) (fun i hi => (h i hi).2.1) h1 (by omega)).1 with e | ⟨i, hi, e1, e2⟩
      · obtain ⟨l, a1, a2, a3⟩ := plD_ach h k (d + 1) (by omega) (by omega)
        exact ⟨l, a1, fun p hp => ⟨(a2 p hp).1, by have := (a2 p hp).2; omega⟩, by rw [e]; exact a3⟩
      · obtain ⟨b1, b2, b3⟩ := h i hi
        obtain ⟨l, a1, a2, a3⟩ := plD_ach h k ((T i).2.1 + 1) (by omega) (by omega)
        refine ⟨T i :: l, List.pairwise_cons.mpr ⟨fun q hq => (a2 q hq).2, a1⟩, fun p hp => ?_, ?_⟩
        · rcases List.mem_cons.mp hp with rfl | hp
          · exact ⟨⟨i, hi, rfl⟩, by omega⟩
          · exact ⟨(a2 p hp).1, by have := (a2 p hp).2; omega⟩
        · rw [e2]
          show (T i).2.2 + wsP l = (T i).2.2 + (plD T n D D ((T i).2.1 + 1)).1
          rw [a3]
theorem endB_le' (d : Nat) : ∀ k, endB T d k ≤ k
  | 0 => Nat.le_refl 0
  | k + 1 => by
    have := endB_le' d k
    unfold endB
    split <;> omega
theorem endB_in {d : Nat} : ∀ {k j : Nat}, j < k → (T j).2.1 < d → j < endB T d k
  | 0, j, h, _ => absurd h (Nat.not_lt_zero j)
  | k + 1, j, h, h2 => by
    unfold endB
    by_cases e : d ≤ (T k).2.1
    · rw [if_pos e]
      have : j ≠ k := fun q => by subst q; omega
      exact endB_in (by omega) h2
    · rw [if_neg e]; exact h
theorem endB_out {d : Nat} : ∀ {k j : Nat}, SrtT T k → j < endB T d k → (T j).2.1 < d
  | 0, j, _, h => absurd h (Nat.not_lt_zero j)
  | k + 1, j, hs, h => by
    unfold endB at h
    by_cases e : d ≤ (T k).2.1
    · rw [if_pos e] at h
      exact endB_out (fun i j a b => hs i j a (by omega)) h
    · rw [if_neg e] at h
      by_cases q : j = k
      · subst q; omega
      · have := hs j k (by omega) (by omega)
        omega
theorem wbp_fin {i : Nat} : ∀ m j, j ≤ i → wbp T (i + m) j = wbp T i j
  | 0, _, _ => rfl
  | m + 1, j, hj => by
    show (if j = i + m + 1 then _ else wbp T (i + m) j) = _
    rw [if_neg (by omega), wbp_fin m j hj]
theorem wbp_at {i j : Nat} (h : j ≤ i) : wbp T i j = wbp T j j := by
  have := wbp_fin (T := T) (i := j) (i - j) j (Nat.le_refl _)
  rw [show j + (i - j) = i by omega] at this
  exact this
theorem wbp_s (i : Nat) : wbp T (i + 1) (i + 1) = max (wbp T i i) ((T i).2.2 + wbp T (endB T (T i).1 i) (endB T (T i).1 i)) := by
  show (if i + 1 = i + 1 then max (wbp T i i) ((T i).2.2 + wbp T i (endB T (T i).1 i)) else _) = _
  rw [if_pos rfl, wbp_at (endB_le' (T := T) (T i).1 i)]
theorem wbp_mono {i : Nat} : ∀ m, wbp T i i ≤ wbp T (i + m) (i + m)
  | 0 => Nat.le_refl _
  | m + 1 => by
    have ih := wbp_mono (i := i) m
    have := wbp_s (T := T) (i + m)
    show _ ≤ wbp T (i + m + 1) (i + m + 1)
    omega
theorem wbp_up (h : okT T n D) (hs : SrtT T n) : ∀ (r : List kP) (i : Nat), i ≤ n → r.Pairwise (fun q p => p.2.1 < q.1) → (∀ p ∈ r, ∃ j, j < i ∧ T j = p) → wsP r ≤ wbp T i i
  | [], _, _, _, _ => Nat.zero_le _
  | q :: r, i, hi, hp, hm => by
    obtain ⟨j, hj, rfl⟩ := hm q List.mem_cons_self
    obtain ⟨a1, a2, a3⟩ := h j (by omega)
    rw [List.pairwise_cons] at hp
    have hle := endB_le' (T := T) (T j).1 j
    have ih := wbp_up h hs r (endB T (T j).1 j) (by omega) hp.2 (fun p hpr => by
      obtain ⟨j', hj', rfl⟩ := hm p (List.mem_cons_of_mem _ hpr)
      have h1 := hp.1 _ hpr
      have h2 : j' < j := Classical.byContradiction (fun hn => by
        by_cases e : j = j'
        · subst e; omega
        · have := hs j j' (by omega) (by omega)
          omega)
      exact ⟨j', endB_in h2 h1, rfl⟩)
    have h3 := wbp_s (T := T) j
    have h4 := wbp_mono (T := T) (i := j + 1) (i - (j + 1))
    rw [show j + 1 + (i - (j + 1)) = i by omega] at h4
    show (T j).2.2 + wsP r ≤ _
    omega
theorem wbp_ach (hs : SrtT T n) : ∀ (k i : Nat), i ≤ k → i ≤ n → ∃ r : List kP, r.Pairwise (fun q p => p.2.1 < q.1) ∧ (∀ p ∈ r, ∃ j, j < i ∧ T j = p) ∧ wsP r = wbp T i i
  | 0, i, h1, _ => by
    have : i = 0 := by omega
    subst this
    exact ⟨[], List.Pairwise.nil, fun p hp => absurd hp List.not_mem_nil, rfl⟩
  | k + 1, i, h1, h2 => by
    rcases i with _ | i
    · exact ⟨[], List.Pairwise.nil, fun p hp => absurd hp List.not_mem_nil, rfl⟩
    · have h3 := wbp_s (T := T) i
      have hle := endB_le' (T := T) (T i).1 i
      by_cases e : (T i).2.2 + wbp T (endB T (T i).1 i) (endB T (T i).1 i) ≤ wbp T i i
      · obtain ⟨r, a1, a2, a3⟩ := wbp_ach hs k i (by omega) (by omega)
        exact ⟨r, a1, fun p hp => let ⟨j, b1, b2⟩ := a2 p hp; ⟨j, by omega, b2⟩, by omega⟩
      · obtain ⟨r, a1, a2, a3⟩ := wbp_ach hs k (endB T (T i).1 i) (by omega) (by omega)
        refine ⟨T i :: r, List.pairwise_cons.mpr ⟨fun p hp => ?_, a1⟩, fun p hp => ?_, ?_⟩
        · obtain ⟨j, b1, rfl⟩ := a2 p hp
          exact endB_out (fun a b c d => hs a b c (by omega)) b1
        · rcases List.mem_cons.mp hp with rfl | hp
          · exact ⟨i, by omega, rfl⟩
          · obtain ⟨j, b1, b2⟩ := a2 p hp
            exact ⟨j, by omega, b2⟩
        · show (T i).2.2 + wsP r = _
          omega
theorem worth_eq (h : okT T n D) (hs : SrtT T n) : wbp T n n = (plD T n D D 1).1 := by
  refine Nat.le_antisymm ?_ ?_
  · obtain ⟨r, a1, a2, a3⟩ := wbp_ach hs n n (Nat.le_refl _) (Nat.le_refl _)
    rw [← a3, ← wsP_rev]
    refine plD_up h r.reverse 1 (Nat.le_refl _) (List.pairwise_reverse.mpr a1) (fun p hp => ?_)
    obtain ⟨j, b1, rfl⟩ := a2 p (List.mem_reverse.mp hp)
    exact ⟨⟨j, b1, rfl⟩, (h j b1).1⟩
  · obtain ⟨l, a1, a2, a3⟩ := plD_ach h D 1 (Nat.le_refl _) (by omega)
    rw [← a3, ← wsP_rev]
    exact wbp_up h hs l.reverse n (Nat.le_refl _) (List.pairwise_reverse.mpr a1) (fun p hp => (a2 p (List.mem_reverse.mp hp)).1)
end
theorem wor_eq {u : Nat} {O : kO} (hw : WfO u O) (hu : u ≤ 6144) (d : Int32) : qWor O d = qWoD O d := by
  have h := telU_ok hw hu d.toNatClampNeg
  have hs : SrtT (telU O.1 d.toNatClampNeg).1 (telU O.1 d.toNatClampNeg).2 := aimA_srt _
  unfold qWor qWoD
  have hk : okT (telU O.1 d.toNatClampNeg).1 (telU O.1 d.toNatClampNeg).2 d.toNatClampNeg := fun i hi => ⟨(h i hi).1, (h i hi).2.1, (h i hi).2.2.1⟩
  rw [worth_eq hk hs]
