/-! ===== both sides alike: ranks, passes ahead ===== -/
theorem pig_on : ∀ (n : Nat) (f : Nat → Nat), (∀ i, i < n → f i < n) → (∀ i j, i < n → j < n → f i = f j → i = j) → ∀ r, r < n → ∃ i, i < n ∧ f i = r
  | 0, _, _, _, r, hr => absurd hr (Nat.not_lt_zero r)
  | n + 1, f, hf, hi, r, hr => by
    have hv := hf n (Nat.lt_succ_self n)
    have ih := pig_on n (fun i => if f i = n then f n else f i) (fun i h => by
      show (if f i = n then f n else f i) < n
      have h1 := hf i (by omega)
      by_cases e : f i = n
      · rw [if_pos e]
        have : f n ≠ n := fun e2 => by
          have := hi i n (by omega) (by omega) (e.trans e2.symm)
          omega
        omega
      · rw [if_neg e]; omega) (fun i j h1 h2 he => by
      have he : (if f i = n then f n else f i) = (if f j = n then f n else f j) := he
      by_cases e1 : f i = n
      · by_cases e2 : f j = n
        · exact hi i j (by omega) (by omega) (e1.trans e2.symm)
        · rw [if_pos e1, if_neg e2] at he
          have := hi n j (by omega) (by omega) he
          omega
      · by_cases e2 : f j = n
        · rw [if_neg e1, if_pos e2] at he
          have := hi i n (by omega) (by omega) he
          omega
        · rw [if_neg e1, if_neg e2] at he
          exact hi i j (by omega) (by omega) he)
    by_cases hrn : r < n
    · obtain ⟨i, h1, h2⟩ := ih r hrn
      have h2 : (if f i = n then f n else f i) = r := h2
      by_cases e : f i = n
      · rw [if_pos e] at h2; exact ⟨n, by omega, h2⟩
      · rw [if_neg e] at h2; exact ⟨i, by omega, h2⟩
    · have hr' : r = n := by omega
      by_cases e : f n = n
      · exact ⟨n, by omega, by omega⟩
      · obtain ⟨i, h1, h2⟩ := ih (f n) (by omega)
        have h2 : (if f i = n then f n else f i) = f n := h2
        by_cases e2 : f i = n
        · exact ⟨i, by omega, by omega⟩
        · rw [if_neg e2] at h2
          have := hi i n (by omega) (by omega) h2
          omega
theorem rkB_iff (a b : Nat → Nat) : rkB a b = true ↔ (b 2 < a 2 ∨ (a 2 = b 2 ∧ (a 3 < b 3 ∨ (a 3 = b 3 ∧ a 0 < b 0)))) := by
  unfold rkB
  rw [Bool.or_eq_true, Bool.and_eq_true, Bool.or_eq_true, Bool.and_eq_true]
  simp only [decide_eq_true_eq]
theorem rkF_le {L : List (Nat → Nat)} (a : Nat → Nat) : ∀ n, rkF L a n ≤ n
  | 0 => Nat.le_refl 0
  | n + 1 => by
    have := rkF_le (L := L) a n
    unfold rkF
    split <;> omega
theorem rkF_lt {L : List (Nat → Nat)} {a : Nat → Nat} {i : Nat} (h : ¬ rkB (cAt L i) a = true) : ∀ n, i < n → rkF L a n < n
  | 0, hi => absurd hi (Nat.not_lt_zero i)
  | n + 1, hi => by
    unfold rkF
    by_cases e : i = n
    · subst e
      rw [if_neg h]
      have := rkF_le (L := L) a i
      omega
    · have := rkF_lt (L := L) h n (by omega)
      split <;> omega
theorem rkF_mono {L : List (Nat → Nat)} {a b : Nat → Nat} (h : ∀ k, rkB (cAt L k) a = true → rkB (cAt L k) b = true) : ∀ n, rkF L a n ≤ rkF L b n
  | 0 => Nat.le_refl 0
  | n + 1 => by
    have ih := rkF_mono (L := L) h n
    unfold rkF
    by_cases e : rkB (cAt L n) a = true
    · rw [if_pos e, if_pos (h n e)]; omega
    · rw [if_neg e]; omega
theorem rkF_smono {L : List (Nat → Nat)} {a b : Nat → Nat} (h : ∀ k, rkB (cAt L k) a = true → rkB (cAt L k) b = true) {i : Nat} (h1 : ¬ rkB (cAt L i) a = true) (h2 : rkB (cAt L i) b = true) : ∀ n, i < n → rkF L a n < rkF L b n
  | 0, hi => absurd hi (Nat.not_lt_zero i)
  | n + 1, hi => by
    unfold rkF
    by_cases e : i = n
    · subst e
      have := rkF_mono h i
      rw [if_neg h1, if_pos h2]; omega
    · have ih := rkF_smono h h1 h2 n (by omega)
      by_cases e2 : rkB (cAt L n) a = true
      · rw [if_pos e2, if_pos (h n e2)]; omega
      · rw [if_neg e2]; omega
theorem rkB_irr (a : Nat → Nat) : ¬ rkB a a = true := by
  rw [rkB_iff]; omega
theorem rkB_tr {a b c : Nat → Nat} (h1 : rkB a b = true) (h2 : rkB b c = true) : rkB a c = true := by
  rw [rkB_iff] at h1 h2 ⊢; omega
theorem rkF_less {L : List (Nat → Nat)} {i j n : Nat} (hi : i < n) (h : rkB (cAt L i) (cAt L j) = true) : rkF L (cAt L i) n < rkF L (cAt L j) n :=
  rkF_smono (fun _ hk => rkB_tr hk h) (rkB_irr _) h n hi
/-! passes ahead -/
theorem div_step {t p : Nat} (hp : 0 < p) (ht : 0 < t) : t / p = (t - 1) / p + if t % p = 0 then 1 else 0 := by
  obtain ⟨s, rfl⟩ : ∃ s, t = s + 1 := ⟨t - 1, by omega⟩
  rw [Nat.add_sub_cancel, Nat.succ_div]
  by_cases h : p ∣ s + 1
  · rw [if_pos h, if_pos (Nat.mod_eq_zero_of_dvd h)]
  · rw [if_neg h, if_neg (fun q => h (Nat.dvd_of_mod_eq_zero q))]
theorem upTo_s {c : Nat → Nat} (h1 : 1 ≤ c 1) (h2 : 1 ≤ c 2) (x : Nat) : upTo c (x + 1) = upTo c x + if 0 < brC c (x + 1) then 1 else 0 := by
  unfold upTo brC
  by_cases ha : x + 1 < c 3
  · rw [if_pos ha, if_pos (by omega), if_pos ha, if_neg (by omega)]
  · rw [if_neg ha, if_neg ha]
    by_cases hb : x + 1 = c 3
    · have h0 : x + 1 - c 3 = 0 := by omega
      rw [if_pos (by omega : x < c 3), h0, Nat.zero_mod, Nat.zero_div, if_pos rfl, if_pos (by omega)]
      omega
    · rw [if_neg (by omega : ¬ x < c 3)]
      have hd := div_step (p := c 1) (t := x + 1 - c 3) (by omega) (by omega)
      have e : x + 1 - c 3 - 1 = x - c 3 := by omega
      rw [e] at hd
      rw [hd]
      by_cases hm : (x + 1 - c 3) % c 1 = 0
      · rw [if_pos hm, if_pos hm]
        by_cases hq : (x - c 3) / c 1 + 1 < c 2
        · rw [if_pos (by omega)]; omega
        · rw [if_neg (by omega)]; omega
      · rw [if_neg hm, if_neg hm, if_neg (by omega)]
        omega
theorem pAhV_s {L : List (Nat → Nat)} (x : Nat) : ∀ n, (∀ i, i < n → 1 ≤ cAt L i 1 ∧ 1 ≤ cAt L i 2) → pAhV L (x + 1) n = pAhV L x n + cntB L (x + 1) n
  | 0, _ => rfl
  | n + 1, h => by
    have ih := pAhV_s (L := L) x n (fun i hi => h i (by omega))
    have hn := h n (by omega)
    have h9 := upTo_s hn.1 hn.2 x
    unfold pAhV cntB
    rw [ih, h9]
    split <;> omega
theorem pAhV_0 {L : List (Nat → Nat)} {x : Nat} : ∀ n, (∀ i, i < n → x < cAt L i 3) → pAhV L x n = 0
  | 0, _ => rfl
  | n + 1, h => by
    have ih := pAhV_0 (L := L) (x := x) n (fun i hi => h i (by omega))
    unfold pAhV upTo
    rw [ih, if_pos (h n (by omega))]
theorem pAhV_sum {L : List (Nat → Nat)} {D : Nat} (h : ∀ i, i < L.length → 1 ≤ cAt L i 1 ∧ 1 ≤ cAt L i 2 ∧ D < cAt L i 3) : ∀ d, pAhV L (D + d) L.length = sumB L D d
  | 0 => pAhV_0 _ (fun i hi => (h i hi).2.2)
  | d + 1 => by
    show pAhV L (D + d + 1) L.length = sumB L D d + cntB L (D + d + 1) L.length
    rw [pAhV_s _ _ (fun i hi => ⟨(h i hi).1, (h i hi).2.1⟩), pAhV_sum h d]
theorem in_eq {u : Nat} {O : kO} (hw : WfO u O) (hu : u ≤ 6144) (d : Int32) : qIn O d = mIn O d := by
  unfold qIn mIn
  by_cases hd : rng d 0 60
  · rw [if_pos hd, if_pos hd, pAhV_sum (fun i hi => by
      obtain ⟨b1, b2, b3, b4, b5, b6, b7, b8⟩ := hw.1.at hi
      exact ⟨by omega, b3, b5⟩)]
  · rw [if_neg hd, if_neg hd]
