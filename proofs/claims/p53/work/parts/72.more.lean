/-! ===== by numbers alone: what the law asks of the observatory ===== -/
theorem plV_id {u : Nat} {O : kO} (hw : WfO u O) (hu : u ≤ 6144) {k : Nat} (hk : k < O.1.1.length) : plV O.1.1 (nI (cAt O.1.1 k 0)) = some k := by
  cases e : plV O.1.1 (nI (cAt O.1.1 k 0)) with
  | none => exact absurd rfl (plV_none e hk)
  | some j =>
    obtain ⟨h1, h2⟩ := plV_lt e
    have b1 := hw.com hu hk
    have b2 := hw.com hu h1
    have h3 := (nI_eq (by omega) (by omega)).mp h2
    rcases Nat.lt_trichotomy j k with h | h | h
    · have := hw.1.asc h hk; omega
    · rw [h]
    · have := hw.1.asc h h1; omega
/-! passes of one comet, counted one by one -/
def pjC (c : Nat → Nat) (T : Nat) : Nat → Nat
  | 0 => 0
  | j + 1 => pjC c T j + if c 3 + j * c 1 ≤ T then 1 else 0
def wjC (c : Nat → Nat) (T : Nat) : Nat → Nat
  | 0 => 0
  | j + 1 => wjC c T j + if c 3 + j * c 1 ≤ T then c 2 - j else 0
def wAhV (L : List (Nat → Nat)) (T : Nat) : Nat → Nat
  | 0 => 0
  | i + 1 => wAhV L T i + wjC (cAt L i) T (cAt L i 2)
theorem pjC_up {c : Nat → Nat} (hp : 1 ≤ c 1) (T : Nat) : ∀ j, pjC c T j = if T < c 3 then 0 else min j (1 + (T - c 3) / c 1)
  | 0 => by unfold pjC; split <;> simp
  | j + 1 => by
    unfold pjC
    rw [pjC_up hp T j]
    by_cases h : T < c 3
    · rw [if_pos h, if_pos h, if_neg (by omega)]
    · rw [if_neg h, if_neg h]
      have e : c 3 + j * c 1 ≤ T ↔ j ≤ (T - c 3) / c 1 := by
        rw [Nat.le_div_iff_mul_le hp]
        omega
      by_cases h2 : j ≤ (T - c 3) / c 1
      · rw [if_pos (e.mpr h2)]; omega
      · rw [if_neg (fun q => h2 (e.mp q))]; omega
theorem pjC_all {c : Nat → Nat} (hp : 1 ≤ c 1) (T : Nat) : pjC c T (c 2) = upTo c T := pjC_up hp T _
theorem wjC_le {c : Nat → Nat} {T : Nat} (hb : c 2 ≤ 20) : ∀ j, wjC c T j ≤ 20 * j
  | 0 => Nat.le_refl 0
  | j + 1 => by
    have := wjC_le (c := c) (T := T) hb j
    unfold wjC
    split <;> omega
theorem pjC_le {c : Nat → Nat} {T : Nat} : ∀ j, pjC c T j ≤ j
  | 0 => Nat.le_refl 0
  | j + 1 => by
    have := pjC_le (c := c) (T := T) j
    unfold pjC
    split <;> omega
theorem wAhV_le {L : List (Nat → Nat)} {T : Nat} : ∀ n, (∀ i, i < n → cAt L i 2 ≤ 20) → wAhV L T n ≤ 400 * n
  | 0, _ => Nat.le_refl 0
  | n + 1, h => by
    have h1 := wAhV_le (L := L) (T := T) n (fun i hi => h i (by omega))
    have h2 := h n (by omega)
    have h3 := wjC_le (T := T) h2 (cAt L n 2)
    unfold wAhV
    omega
theorem pAhV_le {L : List (Nat → Nat)} {T : Nat} : ∀ n, (∀ i, i < n → cAt L i 2 ≤ 20) → pAhV L T n ≤ 20 * n
  | 0, _ => Nat.le_refl 0
  | n + 1, h => by
    have h1 := pAhV_le (L := L) (T := T) n (fun i hi => h i (by omega))
    have h2 := h n (by omega)
    unfold pAhV upTo
    split <;> omega
/-! the list of passes: sums over it -/
def smT (F : kP → Nat) (T : Nat → kP) : Nat → Nat
  | 0 => 0
  | n + 1 => smT F T n + F (T n)
theorem smT_lo {F : kP → Nat} {T T' : Nat → kP} : ∀ n, (∀ i, i < n → T' i = T i) → smT F T' n = smT F T n
  | 0, _ => rfl
  | n + 1, h => by
    unfold smT
    rw [smT_lo n (fun i hi => h i (by omega)), h n (by omega)]
theorem smT_ins {F : kP → Nat} {T : Nat → kP} {p : kP} {s : Nat} : ∀ n, s ≤ n → smT F (fun i => if i < s then T i else if i = s then p else T (i - 1)) (n + 1) = smT F T n + F p
  | 0, h => by
    have : s = 0 := by omega
    subst this
    show 0 + F (if 0 < 0 then T 0 else if 0 = 0 then p else T (0 - 1)) = 0 + F p
    rw [if_neg (by omega), if_pos rfl]
  | n + 1, h => by
    rcases Nat.eq_or_lt_of_le h with e | e
    · have h1 : smT F (fun i => if i < s then T i else if i = s then p else T (i - 1)) (n + 1) = smT F T (n + 1) := smT_lo _ (fun i hi => if_pos (by omega))
      show smT F (fun i => if i < s then T i else if i = s then p else T (i - 1)) (n + 1) + F (if n + 1 < s then T (n + 1) else if n + 1 = s then p else T (n + 1 - 1)) = _
      rw [h1, if_neg (by omega), if_pos (by omega)]
    · have h1 := smT_ins (F := F) (T := T) (p := p) (s := s) n (by omega)
      show smT F (fun i => if i < s then T i else if i = s then p else T (i - 1)) (n + 1) + F (if n + 1 < s then T (n + 1) else if n + 1 = s then p else T (n + 1 - 1)) = smT F T n + F (T n) + F p
      rw [h1, if_neg (by omega), if_neg (by omega), Nat.add_sub_cancel]
      omega
theorem smU_ins (F : kP → Nat) (s : kU) (p : kP) : smT F (insU s p).1 (insU s p).2 = smT F s.1 s.2 + F p := smT_ins s.2 (slotT_le s.1 p.2.1 s.2)
/-- what the passes of one comet add, if each is let in that begins in time -/
def smC (F : kP → Nat) (D p : Nat) : Nat → Nat → Nat
  | 0, _ => 0
  | w + 1, f => if f ≤ D then F (f, f + (w + 1) / 5, w + 1) + smC F D p w (f + p) else 0
theorem aimC_sm (F : kP → Nat) {D p : Nat} : ∀ (w f : Nat) (s : kU), smT F (aimC D p w f s).1 (aimC D p w f s).2 ≤ smT F s.1 s.2 + smC F D p w f
  | 0, f, s => Nat.le_refl _
  | w + 1, f, s => by
    unfold aimC smC
    by_cases h : f ≤ D
    · rw [if_pos h, if_pos h]
      have h1 := aimC_sm F (D := D) (p := p) w (f + p) (if f + (w + 1) / 5 ≤ D then insU s (f, f + (w + 1) / 5, w + 1) else s)
      by_cases h2 : f + (w + 1) / 5 ≤ D
      · rw [if_pos h2] at h1 ⊢
        rw [smU_ins] at h1
        omega
      · rw [if_neg h2] at h1 ⊢
        omega
    · rw [if_neg h, if_neg h]; exact Nat.le_refl _
def smA (F : kP → Nat) (D : Nat) (C : Nat → Nat × Nat × Nat) : Nat → Nat
  | 0 => 0
  | i + 1 => smA F D C i + smC F D (C i).1 (C i).2.1 (C i).2.2
theorem aimA_sm (F : kP → Nat) {D : Nat} {C : Nat → Nat × Nat × Nat} : ∀ n, smT F (aimA D C n).1 (aimA D C n).2 ≤ smA F D C n
  | 0 => Nat.le_refl 0
  | n + 1 => by
    have h1 := aimA_sm F (D := D) (C := C) n
    have h2 := aimC_sm F (D := D) (p := (C n).1) (C n).2.1 (C n).2.2 (aimA D C n)
    unfold aimA smA
    omega
/-- the sum by worth and by number, over a comet's passes from the first on -/
theorem smC_w {c : Nat → Nat} {D0 D : Nat} (hp : 1 ≤ c 1) (hn : D0 < c 3) : ∀ (w j : Nat), w + j = c 2 → smC (fun q => q.2.2) D (c 1) w (c 3 - D0 + j * c 1) + wjC c (D0 + D) j ≤ wjC c (D0 + D) (c 2)
  | 0, j, h => by
    have : j = c 2 := by omega
    subst this
    show 0 + _ ≤ _
    omega
  | w + 1, j, h => by
    have ih := smC_w hp hn (D := D) w (j + 1) (by omega)
    unfold smC
    have e : c 3 - D0 + (j + 1) * c 1 = c 3 - D0 + j * c 1 + c 1 := by rw [Nat.succ_mul]; omega
    rw [e] at ih
    have hmono : ∀ i, wjC c (D0 + D) i ≤ wjC c (D0 + D) (i + 1) := fun i => by
      show _ ≤ _ + _
      omega
    by_cases h1 : c 3 - D0 + j * c 1 ≤ D
    · rw [if_pos h1]
      have h2 : wjC c (D0 + D) (j + 1) = wjC c (D0 + D) j + (c 2 - j) := by
        show _ + (if _ then _ else _) = _
        rw [if_pos (by omega)]
      show (w + 1) + smC (fun q => q.2.2) D (c 1) w (c 3 - D0 + j * c 1 + c 1) + _ ≤ _
      omega
    · rw [if_neg h1]
      have := hmono j
      have h3 : wjC c (D0 + D) (j + 1) ≤ wjC c (D0 + D) (c 2) := by omega
      omega
theorem smC_n {c : Nat → Nat} {D0 D : Nat} (hp : 1 ≤ c 1) (hn : D0 < c 3) : ∀ (w j : Nat), w + j = c 2 → smC (fun _ => 1) D (c 1) w (c 3 - D0 + j * c 1) + pjC c (D0 + D) j ≤ pjC c (D0 + D) (c 2)
  | 0, j, h => by
    have : j = c 2 := by omega
    subst this
    show 0 + _ ≤ _
    omega
  | w + 1, j, h => by
    have ih := smC_n hp hn (D := D) w (j + 1) (by omega)
    unfold smC
    have e : c 3 - D0 + (j + 1) * c 1 = c 3 - D0 + j * c 1 + c 1 := by rw [Nat.succ_mul]; omega
    rw [e] at ih
    have hmono : pjC c (D0 + D) j ≤ pjC c (D0 + D) (j + 1) := by
      show _ ≤ _ + _
      omega
    by_cases h1 : c 3 - D0 + j * c 1 ≤ D
    · rw [if_pos h1]
      have h2 : pjC c (D0 + D) (j + 1) = pjC c (D0 + D) j + 1 := by
        show _ + (if _ then _ else _) = _
        rw [if_pos (by omega)]
      show 1 + smC (fun _ => 1) D (c 1) w (c 3 - D0 + j * c 1 + c 1) + _ ≤ _
      omega
    · rw [if_neg h1]
      omega
theorem telU_w {V : kV} {D : Nat} : ∀ n, (∀ i, i < n → 1 ≤ cAt V.1 i 1 ∧ V.2.1 2 < cAt V.1 i 3) → smA (fun q => q.2.2) D (fun i => (cAt V.1 i 1, cAt V.1 i 2, cAt V.1 i 3 - V.2.1 2)) n ≤ wAhV V.1 (V.2.1 2 + D) n
  | 0, _ => Nat.le_refl 0
  | n + 1, h => by
    have h1 := telU_w (V := V) (D := D) n (fun i hi => h i (by omega))
    have h2 := smC_w (c := cAt V.1 n) (D0 := V.2.1 2) (D := D) (h n (by omega)).1 (h n (by omega)).2 (cAt V.1 n 2) 0 (by omega)
    rw [Nat.zero_mul, Nat.add_zero] at h2
    have h3 : wjC (cAt V.1 n) (V.2.1 2 + D) 0 = 0 := rfl
    show smA _ D _ n + smC (fun q => q.2.2) D (cAt V.1 n 1) (cAt V.1 n 2) (cAt V.1 n 3 - V.2.1 2) ≤ wAhV V.1 _ n + wjC (cAt V.1 n) _ (cAt V.1 n 2)
    omega
theorem telU_n {V : kV} {D : Nat} : ∀ n, (∀ i, i < n → 1 ≤ cAt V.1 i 1 ∧ V.2.1 2 < cAt V.1 i 3) → smA (fun _ => 1) D (fun i => (cAt V.1 i 1, cAt V.1 i 2, cAt V.1 i 3 - V.2.1 2)) n ≤ pAhV V.1 (V.2.1 2 + D) n
  | 0, _ => Nat.le_refl 0
  | n + 1, h => by
    have h1 := telU_n (V := V) (D := D) n (fun i hi => h i (by omega))
    have h2 := smC_n (c := cAt V.1 n) (D0 := V.2.1 2) (D := D) (h n (by omega)).1 (h n (by omega)).2 (cAt V.1 n 2) 0 (by omega)
    rw [Nat.zero_mul, Nat.add_zero] at h2
    have h3 : pjC (cAt V.1 n) (V.2.1 2 + D) 0 = 0 := rfl
    have h4 := pjC_all (c := cAt V.1 n) (h n (by omega)).1 (V.2.1 2 + D)
    show smA _ D _ n + smC (fun _ => 1) D (cAt V.1 n 1) (cAt V.1 n 2) (cAt V.1 n 3 - V.2.1 2) ≤ pAhV V.1 _ n + upTo (cAt V.1 n) _
    omega
theorem smT_one {T : Nat → kP} : ∀ n, smT (fun _ => 1) T n = n
  | 0 => rfl
  | n + 1 => by unfold smT; rw [smT_one n]
/-- sums over those that begin from a day on -/
def smG (F : kP → Nat) (T : Nat → kP) (j : Nat) : Nat → Nat
  | 0 => 0
  | n + 1 => smG F T j n + if j ≤ (T n).1 then F (T n) else 0
theorem smG_le {F : kP → Nat} {T : Nat → kP} {j : Nat} : ∀ n, smG F T j n ≤ smT F T n
  | 0 => Nat.le_refl 0
  | n + 1 => by
    have := smG_le (F := F) (T := T) (j := j) n
    unfold smG smT
    split <;> omega
theorem smG_mono {F : kP → Nat} {T : Nat → kP} {j j' : Nat} (h : j ≤ j') : ∀ n, smG F T j' n ≤ smG F T j n
  | 0 => Nat.le_refl 0
  | n + 1 => by
    have := smG_mono (F := F) (T := T) h n
    unfold smG
    by_cases h1 : j' ≤ (T n).1
    · rw [if_pos h1, if_pos (by omega)]; omega
    · rw [if_neg h1]; omega
theorem smG_one {F : kP → Nat} {T : Nat → kP} {j j' i : Nat} (hj : j < j') (hi : (T i).1 = j) : ∀ n, i < n → F (T i) + smG F T j' n ≤ smG F T j n
  | 0, h => absurd h (Nat.not_lt_zero i)
  | n + 1, h => by
    unfold smG
    by_cases e : i = n
    · subst e
      have := smG_mono (F := F) (T := T) (Nat.le_of_lt hj) i
      rw [if_neg (by omega), if_pos (by omega)]
      omega
    · have := smG_one (F := F) hj hi n (by omega)
      by_cases h1 : j' ≤ (T n).1
      · rw [if_pos h1, if_pos (by omega)]; omega
      · rw [if_neg h1]; omega
/-- what holds of the best plan from day j on -/
theorem plan_all {T : Nat → kP} {n D : Nat} (h : okT T n D) (hw : ∀ i, i < n → 1 ≤ (T i).2.2 ∧ (T i).2.2 ≤ 20) : ∀ (k j : Nat), 1 ≤ j → D + 1 ≤ j + k →
    (plD T n D D j).1 ≤ 20 * (plD T n D D j).2 ∧ ((plD T n D D j).2 ≤ D + 1 - j) ∧ ((plD T n D D j).2 = 0 ↔ (plD T n D D j).1 = 0) ∧ (plD T n D D j).1 ≤ smG (fun q => q.2.2) T j n ∧ (plD T n D D j).2 ≤ smG (fun _ => 1) T j n := by
  have hout : ∀ j, D < j → (plD T n D D j).1 ≤ 20 * (plD T n D D j).2 ∧ ((plD T n D D j).2 ≤ D + 1 - j) ∧ ((plD T n D D j).2 = 0 ↔ (plD T n D D j).1 = 0) ∧ (plD T n D D j).1 ≤ smG (fun q => q.2.2) T j n ∧ (plD T n D D j).2 ≤ smG (fun _ => 1) T j n := fun j hj => by
    rw [plD_out hj]
    exact ⟨Nat.zero_le _, Nat.zero_le _, Iff.rfl, Nat.zero_le _, Nat.zero_le _⟩
  intro k
  induction k with
  | zero => intro j h1 h2; exact hout j (by omega)
  | succ k ih =>
    intro j h1 h2
    by_cases hd : D < j
    · exact hout j hd
    · rcases (plD_at (T := T) (n := n) (D := D) (j := j) (fun i hi => (h i hi).2.1) h1 (by omega)).1 with e | ⟨i, hi, e1, e2⟩
      · obtain ⟨a1, a2, a3, a4, a5⟩ := ih (j + 1) (by omega) (by omega)
        rw [e]
        have m1 := smG_mono (F := fun q => q.2.2) (T := T) (j := j) (j' := j + 1) (by omega) n
        have m2 := smG_mono (F := fun _ => 1) (T := T) (j := j) (j' := j + 1) (by omega) n
        exact ⟨a1, by omega, a3, by omega, by omega⟩
      · obtain ⟨b1, b2, b3⟩ := h i hi
        obtain ⟨w1, w2⟩ := hw i hi
        obtain ⟨a1, a2, a3, a4, a5⟩ := ih ((T i).2.1 + 1) (by omega) (by omega)
        have g1 := smG_one (F := fun q => q.2.2) (T := T) (j := j) (j' := (T i).2.1 + 1) (i := i) (by omega) e1 n hi
        have g2 := smG_one (F := fun _ => 1) (T := T) (j := j) (j' := (T i).2.1 + 1) (i := i) (by omega) e1 n hi
        rw [e2]
        unfold candT
        simp only
        have g1 : (T i).2.2 + smG (fun q => q.2.2) T ((T i).2.1 + 1) n ≤ smG (fun q => q.2.2) T j n := g1
        have g2 : 1 + smG (fun _ => 1) T ((T i).2.1 + 1) n ≤ smG (fun _ => 1) T j n := g2
        refine ⟨by omega, by omega, by omega, by omega, by omega⟩
/-- the best worth of so many days, and its passes -/
def bW (V : kV) (d : Nat) : Nat := (plD (telU V d).1 (telU V d).2 d d 1).1
def bP (V : kV) (d : Nat) : Nat := (plD (telU V d).1 (telU V d).2 d d 1).2
theorem telU_okT {u : Nat} {O : kO} (hw : WfO u O) (hu : u ≤ 6144) (d : Nat) : okT (telU O.1 d).1 (telU O.1 d).2 d := fun i hi =>
  have h := telU_ok hw hu d i hi
  ⟨h.1, h.2.1, h.2.2.1⟩
theorem WfO.cV {u : Nat} {O : kO} (hw : WfO u O) {i : Nat} (hi : i < O.1.1.length) : 1 ≤ cAt O.1.1 i 1 ∧ O.1.2.1 2 < cAt O.1.1 i 3 :=
  have h := hw.1.at hi
  ⟨by have := h.1; omega, h.2.2.2.2.1⟩
theorem plan_of {u : Nat} {O : kO} (hw : WfO u O) (hu : u ≤ 6144) (d : Nat) : bW O.1 d ≤ 20 * bP O.1 d ∧ bP O.1 d ≤ d ∧ (bP O.1 d = 0 ↔ bW O.1 d = 0) ∧ bW O.1 d ≤ wAhV O.1.1 (O.1.2.1 2 + d) O.1.1.length ∧ bP O.1 d ≤ pAhV O.1.1 (O.1.2.1 2 + d) O.1.1.length := by
  have h := telU_ok hw hu d
  have h1 : ∀ i, i < (telU O.1 d).2 → 1 ≤ ((telU O.1 d).1 i).2.2 ∧ ((telU O.1 d).1 i).2.2 ≤ 20 := fun i hi => by
    refine ⟨?_, (h i hi).2.2.2⟩
    obtain ⟨k, hk, b, b1, b2, b3, b4⟩ := (telU_mem (fun i hi => hw.cV hi)).mp ⟨i, hi, rfl⟩
    rw [b4]
    exact b2
  obtain ⟨a1, a2, a3, a4, a5⟩ := plan_all (telU_okT hw hu d) h1 d 1 (Nat.le_refl _) (by omega)
  have s1 : smT (fun q => q.2.2) (telU O.1 d).1 (telU O.1 d).2 ≤ _ := aimA_sm (fun q => q.2.2) (D := d) O.1.1.length
  have s2 : smT (fun _ => 1) (telU O.1 d).1 (telU O.1 d).2 ≤ _ := aimA_sm (fun _ => 1) (D := d) O.1.1.length
  have t1 := telU_w (V := O.1) (D := d) O.1.1.length (fun i hi => hw.cV hi)
  have t2 := telU_n (V := O.1) (D := d) O.1.1.length (fun i hi => hw.cV hi)
  have g1 := smG_le (F := fun q => q.2.2) (T := (telU O.1 d).1) (j := 1) (telU O.1 d).2
  have g2 := smG_le (F := fun _ => 1) (T := (telU O.1 d).1) (j := 1) (telU O.1 d).2
  unfold bW bP
  refine ⟨a1, by omega, a3, ?_, ?_⟩
  · exact Nat.le_trans a4 (Nat.le_trans g1 (Nat.le_trans s1 t1))
  · exact Nat.le_trans a5 (Nat.le_trans g2 (Nat.le_trans s2 t2))
theorem plan_up {u : Nat} {O : kO} (hw : WfO u O) (hu : u ≤ 6144) (d : Nat) : bW O.1 d ≤ bW O.1 (d + 1) := by
  obtain ⟨l, a1, a2, a3⟩ := plD_ach (telU_okT hw hu d) d 1 (Nat.le_refl _) (by omega)
  unfold bW
  rw [← a3]
  refine plD_up (telU_okT hw hu (d + 1)) l 1 (Nat.le_refl _) a1 (fun p hp => ?_)
  obtain ⟨b1, b2⟩ := a2 p hp
  refine ⟨?_, b2⟩
  obtain ⟨k, hk, b, c1, c2, c3, c4⟩ := (telU_mem (fun i hi => hw.cV hi)).mp (show MemU (telU O.1 d) p from b1)
  exact (telU_mem (fun i hi => hw.cV hi)).mpr ⟨k, hk, b, c1, c2, by omega, c4⟩
theorem plan_0 (V : kV) : bW V 0 = 0 ∧ bP V 0 = 0 := by
  unfold bW bP
  rw [plD_out (by omega)]
  exact ⟨rfl, rfl⟩
theorem qWor_n {u : Nat} {O : kO} (hw : WfO u O) (hu : u ≤ 6144) {d : Nat} (hd : d ≤ 60) : qWor O (nI d) = (0, nI (bW O.1 d), O) ∧ qWoD O (nI d) = (0, nI (bW O.1 d), O) ∧ qFew O (nI d) = (0, nI (bP O.1 d), O) ∧ qIn O (nI d) = (0, nI (pAhV O.1.1 (O.1.2.1 2 + d) O.1.1.length), O) := by
  have h : rng (nI d) 0 60 := (rng_nI (by omega) (by decide) (by decide)).mpr ⟨Nat.zero_le _, hd⟩
  have e : (nI d).toNatClampNeg = d := nI_clamp (by omega)
  refine ⟨?_, ?_, ?_, ?_⟩
  · rw [wor_eq hw hu]; unfold qWoD; rw [if_pos h, e]; rfl
  · unfold qWoD; rw [if_pos h, e]; rfl
  · unfold qFew; rw [if_pos h, e]; rfl
  · unfold qIn; rw [if_pos h, e]
/-! ranks -/
theorem rank_at {u : Nat} {O : kO} (hw : WfO u O) {k : Nat} (hk : k < O.1.1.length) : ∃ i, i < O.1.1.length ∧ rkF O.1.1 (cAt O.1.1 i) O.1.1.length = k ∧ qRank O (nI k) = (0, nI (cAt O.1.1 i 0), O) := by
  have hl := hw.len
  have hne : ∀ i j, i < O.1.1.length → j < O.1.1.length → i ≠ j → cAt O.1.1 i 0 ≠ cAt O.1.1 j 0 := fun i j hi hj hij => by
    rcases Nat.lt_or_gt_of_ne hij with h | h
    · exact Nat.ne_of_lt (hw.1.asc h hj)
    · exact (Nat.ne_of_lt (hw.1.asc h hi)).symm
  obtain ⟨i, hi, hik⟩ := pig_on O.1.1.length (fun i => rkF O.1.1 (cAt O.1.1 i) O.1.1.length) (fun i hi => rkF_lt (rkB_irr _) _ hi) (fun i j hi hj he => by
    have he : rkF O.1.1 (cAt O.1.1 i) O.1.1.length = rkF O.1.1 (cAt O.1.1 j) O.1.1.length := he
    refine Classical.byContradiction (fun hij => ?_)
    have hne := hne i j hi hj hij
    by_cases e : rkB (cAt O.1.1 i) (cAt O.1.1 j) = true
    · have := rkF_less (n := O.1.1.length) hi e
      omega
    · have e2 : rkB (cAt O.1.1 j) (cAt O.1.1 i) = true := by
        rw [rkB_iff] at e ⊢; omega
      have := rkF_less (n := O.1.1.length) hj e2
      omega) k hk
  have hik : rkF O.1.1 (cAt O.1.1 i) O.1.1.length = k := hik
  unfold qRank
  rw [if_pos (show inN (nI k) O.1.1.length from ⟨nI_pos' (by omega), nI_lt hk (by omega)⟩)]
  cases h : slotF (fun i => nI (rkF O.1.1 (cAt O.1.1 i) O.1.1.length)) (nI k) 0 O.1.1.length with
  | none => exact absurd (by show nI (rkF O.1.1 (cAt O.1.1 i) O.1.1.length) = nI k; rw [hik]) (slotF_none h i (Nat.zero_le _) (by omega))
  | some j =>
    obtain ⟨-, h2, h3⟩ := slotF_some h
    have h4 := rkF_lt (L := O.1.1) (a := cAt O.1.1 j) (rkB_irr (cAt O.1.1 j)) O.1.1.length (by omega)
    exact ⟨j, by omega, (nI_eq (by omega) (by omega)).mp h3, rfl⟩
theorem rank_ord {u : Nat} {O : kO} (hw : WfO u O) {i j k : Nat} (hi : i < O.1.1.length) (hj : j < O.1.1.length) (h1 : rkF O.1.1 (cAt O.1.1 i) O.1.1.length = k) (h2 : rkF O.1.1 (cAt O.1.1 j) O.1.1.length = k + 1) :
    cAt O.1.1 j 2 < cAt O.1.1 i 2 ∨ (cAt O.1.1 i 2 = cAt O.1.1 j 2 ∧ (cAt O.1.1 i 3 < cAt O.1.1 j 3 ∨ (cAt O.1.1 i 3 = cAt O.1.1 j 3 ∧ cAt O.1.1 i 0 < cAt O.1.1 j 0))) := by
  by_cases e : rkB (cAt O.1.1 i) (cAt O.1.1 j) = true
  · exact (rkB_iff _ _).mp e
  · have hij : i ≠ j := fun q => by rw [q] at h1; omega
    have hne : cAt O.1.1 i 0 ≠ cAt O.1.1 j 0 := by
      rcases Nat.lt_or_gt_of_ne hij with h | h
      · exact Nat.ne_of_lt (hw.1.asc h hj)
      · exact (Nat.ne_of_lt (hw.1.asc h hi)).symm
    have e2 : rkB (cAt O.1.1 j) (cAt O.1.1 i) = true := by
      rw [rkB_iff] at e ⊢; omega
    have := rkF_less (n := O.1.1.length) hj e2
    omega
/-! meetings -/
theorem IsMt.sy {p1 d1 p2 d2 x : Nat} (h : IsMt p1 d1 p2 d2 x) : IsMt p2 d2 p1 d1 x := ⟨h.2.2.1, h.2.2.2, h.1, h.2.1⟩
theorem FirMt.sy {p1 d1 p2 d2 M : Nat} (h : FirMt p1 d1 p2 d2 M) : FirMt p2 d2 p1 d1 M := ⟨h.1.sy, fun x hx => h.2 x hx.sy⟩
theorem meet_of {u : Nat} {O : kO} (hw : WfO u O) (hu : u ≤ 6144) {i j : Nat} (hi : i < O.1.1.length) (hj : j < O.1.1.length) (hij : i ≠ j) :
    (∃ M, FirMt (cAt O.1.1 i 1) (cAt O.1.1 i 3) (cAt O.1.1 j 1) (cAt O.1.1 j 3) M ∧ qMeet mWalk O (nI (cAt O.1.1 i 0)) (nI (cAt O.1.1 j 0)) = (0, nI M, O) ∧ qMeet mEuclid O (nI (cAt O.1.1 j 0)) (nI (cAt O.1.1 i 0)) = (0, nI M, O)) ∨
    ((∀ x, ¬ IsMt (cAt O.1.1 i 1) (cAt O.1.1 i 3) (cAt O.1.1 j 1) (cAt O.1.1 j 3) x) ∧ qMeet mWalk O (nI (cAt O.1.1 i 0)) (nI (cAt O.1.1 j 0)) = (3, 0, O) ∧ qMeet mEuclid O (nI (cAt O.1.1 j 0)) (nI (cAt O.1.1 i 0)) = (3, 0, O)) := by
  have bi := hw.com hu hi
  have bj := hw.com hu hj
  have hD := hw.day hu
  have hne : ¬ nI (cAt O.1.1 i 0) = nI (cAt O.1.1 j 0) := fun q => by
    have h3 := (nI_eq (by omega) (by omega)).mp q
    rcases Nat.lt_or_gt_of_ne hij with h | h
    · have := hw.1.asc h hj; omega
    · have := hw.1.asc h hi; omega
  have hq : ∀ mt : Int32 → Int32 → Int32 → Int32 → Int32, qMeet mt O (nI (cAt O.1.1 i 0)) (nI (cAt O.1.1 j 0)) = if mt (nI (cAt O.1.1 i 1)) (nI (cAt O.1.1 i 3)) (nI (cAt O.1.1 j 1)) (nI (cAt O.1.1 j 3)) = -1 then (3, 0, O) else (0, mt (nI (cAt O.1.1 i 1)) (nI (cAt O.1.1 i 3)) (nI (cAt O.1.1 j 1)) (nI (cAt O.1.1 j 3)), O) := fun mt => by
    unfold qMeet
    rw [plV_id hw hu hi, plV_id hw hu hj]
    exact if_neg hne
  have hq2 : ∀ mt : Int32 → Int32 → Int32 → Int32 → Int32, qMeet mt O (nI (cAt O.1.1 j 0)) (nI (cAt O.1.1 i 0)) = if mt (nI (cAt O.1.1 j 1)) (nI (cAt O.1.1 j 3)) (nI (cAt O.1.1 i 1)) (nI (cAt O.1.1 i 3)) = -1 then (3, 0, O) else (0, mt (nI (cAt O.1.1 j 1)) (nI (cAt O.1.1 j 3)) (nI (cAt O.1.1 i 1)) (nI (cAt O.1.1 i 3)), O) := fun mt => by
    unfold qMeet
    rw [plV_id hw hu hi, plV_id hw hu hj]
    exact if_neg (fun q => hne q.symm)
  rw [hq, hq2]
  have hneg : ∀ M, M < 2 ^ 31 → ¬ nI M = (-1 : Int32) := fun M hM q => by
    have h9 := nI_pos' hM
    rw [q] at h9
    exact absurd h9 (by decide)
  rcases mt_dec (cAt O.1.1 i 1) (cAt O.1.1 i 3) (cAt O.1.1 j 1) (cAt O.1.1 j 3) with ⟨M, hM⟩ | hn
  · have hb := hM.bd (by omega) (by omega)
    have hpp : cAt O.1.1 i 1 * cAt O.1.1 j 1 ≤ 60 * 60 := Nat.mul_le_mul bi.2.1 bj.2.1
    have e1 := walk_y (p1 := cAt O.1.1 i 1) (p2 := cAt O.1.1 j 1) ⟨by omega, bi.2.1⟩ ⟨by omega, bj.2.1⟩ (by omega) (by omega) hM
    rcases euclid_all (p1 := cAt O.1.1 j 1) (d1 := cAt O.1.1 j 3) (p2 := cAt O.1.1 i 1) (d2 := cAt O.1.1 i 3) ⟨by omega, bj.2.1⟩ ⟨by omega, bi.2.1⟩ (by omega) (by omega) with ⟨N, hN, e2⟩ | ⟨hn, -⟩
    · have : N = M := hN.sy.uniq hM
      subst this
      rw [e1, e2, if_neg (hneg N (by omega))]
      exact Or.inl ⟨N, hM, rfl, rfl⟩
    · exact absurd hM.1.sy (hn M)
  · have e1 := walk_n (p1 := cAt O.1.1 i 1) (p2 := cAt O.1.1 j 1) ⟨by omega, bi.2.1⟩ ⟨by omega, bj.2.1⟩ (by omega) (by omega) hn
    rcases euclid_all (p1 := cAt O.1.1 j 1) (d1 := cAt O.1.1 j 3) (p2 := cAt O.1.1 i 1) (d2 := cAt O.1.1 i 3) ⟨by omega, bj.2.1⟩ ⟨by omega, bi.2.1⟩ (by omega) (by omega) with ⟨N, hN, e2⟩ | ⟨-, e2⟩
    · exact absurd hN.1.sy (hn N)
    · rw [e1, e2, if_pos rfl]
      exact Or.inr ⟨hn, rfl, rfl⟩
theorem meet_self {u : Nat} {O : kO} (hw : WfO u O) (hu : u ≤ 6144) {i : Nat} (hi : i < O.1.1.length) (mt : Int32 → Int32 → Int32 → Int32 → Int32) : qMeet mt O (nI (cAt O.1.1 i 0)) (nI (cAt O.1.1 i 0)) = (2, 0, O) := by
  unfold qMeet
  rw [plV_id hw hu hi]
  exact if_pos rfl
/-- a day from the later of the first days on -/
theorem mt_at {p1 d1 p2 d2 s : Nat} : IsMt p1 d1 p2 d2 (max d1 d2 + s) ↔ (max d1 d2 + s - d1) % p1 = 0 ∧ (max d1 d2 + s - d2) % p2 = 0 := by
  unfold IsMt
  rw [Nat.dvd_iff_mod_eq_zero, Nat.dvd_iff_mod_eq_zero]
  omega
/-! the alignment -/
theorem lcmV_dvd {L : List (Nat → Nat)} : ∀ n i, i < n → cAt L i 1 ∣ lcmV L n
  | 0, i, h => absurd h (Nat.not_lt_zero i)
  | n + 1, i, h => by
    unfold lcmV
    by_cases e : i = n
    · subst e; exact Nat.dvd_lcm_right _ _
    · exact Nat.dvd_trans (lcmV_dvd n i (by omega)) (Nat.dvd_lcm_left _ _)
/-! the line -/
theorem setLn_same {u : Nat} {O : kO} (h : WfO u O) {l : List Nat} (h1 : l.length ≤ 110) (h2 : ∀ c ∈ l, c < 128) : WfO u (setLn O l) := ⟨h.1, h.2.1, h.2.2.1, h.2.2.2.1, h.2.2.2.2.1, h.2.2.2.2.2.1, h1, h2, h.2.2.2.2.2.2.2.2.1, h.2.2.2.2.2.2.2.2.2⟩
