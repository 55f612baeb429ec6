/-! ===== both sides alike: the best gain ===== -/
def zI (z : Int) : Int32 := Int32.ofInt z
theorem zI_nI (n : Nat) : nI n = zI (n : Int) := Int32.ofInt_eq_ofNat.symm
theorem zI_add (a b : Int) : zI a + zI b = zI (a + b) := (Int32.ofInt_add a b).symm
theorem zI_sub (a b : Int) : zI a - zI b = zI (a - b) := (Int32.ofInt_sub a b).symm
theorem zI_int {a : Int} (h1 : -2 ^ 31 ≤ a) (h2 : a < 2 ^ 31) : (zI a).toInt = a := Int32.toInt_ofInt_of_le h1 h2
theorem zI_lt {a b : Int} (h1 : -2 ^ 31 ≤ a) (h2 : a < 2 ^ 31) (h3 : -2 ^ 31 ≤ b) (h4 : b < 2 ^ 31) : zI a < zI b ↔ a < b := by
  rw [Int32.lt_iff_toInt_lt, zI_int h1 h2, zI_int h3 h4]
theorem zI_le {a b : Int} (h1 : -2 ^ 31 ≤ a) (h2 : a < 2 ^ 31) (h3 : -2 ^ 31 ≤ b) (h4 : b < 2 ^ 31) : zI a ≤ zI b ↔ a ≤ b := by
  rw [Int32.le_iff_toInt_le, zI_int h1 h2, zI_int h3 h4]
def zmx (a b : Int) : Int := if a < b then b else a
def zmn (a b : Int) : Int := if b < a then b else a
theorem zmx_cases (a b : Int) : (zmx a b = a ∨ zmx a b = b) ∧ a ≤ zmx a b ∧ b ≤ zmx a b := by
  unfold zmx; split <;> omega
theorem zmn_cases (a b : Int) : (zmn a b = a ∨ zmn a b = b) ∧ zmn a b ≤ a ∧ zmn a b ≤ b := by
  unfold zmn; split <;> omega
theorem mx_zI {a b : Int} (h1 : -2 ^ 31 ≤ a) (h2 : a < 2 ^ 31) (h3 : -2 ^ 31 ≤ b) (h4 : b < 2 ^ 31) : mx (zI a) (zI b) = zI (zmx a b) := by
  unfold mx zmx
  by_cases h : a < b
  · rw [if_pos h, if_pos ((zI_lt h1 h2 h3 h4).mpr h)]
  · rw [if_neg h, if_neg (fun q => h ((zI_lt h1 h2 h3 h4).mp q))]
theorem mn_zI {a b : Int} (h1 : -2 ^ 31 ≤ a) (h2 : a < 2 ^ 31) (h3 : -2 ^ 31 ≤ b) (h4 : b < 2 ^ 31) : mn (zI a) (zI b) = zI (zmn a b) := by
  unfold mn zmn
  by_cases h : b < a
  · rw [if_pos h, if_pos ((zI_lt h3 h4 h1 h2).mpr h)]
  · rw [if_neg h, if_neg (fun q => h ((zI_lt h3 h4 h1 h2).mp q))]
theorem zI_0 : zI 0 = 0 := rfl
/-- the sum of the first places, each less the rate -/
def psI (f : Nat → Nat) (r : Nat) : Nat → Int
  | 0 => 0
  | n + 1 => psI f r n + ((f n : Int) - (r : Int))
theorem psI_ds (f : Nat → Nat) (r : Nat) : ∀ n, n ≤ 12 → psI f r n = (ds f 0 n : Int) - (r : Int) * (n : Int)
  | 0, _ => by simp [psI, ds]
  | n + 1, hn => by
    have ih := psI_ds f r n (by omega)
    have e : ds f 0 (n + 1) = ds f 0 n + f n := by
      show ds f 0 n + f ((0 + n) % 12) = _
      rw [Nat.zero_add, Nat.mod_eq_of_lt (by omega)]
    show psI f r n + ((f n : Int) - (r : Int)) = _
    rw [ih, e, Int.natCast_add, Int.natCast_add, Int.mul_add]
    omega
theorem psI_bd {f : Nat → Nat} {r K : Nat} (hK : ds f 0 12 ≤ K) (hr : r ≤ 9) {n : Nat} (hn : n ≤ 12) : -108 ≤ psI f r n ∧ psI f r n ≤ (K : Int) := by
  rw [psI_ds f r n hn]
  have h1 := ds_le f 0 n hn
  have h2 : r * n ≤ 9 * 12 := Nat.mul_le_mul hr hn
  have h3 : ((r * n : Nat) : Int) = (r : Int) * (n : Int) := Int.natCast_mul r n
  omega
/-- what the running sums are -/
def KadIs (P : Nat → Int) (n : Nat) (gh g lh l : Int) : Prop :=
  ((∃ a, a ≤ n ∧ gh = P (n + 1) - P a) ∧ ∀ a, a ≤ n → P (n + 1) - P a ≤ gh) ∧
  ((∃ a b, a < b ∧ b ≤ n + 1 ∧ g = P b - P a) ∧ ∀ a b, a < b → b ≤ n + 1 → P b - P a ≤ g) ∧
  ((∃ a, a ≤ n ∧ lh = P (n + 1) - P a) ∧ ∀ a, a ≤ n → lh ≤ P (n + 1) - P a) ∧
  ((∃ a b, a < b ∧ b ≤ n + 1 ∧ l = P b - P a) ∧ ∀ a b, a < b → b ≤ n + 1 → l ≤ P b - P a)
theorem KadIs.zero {P : Nat → Int} {z : Int} (h0 : P 0 = 0) (h1 : P 1 = z) : KadIs P 0 z z z z := by
  refine ⟨⟨⟨0, Nat.le_refl 0, by show z = P 1 - P 0; omega⟩, fun a ha => ?_⟩, ⟨⟨0, 1, by omega, by omega, by omega⟩, fun a b h2 h3 => ?_⟩, ⟨⟨0, Nat.le_refl 0, by show z = P 1 - P 0; omega⟩, fun a ha => ?_⟩, ⟨⟨0, 1, by omega, by omega, by omega⟩, fun a b h2 h3 => ?_⟩⟩
  · have : a = 0 := by omega
    subst this
    show P 1 - P 0 ≤ z; omega
  · have h4 : a = 0 := by omega
    have h5 : b = 1 := by omega
    subst h4 h5; omega
  · have : a = 0 := by omega
    subst this
    show z ≤ P 1 - P 0; omega
  · have h4 : a = 0 := by omega
    have h5 : b = 1 := by omega
    subst h4 h5; omega
theorem KadIs.step {P : Nat → Int} {n : Nat} {gh g lh l x : Int} (h : KadIs P n gh g lh l) (hx : P (n + 2) = P (n + 1) + x) : KadIs P (n + 1) (zmx gh 0 + x) (zmx g (zmx gh 0 + x)) (zmn lh 0 + x) (zmn l (zmn lh 0 + x)) := by
  obtain ⟨⟨⟨a1, a2, a3⟩, a4⟩, ⟨⟨b1, b2, b3, b4, b5⟩, b6⟩, ⟨⟨c1, c2, c3⟩, c4⟩, ⟨⟨d1, d2, d3, d4, d5⟩, d6⟩⟩ := h
  obtain ⟨m1, m2, m3⟩ := zmx_cases gh 0
  obtain ⟨n1, n2, n3⟩ := zmn_cases lh 0
  have p1 : ∃ a, a ≤ n + 1 ∧ zmx gh 0 + x = P (n + 2) - P a := by
    rcases m1 with e | e
    · exact ⟨a1, by omega, by omega⟩
    · exact ⟨n + 1, Nat.le_refl _, by omega⟩
  have p2 : ∀ a, a ≤ n + 1 → P (n + 2) - P a ≤ zmx gh 0 + x := fun a ha => by
    rcases Nat.lt_or_ge n a with e | e
    · have : a = n + 1 := by omega
      subst this; omega
    · have := a4 a e; omega
  have p3 : ∃ a, a ≤ n + 1 ∧ zmn lh 0 + x = P (n + 2) - P a := by
    rcases n1 with e | e
    · exact ⟨c1, by omega, by omega⟩
    · exact ⟨n + 1, Nat.le_refl _, by omega⟩
  have p4 : ∀ a, a ≤ n + 1 → zmn lh 0 + x ≤ P (n + 2) - P a := fun a ha => by
    rcases Nat.lt_or_ge n a with e | e
    · have : a = n + 1 := by omega
      subst this; omega
    · have := c4 a e; omega
  generalize zmx gh 0 + x = y at p1 p2 ⊢
  generalize zmn lh 0 + x = z at p3 p4 ⊢
  obtain ⟨q1, q2, q3⟩ := zmx_cases g y
  obtain ⟨r1, r2, r3⟩ := zmn_cases l z
  obtain ⟨s1, s2, s3⟩ := p1
  obtain ⟨t1, t2, t3⟩ := p3
  refine ⟨⟨⟨s1, s2, s3⟩, p2⟩, ⟨?_, fun a b h1 h2 => ?_⟩, ⟨⟨t1, t2, t3⟩, p4⟩, ⟨?_, fun a b h1 h2 => ?_⟩⟩
  · rcases q1 with e | e
    · exact ⟨b1, b2, b3, by omega, by omega⟩
    · exact ⟨s1, n + 2, by omega, Nat.le_refl _, by omega⟩
  · rcases Nat.lt_or_ge (n + 1) b with e | e
    · have : b = n + 2 := by omega
      subst this
      have := p2 a (by omega); omega
    · have := b6 a b h1 e; omega
  · rcases r1 with e | e
    · exact ⟨d1, d2, d3, by omega, by omega⟩
    · exact ⟨t1, n + 2, by omega, Nat.le_refl _, by omega⟩
  · rcases Nat.lt_or_ge (n + 1) b with e | e
    · have : b = n + 2 := by omega
      subst this
      have := p4 a (by omega); omega
    · have := d6 a b h1 e; omega
theorem kad_Z {f : Nat → Nat} {r K : Nat} (hK : ds f 0 12 ≤ K) (hr : r ≤ 9) (hb : K < 2 ^ 29) : ∀ n, n ≤ 11 → ∃ gh g lh l : Int, kad (fun j => nI (f j)) (nI r) n = (zI (psI f r (n + 1)), zI gh, zI g, zI lh, zI l) ∧ KadIs (psI f r) n gh g lh l
  | 0, _ => by
    have e : nI (f 0) - nI r = zI (psI f r 1) := by
      rw [zI_nI, zI_nI, zI_sub]
      show _ = zI (0 + ((f 0 : Int) - (r : Int)))
      rw [Int.zero_add]
    refine ⟨psI f r 1, psI f r 1, psI f r 1, psI f r 1, ?_, KadIs.zero rfl rfl⟩
    show (nI (f 0) - nI r, nI (f 0) - nI r, nI (f 0) - nI r, nI (f 0) - nI r, nI (f 0) - nI r) = _
    rw [e]
  | n + 1, hn => by
    obtain ⟨gh, g, lh, l, h1, h2⟩ := kad_Z hK hr hb n (by omega)
    have hP : ∀ k, k ≤ 12 → -108 ≤ psI f r k ∧ psI f r k ≤ (K : Int) := fun k hk => psI_bd hK hr hk
    have hx : psI f r (n + 2) = psI f r (n + 1) + ((f (n + 1) : Int) - (r : Int)) := rfl
    have h3 := h2.step hx
    have hK' : (K : Int) < 2 ^ 29 := by omega
    have bnd : ∀ a b : Nat, a ≤ 12 → b ≤ 12 → -2 ^ 30 ≤ psI f r b - psI f r a ∧ psI f r b - psI f r a < 2 ^ 30 := fun a b ha hb' => by
      have := hP a ha
      have := hP b hb'
      omega
    refine ⟨_, _, _, _, ?_, h3⟩
    show kadS (nI (f (n + 1)) - nI r) (kad (fun j => nI (f j)) (nI r) n) = _
    have e : nI (f (n + 1)) - nI r = zI ((f (n + 1) : Int) - (r : Int)) := by rw [zI_nI, zI_nI, zI_sub]
    have g1 : -2 ^ 30 ≤ gh ∧ gh < 2 ^ 30 := by
      obtain ⟨⟨⟨a1, a2, a3⟩, a4⟩, -⟩ := h2
      rw [a3]; exact bnd _ _ (by omega) (by omega)
    have g2 : -2 ^ 30 ≤ g ∧ g < 2 ^ 30 := by
      obtain ⟨-, ⟨⟨a1, a2, a3, a4, a5⟩, -⟩, -⟩ := h2
      rw [a5]; exact bnd _ _ (by omega) (by omega)
    have g3 : -2 ^ 30 ≤ lh ∧ lh < 2 ^ 30 := by
      obtain ⟨-, -, ⟨⟨a1, a2, a3⟩, a4⟩, -⟩ := h2
      rw [a3]; exact bnd _ _ (by omega) (by omega)
    have g4 : -2 ^ 30 ≤ l ∧ l < 2 ^ 30 := by
      obtain ⟨-, -, -, ⟨⟨a1, a2, a3, a4, a5⟩, -⟩⟩ := h2
      rw [a5]; exact bnd _ _ (by omega) (by omega)
    have g5 : -2 ^ 30 ≤ zmx gh 0 + ((f (n + 1) : Int) - (r : Int)) ∧ zmx gh 0 + ((f (n + 1) : Int) - (r : Int)) < 2 ^ 30 := by
      obtain ⟨⟨⟨a1, a2, a3⟩, a4⟩, -⟩ := h3
      rw [a3]; exact bnd _ _ (by omega) (by omega)
    have g6 : -2 ^ 30 ≤ zmn lh 0 + ((f (n + 1) : Int) - (r : Int)) ∧ zmn lh 0 + ((f (n + 1) : Int) - (r : Int)) < 2 ^ 30 := by
      obtain ⟨-, -, ⟨⟨a1, a2, a3⟩, a4⟩, -⟩ := h3
      rw [a3]; exact bnd _ _ (by omega) (by omega)
    rw [h1, e, hx]
    unfold kadS
    show (zI (psI f r (n + 1)) + zI ((f (n + 1) : Int) - (r : Int)), mx (zI gh) 0 + zI ((f (n + 1) : Int) - (r : Int)), mx (zI g) (mx (zI gh) 0 + zI ((f (n + 1) : Int) - (r : Int))), mn (zI lh) 0 + zI ((f (n + 1) : Int) - (r : Int)), mn (zI l) (mn (zI lh) 0 + zI ((f (n + 1) : Int) - (r : Int)))) = _
    rw [← zI_0, mx_zI (by omega) (by omega) (by omega) (by omega), mn_zI (by omega) (by omega) (by omega) (by omega), zI_add, zI_add, zI_add, mx_zI (by omega) (by omega) (by omega) (by omega), mn_zI (by omega) (by omega) (by omega) (by omega)]
/-- an arc's gain -/
def agI (f : Nat → Nat) (r a n : Nat) : Int := (ds f a n : Int) - (r : Int) * (n : Int)
theorem agI_s (f : Nat → Nat) (r a n : Nat) : agI f r a (n + 1) = agI f r a n + ((f ((a + n) % 12) : Int) - (r : Int)) := by
  unfold agI
  show ((ds f a n + f ((a + n) % 12) : Nat) : Int) - (r : Int) * ((n + 1 : Nat) : Int) = _
  rw [Int.natCast_add, Int.natCast_add, Int.mul_add]
  omega
theorem agI_in (f : Nat → Nat) (r a : Nat) : ∀ n, a + n ≤ 12 → agI f r a n = psI f r (a + n) - psI f r a
  | 0, _ => by simp [agI, ds]
  | n + 1, h => by
    rw [agI_s, agI_in f r a n (by omega), Nat.mod_eq_of_lt (by omega)]
    show _ = psI f r (a + n) + ((f (a + n) : Int) - (r : Int)) - psI f r a
    omega
theorem agI_out (f : Nat → Nat) (r : Nat) {a : Nat} (ha : a ≤ 12) : ∀ k, k ≤ a → k < 12 → agI f r a (12 - a + k) = psI f r 12 - psI f r a + psI f r k
  | 0, _, _ => by
    rw [Nat.add_zero, agI_in f r a (12 - a) (by omega), show a + (12 - a) = 12 by omega]
    show _ = _ + (0 : Int)
    omega
  | k + 1, h, h2 => by
    rw [← Nat.add_assoc, agI_s, agI_out f r ha k (by omega) (by omega), show (a + (12 - a + k)) % 12 = k by omega]
    show _ = psI f r 12 - psI f r a + (psI f r k + ((f k : Int) - (r : Int)))
    omega
theorem gN_zI (f : Nat → Nat) (r a n : Nat) : gN f r a n = zI (agI f r a n) := by
  unfold gN agI
  rw [zI_nI, zI_nI, zI_sub, Int.natCast_mul]
theorem agI_bd {f : Nat → Nat} {r K : Nat} (hK : ds f 0 12 ≤ K) (hr : r ≤ 9) (hb : K < 2 ^ 29) {a n : Nat} (hn : n ≤ 12) : -2 ^ 30 ≤ agI f r a n ∧ agI f r a n < 2 ^ 30 := by
  unfold agI
  have h1 := ds_le f a n hn
  have h2 : r * n ≤ 9 * 12 := Nat.mul_le_mul hr hn
  have h3 : ((r * n : Nat) : Int) = (r : Int) * (n : Int) := Int.natCast_mul r n
  omega
/-- the best of the first arcs -/
theorem arcV_best {f : Nat → Nat} {r K : Nat} (hK : ds f 0 12 ≤ K) (hr : r ≤ 9) (hb : K < 2 ^ 29) : ∀ k, k ≤ 144 → ((arcV f r k).1 < 12 ∧ 1 ≤ (arcV f r k).2 ∧ (arcV f r k).2 ≤ 12) ∧ ∀ j, j < k → agI f r (j % 12) (j / 12 + 1) ≤ agI f r (arcV f r k).1 (arcV f r k).2
  | 0, _ => ⟨⟨show (0 : Nat) < 12 by decide, show 1 ≤ 1 by decide, show 1 ≤ 12 by decide⟩, fun j hj => absurd hj (Nat.not_lt_zero j)⟩
  | k + 1, hk => by
    obtain ⟨⟨i1, i2, i3⟩, i4⟩ := arcV_best hK hr hb k (by omega)
    have b1 := agI_bd (a := (arcV f r k).1) hK hr hb i3
    have b2 := agI_bd (a := k % 12) (n := k / 12 + 1) hK hr hb (by omega)
    have e : arcV f r (k + 1) = if gN f r (k % 12) (k / 12 + 1) ≤ gN f r (arcV f r k).1 (arcV f r k).2 then arcV f r k else (k % 12, k / 12 + 1) := rfl
    rw [gN_zI, gN_zI] at e
    by_cases h : agI f r (k % 12) (k / 12 + 1) ≤ agI f r (arcV f r k).1 (arcV f r k).2
    · rw [if_pos ((zI_le (by omega) (by omega) (by omega) (by omega)).mpr h)] at e
      rw [e]
      refine ⟨⟨i1, i2, i3⟩, fun j hj => ?_⟩
      rcases Nat.lt_or_ge j k with q | q
      · exact i4 j q
      · rw [show j = k by omega]; exact h
    · rw [if_neg (fun q => h ((zI_le (by omega) (by omega) (by omega) (by omega)).mp q))] at e
      rw [e]
      refine ⟨⟨Nat.mod_lt _ (by decide), by show 1 ≤ k / 12 + 1; omega, by show k / 12 + 1 ≤ 12; omega⟩, fun j hj => ?_⟩
      rcases Nat.lt_or_ge j k with q | q
      · have := i4 j q
        show _ ≤ agI f r (k % 12) (k / 12 + 1)
        omega
      · rw [show j = k by omega]; exact Int.le_refl _
theorem kadane_best {f : Nat → Nat} {r K : Nat} (hK : ds f 0 12 ≤ K) (hr : r ≤ 9) (hb : K < 2 ^ 29) : kadane (fun j => nI (f j)) (nI r) = gN f r (arcV f r n144).1 (arcV f r n144).2 := by
  rw [show n144 = 144 from rfl]
  have hB := arcV_best hK hr hb 144 (Nat.le_refl _)
  generalize arcV f r 144 = A at hB ⊢
  obtain ⟨gh, g, lh, l, h1, -, ⟨⟨b1, b2, b3, b4, b5⟩, b6⟩, -, ⟨⟨d1, d2, d3, d4, d5⟩, d6⟩⟩ := kad_Z hK hr hb 11 (Nat.le_refl _)
  have hP : ∀ k, k ≤ 12 → -108 ≤ psI f r k ∧ psI f r k ≤ (K : Int) := fun k hk => psI_bd hK hr hk
  have p0 : psI f r 0 = 0 := rfl
  have hg : -2 ^ 30 ≤ g ∧ g < 2 ^ 30 := by
    have := hP b1 (by omega)
    have := hP b2 (by omega)
    omega
  have hl : -2 ^ 30 ≤ l ∧ l < 2 ^ 30 := by
    have := hP d1 (by omega)
    have := hP d2 (by omega)
    omega
  have h12 := hP 12 (Nat.le_refl _)
  obtain ⟨⟨i1, i2, i3⟩, i4⟩ := hB
  have top : ∀ a n, a < 12 → 1 ≤ n → n ≤ 12 → agI f r a n ≤ agI f r A.1 A.2 := fun a n h1 h2 h3 => by
    have := i4 ((n - 1) * 12 + a) (by omega)
    rw [show ((n - 1) * 12 + a) % 12 = a by omega, show ((n - 1) * 12 + a) / 12 + 1 = n by omega] at this
    exact this
  -- a linear arc is no better than g
  have lin : ∀ a n, 1 ≤ n → a + n ≤ 12 → agI f r a n ≤ g := fun a n h2 h3 => by
    rw [agI_in f r a n h3]
    exact b6 a (a + n) (by omega) h3
  have gtop : g ≤ agI f r A.1 A.2 := by
    have := top b1 (b2 - b1) (by omega) (by omega) (by omega)
    rw [agI_in f r b1 (b2 - b1) (by omega), show b1 + (b2 - b1) = b2 by omega] at this
    omega
  have wrap : ∀ a k, a < 12 → 1 ≤ k → k ≤ a → agI f r a (12 - a + k) = psI f r 12 - psI f r a + psI f r k := fun a k h1 h2 h3 => agI_out f r (by omega) k h3 (by omega)
  have ltop : ¬ (d1 = 0 ∧ d2 = 12) → psI f r 12 - l ≤ agI f r A.1 A.2 := fun hn => by
    by_cases e : d2 = 12
    · have := top 0 d1 (by decide) (by omega) (by omega)
      rw [agI_in f r 0 d1 (by omega), Nat.zero_add] at this
      rw [d5, e]; omega
    · by_cases e0 : d1 = 0
      · have := top d2 (12 - d2) (by omega) (by omega) (by omega)
        rw [agI_in f r d2 (12 - d2) (by omega), show d2 + (12 - d2) = 12 by omega] at this
        rw [d5, e0]; omega
      · have := top d2 (12 - d2 + d1) (by omega) (by omega) (by omega)
        rw [wrap d2 d1 (by omega) (by omega) (by omega)] at this
        omega
  have e : kadane (fun j => nI (f j)) (nI r) = if 0 ≤ zI g then mx (zI g) (zI (psI f r 12) - zI l) else zI g := by
    unfold kadane
    rw [h1]
  rw [e, gN_zI, zI_sub]
  -- the best arc is linear or goes round
  have best : agI f r A.1 A.2 ≤ g ∨ ∃ k, 1 ≤ k ∧ k ≤ A.1 ∧ A.2 = 12 - A.1 + k := by
    by_cases q : A.1 + A.2 ≤ 12
    · exact Or.inl (lin _ _ i2 q)
    · exact Or.inr ⟨A.1 + A.2 - 12, by omega, by omega, by omega⟩
  by_cases h0 : 0 ≤ g
  · rw [if_pos (by rw [← zI_0]; exact (zI_le (by omega) (by omega) (by omega) (by omega)).mpr h0), mx_zI (by omega) (by omega) (by omega) (by omega)]
    congr 1
    obtain ⟨m1, m2, m3⟩ := zmx_cases g (psI f r 12 - l)
    have up : zmx g (psI f r 12 - l) ≤ agI f r A.1 A.2 := by
      rcases m1 with m1 | m1
      · omega
      · by_cases q : d1 = 0 ∧ d2 = 12
        · rw [q.1, q.2] at d5
          omega
        · have := ltop q
          omega
    rcases best with q | ⟨k, k1, k2, k3⟩
    · omega
    · have hw := wrap A.1 k i1 k1 k2
      rw [← k3] at hw
      by_cases ek : k = A.1
      · have := b6 0 12 (by decide) (by decide)
        rw [ek] at hw
        omega
      · have := d6 k A.1 (by omega) (by omega)
        omega
  · rw [if_neg (by rw [← zI_0]; exact fun q => h0 ((zI_le (by omega) (by omega) (by omega) (by omega)).mp q))]
    congr 1
    rcases best with q | ⟨k, k1, k2, k3⟩
    · omega
    · have hw := wrap A.1 k i1 k1 k2
      rw [← k3] at hw
      have := b6 A.1 12 i1 (by decide)
      have := b6 0 k (by omega) (by omega)
      omega
theorem kad_eq {u : Nat} {O : kO} (hw : WfO u O) (hu : u ≤ 6144) : qKad O = qArc O (gN O.1.2.2 (O.1.2.1 4) (qArcP O).1 (qArcP O).2) := by
  have h := hw.1.2.2.2.2.2.1
  have h4 := hw.1.2.2.2.2.2.2.1
  unfold qKad qArc qArcP
  rw [kadane_best (K := 20 + 7500 * u) (by omega) h4 (by omega)]
