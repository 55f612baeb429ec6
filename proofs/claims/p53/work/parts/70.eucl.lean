/-! ===== both sides alike: the least common multiple; Euclid ===== -/
theorem mMeet_a {O : kO} {a b : Int32} (h : plV O.1.1 a = none) : mMeet O a b = (1, 0, O) := by unfold mMeet; rw [h]
theorem mMeet_b {O : kO} {a b : Int32} (h : plV O.1.1 b = none) : mMeet O a b = (1, 0, O) := by
  unfold mMeet; rw [h]
  cases plV O.1.1 a <;> rfl
theorem mMeet_s {O : kO} {a b : Int32} {i j : Nat} (h1 : plV O.1.1 a = some i) (h2 : plV O.1.1 b = some j) : mMeet O a b = if a = b then (2, 0, O) else if dyM (cAt O.1.1 i) (cAt O.1.1 j) ≤ laM (cAt O.1.1 i) (cAt O.1.1 j) then (0, nI (dyM (cAt O.1.1 i) (cAt O.1.1 j)), O) else (3, 0, O) := by unfold mMeet; rw [h1, h2]
theorem gcd_it : ∀ (n a b : Nat), b ≤ n → a < 2 ^ 62 → b < 2 ^ 62 → (itr gcdC gcdS n (lN a, lN b)).1 = lN (Nat.gcd a b)
  | 0, a, b, h, _, _ => by
    have : b = 0 := by omega
    subst this
    rw [Nat.gcd_zero_right]; rfl
  | n + 1, a, b, h, ha, hb => by
    by_cases e : b = 0
    · subst e
      rw [itr_f (gcdC_f (by decide)), Nat.gcd_zero_right]
    · have hc : gcdC (lN a, lN b) = true := by
        simp only [gcdC, decide_eq_true_eq]
        exact (pk_lLT (a := 0) (by decide) (by omega)).mpr (by omega)
      have hs : gcdS (lN a, lN b) = (lN b, lN (a % b)) := by
        unfold gcdS
        rw [pk_lRem (by omega) (by omega) (by omega)]
      have hlt := Nat.mod_lt a (show 0 < b by omega)
      rw [itr_t hc, hs, gcd_it n b (a % b) (by omega) hb (by omega), Nat.gcd_comm b (a % b), ← Nat.gcd_rec, Nat.gcd_comm]
theorem gcdL_N {a b : Nat} (ha : a < 2 ^ 62) (hb : b ≤ 100) : gcdL (lN a) (lN b) = lN (Nat.gcd a b) := gcd_it 100 a b hb ha (by omega)
theorem lcmL_N {a b : Nat} (h1 : 1 ≤ a) (ha : a < 2 ^ 62) (hb : b ≤ 100) : lcmL (lN a) (lN b) = lN (Nat.lcm a b) := by
  have hg : 0 < Nat.gcd a b := Nat.gcd_pos_of_pos_left b h1
  have hle : Nat.gcd a b ≤ a := Nat.le_of_dvd h1 (Nat.gcd_dvd_left a b)
  unfold lcmL
  rw [gcdL_N ha hb, if_pos (show (0 : Int32) ≤ lg_cmp (lN (Nat.gcd a b)) 1 from (lg_cmp_ge _ _).mpr ((pk_lLE (a := 1) (by decide) (by omega)).mpr hg)), pk_lDiv (by omega) hg (by omega)]
  show Int64.ofNat (a / Nat.gcd a b) * Int64.ofNat b = Int64.ofNat (Nat.lcm a b)
  rw [← Int64.ofNat_mul, Nat.div_mul_right_comm (Nat.gcd_dvd_left a b), Nat.lcm_eq_mul_div]
theorem lcV_bd {L : List (Nat → Nat)} : ∀ n, (∀ i, i < n → 1 ≤ cAt L i 1 ∧ cAt L i 1 ≤ 60) → 1 ≤ lcmV L n ∧ lcmV L n ≤ 60 ^ n
  | 0, _ => ⟨Nat.le_refl 1, Nat.le_refl 1⟩
  | n + 1, h => by
    obtain ⟨i1, i2⟩ := lcV_bd (L := L) n (fun i hi => h i (by omega))
    obtain ⟨h1, h2⟩ := h n (by omega)
    have h3 := Nat.lcm_pos (m := lcmV L n) (n := cAt L n 1) i1 h1
    have h4 := Nat.lcm_le_mul (m := lcmV L n) (n := cAt L n 1) i1 h1
    have h5 := Nat.mul_le_mul i2 h2
    show 1 ≤ Nat.lcm (lcmV L n) (cAt L n 1) ∧ Nat.lcm (lcmV L n) (cAt L n 1) ≤ 60 ^ (n + 1)
    rw [Nat.pow_succ]
    omega
theorem alC_N {L : List (Nat → Nat)} : ∀ n, n ≤ 6 → (∀ i, i < n → 1 ≤ cAt L i 1 ∧ cAt L i 1 ≤ 60) → alC L n = lN (lcmV L n)
  | 0, _, _ => rfl
  | n + 1, hn, h => by
    obtain ⟨i1, i2⟩ := lcV_bd (L := L) n (fun i hi => h i (by omega))
    obtain ⟨h1, h2⟩ := h n (by omega)
    have h3 : 60 ^ n ≤ 60 ^ 5 := Nat.pow_le_pow_right (by decide) (by omega)
    have h4 : 60 ^ 5 < 2 ^ 62 := by decide
    show lcmL (alC L n) (nI (cAt L n 1)).toInt64 = lN (Nat.lcm (lcmV L n) (cAt L n 1))
    rw [alC_N n (by omega) (fun i hi => h i (by omega)), nI_l (by omega), lcmL_N i1 (by omega) (by omega)]
theorem ali_eq {u : Nat} {O : kO} (hw : WfO u O) (hu : u ≤ 6144) : qAli O = mAli O := by
  unfold qAli mAli
  rw [alC_N _ hw.len (fun i hi => by
    obtain ⟨b1, b2, b3, b4, b5, b6, b7, b8⟩ := hw.1.at hi
    exact ⟨by omega, b2⟩)]
/-! the remainder of a number that may be less than 0 -/
theorem zI_div {a b : Int} (h1 : -2 ^ 31 ≤ a) (h2 : a < 2 ^ 31) (h3 : -2 ^ 31 ≤ b) (h4 : b < 2 ^ 31) : zI a / zI b = zI (a.tdiv b) :=
  (Int32.ofInt_tdiv (by rw [Int32.toInt_minValue]; omega) (by rw [Int32.toInt_maxValue]; omega) (by rw [Int32.toInt_minValue]; omega) (by rw [Int32.toInt_maxValue]; omega)).symm
theorem zI_mul (a b : Int) : zI a * zI b = zI (a * b) := (Int32.ofInt_mul a b).symm
theorem zI_rem {a b : Int} (h1 : -2 ^ 31 ≤ a) (h2 : a < 2 ^ 31) (h3 : -2 ^ 31 ≤ b) (h4 : b < 2 ^ 31) : zI a - zI a / zI b * zI b = zI (a.tmod b) := by
  rw [zI_div h1 h2 h3 h4, zI_mul, zI_sub, Int.tmod_def, Int.mul_comm (a.tdiv b) b]
theorem zI_eq0 {a : Int} (h1 : -2 ^ 31 ≤ a) (h2 : a < 2 ^ 31) : zI a = 0 ↔ a = 0 := by
  constructor
  · intro h
    have h9 : (zI a).toInt = (0 : Int32).toInt := congrArg Int32.toInt h
    rw [zI_int h1 h2] at h9
    exact h9
  · intro h; rw [h]; rfl
theorem xor_neg {x y : Int32} (hx : x < 0) (hy : 0 ≤ y) : ¬ 0 ≤ x ^^^ y := by
  rw [Int32.lt_iff_toInt_lt] at hx
  rw [Int32.le_iff_toInt_le] at hy
  rw [Int32.not_le, Int32.lt_iff_toInt_lt]
  have e0 : (0 : Int32).toInt = 0 := rfl
  rw [e0] at hx hy ⊢
  have hx' : x.toBitVec.msb = true := by rw [BitVec.msb_eq_toInt]; exact decide_eq_true hx
  have hy' : y.toBitVec.msb = false := by rw [BitVec.msb_eq_toInt]; exact decide_eq_false (by rw [Int32.toInt_toBitVec]; omega)
  have h : (x ^^^ y).toBitVec.msb = true := by rw [Int32.toBitVec_xor, BitVec.msb_xor, hx', hy']; rfl
  rw [BitVec.msb_eq_toInt] at h
  exact of_decide_eq_true h
theorem fMod_Z {a : Int} {b : Nat} (h1 : -2 ^ 30 ≤ a) (h2 : a < 2 ^ 30) (h0 : 0 < b) (hb : b < 2 ^ 30) : fMod (zI a) (nI b) = nI (a % (b : Int)).toNat := by
  have hbz : (b : Int) ≠ 0 := by omega
  have e0 := Int.emod_nonneg a hbz
  have e1 := Int.emod_lt_of_pos a (show (0 : Int) < b by omega)
  have e2 : ((a % (b : Int)).toNat : Int) = a % (b : Int) := Int.toNat_of_nonneg e0
  by_cases ha : 0 ≤ a
  · obtain ⟨n, rfl⟩ : ∃ n : Nat, a = n := ⟨a.toNat, by omega⟩
    rw [← zI_nI, fMod_nI (by omega) h0 (by omega), ← Int.natCast_emod, Int.toNat_natCast]
  · have hr : zI a - zI a / nI b * nI b = zI (a.tmod b) := by
      rw [zI_nI, zI_rem (by omega) (by omega) (by omega) (by omega)]
    have hneg : zI a < 0 := by rw [← zI_0]; exact (zI_lt (by omega) (by omega) (by omega) (by omega)).mpr (by omega)
    unfold fMod
    rw [if_neg (xor_neg hneg (nI_pos' (by omega))), hr]
    have e3 := @Int.emod_eq_tmod a (b : Int)
    have e4 : (b : Int).natAbs = b := Int.natAbs_natCast b
    by_cases hd : (b : Int) ∣ a
    · rw [if_pos (Or.inr hd)] at e3
      have e5 : a.tmod b = 0 := Int.tmod_eq_zero_of_dvd hd
      rw [e5, if_pos zI_0]
      rw [e5] at e3
      rw [e3]; rfl
    · rw [if_neg (fun q => q.elim ha hd)] at e3
      have e5 : a.tmod b ≠ 0 := fun q => hd (Int.dvd_of_tmod_eq_zero q)
      rw [if_neg (fun q => e5 ((zI_eq0 (by omega) (by omega)).mp q)), zI_nI, zI_nI, zI_add, e2, e3, e4]
/-! an inverse, by the extended algorithm, tried for all periods -/
def euF (p1 p2 : Nat) : Nat := (fMod (facL (nI p1) (nI p2)) (nI (p2 / Nat.gcd p1 p2))).toNatClampNeg
def euK (p1 p2 : Nat) : Bool := decide (fMod (facL (nI p1) (nI p2)) (nI (p2 / Nat.gcd p1 p2)) = nI (euF p1 p2)) && (decide (euF p1 p2 < 64) && decide (euF p1 p2 * (p1 / Nat.gcd p1 p2) % (p2 / Nat.gcd p1 p2) = 1 % (p2 / Nat.gcd p1 p2)))
theorem euK_all : (List.range 59).all (fun a => (List.range 59).all (fun b => euK (a + 2) (b + 2))) = true := by decide +kernel
theorem euK_at {p1 p2 : Nat} (h1 : 2 ≤ p1 ∧ p1 ≤ 60) (h2 : 2 ≤ p2 ∧ p2 ≤ 60) : fMod (facL (nI p1) (nI p2)) (nI (p2 / Nat.gcd p1 p2)) = nI (euF p1 p2) ∧ euF p1 p2 < 64 ∧ euF p1 p2 * (p1 / Nat.gcd p1 p2) % (p2 / Nat.gcd p1 p2) = 1 % (p2 / Nat.gcd p1 p2) := by
  have h := List.all_eq_true.mp (List.all_eq_true.mp euK_all (p1 - 2) (List.mem_range.mpr (by omega))) (p2 - 2) (List.mem_range.mpr (by omega))
  rw [show p1 - 2 + 2 = p1 by omega, show p2 - 2 + 2 = p2 by omega] at h
  unfold euK at h
  rw [Bool.and_eq_true, Bool.and_eq_true] at h
  exact ⟨of_decide_eq_true h.1, of_decide_eq_true h.2.1, of_decide_eq_true h.2.2⟩
theorem mt_int {p1 d1 p2 d2 x : Nat} : IsMt p1 d1 p2 d2 x ↔ d1 ≤ x ∧ (p1 : Int) ∣ (x : Int) - (d1 : Int) ∧ d2 ≤ x ∧ (p2 : Int) ∣ (x : Int) - (d2 : Int) := by
  unfold IsMt
  constructor
  · rintro ⟨a1, a2, a3, a4⟩
    refine ⟨a1, ?_, a3, ?_⟩
    · rw [← Int.natCast_sub a1]; exact Int.natCast_dvd_natCast.mpr a2
    · rw [← Int.natCast_sub a3]; exact Int.natCast_dvd_natCast.mpr a4
  · rintro ⟨a1, a2, a3, a4⟩
    rw [← Int.natCast_sub a1] at a2
    rw [← Int.natCast_sub a3] at a4
    exact ⟨a1, Int.natCast_dvd_natCast.mp a2, a3, Int.natCast_dvd_natCast.mp a4⟩
/-- a day on which both pass, if one goes back far enough, gives the first meeting -/
theorem mt_fir {p1 d1 p2 d2 day L M : Nat} (hL : L = Nat.lcm p1 p2) (h1 : (p1 : Int) ∣ (day : Int) - (d1 : Int)) (h2 : (p2 : Int) ∣ (day : Int) - (d2 : Int)) (hM1 : d1 ≤ M) (hM2 : d2 ≤ M) (hM3 : M < max d1 d2 + L) (hM4 : (L : Int) ∣ (M : Int) - (day : Int)) : FirMt p1 d1 p2 d2 M := by
  have l1 : (p1 : Int) ∣ (L : Int) := Int.natCast_dvd_natCast.mpr (by rw [hL]; exact Nat.dvd_lcm_left p1 p2)
  have l2 : (p2 : Int) ∣ (L : Int) := Int.natCast_dvd_natCast.mpr (by rw [hL]; exact Nat.dvd_lcm_right p1 p2)
  refine ⟨mt_int.mpr ⟨hM1, ?_, hM2, ?_⟩, fun x hx => ?_⟩
  · rw [show (M : Int) - (d1 : Int) = ((M : Int) - (day : Int)) + ((day : Int) - (d1 : Int)) by omega]
    exact Int.dvd_add (Int.dvd_trans l1 hM4) h1
  · rw [show (M : Int) - (d2 : Int) = ((M : Int) - (day : Int)) + ((day : Int) - (d2 : Int)) by omega]
    exact Int.dvd_add (Int.dvd_trans l2 hM4) h2
  · obtain ⟨a1, a2, a3, a4⟩ := mt_int.mp hx
    refine Classical.byContradiction (fun hn => ?_)
    have b1 : (p1 : Int) ∣ (x : Int) - (day : Int) := by
      rw [show (x : Int) - (day : Int) = ((x : Int) - (d1 : Int)) - ((day : Int) - (d1 : Int)) by omega]
      exact Int.dvd_sub a2 h1
    have b2 : (p2 : Int) ∣ (x : Int) - (day : Int) := by
      rw [show (x : Int) - (day : Int) = ((x : Int) - (d2 : Int)) - ((day : Int) - (d2 : Int)) by omega]
      exact Int.dvd_sub a4 h2
    have b3 : (L : Int) ∣ (x : Int) - (day : Int) := by
      rw [hL]
      exact Int.ofNat_dvd_left.mpr (Nat.lcm_dvd (Int.ofNat_dvd_left.mp b1) (Int.ofNat_dvd_left.mp b2))
    have b4 : (L : Int) ∣ (M : Int) - (x : Int) := by
      rw [show (M : Int) - (x : Int) = ((M : Int) - (day : Int)) - ((x : Int) - (day : Int)) by omega]
      exact Int.dvd_sub hM4 b3
    have := Int.le_of_dvd (by omega) b4
    omega
theorem eu_dvd {g u c q t A F z p1 p2 : Int} (hp1 : p1 = g * u) (hp2 : p2 = g * c) (hz : z = g * q) (h1 : c ∣ t - A * F) (h2 : c ∣ F * u - 1) (h3 : c ∣ A - q) : p2 ∣ t * p1 - z := by
  have h4 : c ∣ t * u - q := by
    have e : t * u - q = (t - A * F) * u + A * (F * u - 1) + (A - q) := by
      rw [Int.sub_mul, Int.mul_sub, Int.mul_one, Int.mul_assoc A F u]
      omega
    rw [e]
    exact Int.dvd_add (Int.dvd_add (Int.dvd_mul_of_dvd_left h1) (Int.dvd_mul_of_dvd_right h2)) h3
  have e2 : t * p1 - z = g * (t * u - q) := by
    rw [hp1, hz, Int.mul_sub, ← Int.mul_assoc, ← Int.mul_assoc, Int.mul_comm t g]
  rw [e2, hp2]
  exact Int.mul_dvd_mul_left g h4
theorem euclid_all {p1 d1 p2 d2 : Nat} (h1 : 2 ≤ p1 ∧ p1 ≤ 60) (h2 : 2 ≤ p2 ∧ p2 ≤ 60) (h3 : d1 < 2 ^ 20) (h4 : d2 < 2 ^ 20) : (∃ M, FirMt p1 d1 p2 d2 M ∧ mEuclid (nI p1) (nI d1) (nI p2) (nI d2) = nI M) ∨ ((∀ x, ¬ IsMt p1 d1 p2 d2 x) ∧ mEuclid (nI p1) (nI d1) (nI p2) (nI d2) = -1) := by
  obtain ⟨k1, k2, k3⟩ := euK_at h1 h2
  generalize euF p1 p2 = F at k1 k2 k3
  have hg0 : 0 < Nat.gcd p1 p2 := Nat.gcd_pos_of_pos_left p2 (by omega)
  have hgle : Nat.gcd p1 p2 ≤ p1 := Nat.le_of_dvd (by omega) (Nat.gcd_dvd_left p1 p2)
  obtain ⟨uu, hu⟩ := Nat.gcd_dvd_left p1 p2
  obtain ⟨c, hc⟩ := Nat.gcd_dvd_right p1 p2
  have hG : (gcdL (nI p1).toInt64 (nI p2).toInt64).toInt32 = nI (Nat.gcd p1 p2) := by
    rw [nI_l (by omega), nI_l (by omega), gcdL_N (by omega) (by omega)]
    exact Int64.toInt32_ofNat'
  have hcd : p2 / Nat.gcd p1 p2 = c := Nat.div_eq_of_eq_mul_right hg0 hc
  have hlcm : Nat.lcm p1 p2 = c * p1 := by
    rw [Nat.lcm_eq_mul_div, Nat.mul_comm c p1, Nat.mul_div_assoc _ (Nat.gcd_dvd_right p1 p2), hcd]
  have hud : p1 / Nat.gcd p1 p2 = uu := Nat.div_eq_of_eq_mul_right hg0 hu
  have hc0 : 0 < c := Nat.pos_of_ne_zero (fun q => by rw [q, Nat.mul_zero] at hc; omega)
  have hc60 : c ≤ 60 := by
    have := Nat.div_le_self p2 (Nat.gcd p1 p2)
    omega
  rw [hcd] at k1 k3
  rw [hud] at k3
  have hz : nI d2 - nI d1 = zI ((d2 : Int) - (d1 : Int)) := by rw [zI_nI, zI_nI, zI_sub]
  obtain ⟨g, hgg⟩ : ∃ g, Nat.gcd p1 p2 = g := ⟨_, rfl⟩
  obtain ⟨z, hzz⟩ : ∃ z, (d2 : Int) - (d1 : Int) = z := ⟨_, rfl⟩
  rw [hgg] at hg0 hgle hu hc hG hcd hud
  rw [hzz] at hz
  have e1 : nI p2 / nI g = nI c := by rw [pk_div (by omega) hg0 (by omega), hcd]
  have e2 : zI z - zI z / nI g * nI g = zI (z.tmod g) := by
    rw [zI_nI, zI_rem (by omega) (by omega) (by omega) (by omega)]
  unfold mEuclid
  rw [hG, hz, e1, e2, k1, if_neg (fun q => by have := (nI_ltI (b := 1) (by omega) (by decide)).mp q; omega)]
  by_cases hd : (g : Int) ∣ z
  · refine Or.inl ?_
    obtain ⟨q, hq⟩ := hd
    have e3 : z.tmod g = 0 := Int.tmod_eq_zero_of_dvd ⟨q, hq⟩
    have e4 : zI z / nI g = zI q := by
      rw [zI_nI, zI_div (by omega) (by omega) (by omega) (by omega), hq, Int.mul_tdiv_cancel_left q (by omega)]
    have hqb : -2 ^ 30 ≤ q ∧ q < 2 ^ 30 := by
      have h5 : q.natAbs ≤ z.natAbs := by
        rw [hq, Int.natAbs_mul, Int.natAbs_natCast]
        exact Nat.le_mul_of_pos_left _ hg0
      omega
    rw [if_pos (by rw [e3]; exact zI_0), if_pos (show (1 : Int32) ≤ nI c from (nI_leI (a := 1) (by decide) (by omega)).mpr hc0), e4, fMod_Z hqb.1 hqb.2 hc0 (by omega)]
    have e5 := Int.emod_nonneg q (show (c : Int) ≠ 0 by omega)
    have e6 := Int.emod_lt_of_pos q (show (0 : Int) < c by omega)
    obtain ⟨A, hA⟩ : ∃ A : Nat, q % (c : Int) = A := ⟨(q % (c : Int)).toNat, (Int.toNat_of_nonneg e5).symm⟩
    rw [hA] at e5 e6 ⊢
    rw [Int.toNat_natCast]
    have hA60 : A < 60 := by omega
    have hAF : A * F ≤ 60 * 64 := Nat.mul_le_mul (by omega) (by omega)
    rw [pk_mul, fMod_nI (by omega) hc0 (by omega), pk_mul, nI_add, pk_mul]
    obtain ⟨t, ht⟩ : ∃ t, A * F % c = t := ⟨_, rfl⟩
    have htc : t < c := by rw [← ht]; exact Nat.mod_lt _ hc0
    rw [ht]
    have htp : t * p1 ≤ 60 * 60 := Nat.mul_le_mul (by omega) h1.2
    have hcp : c * p1 ≤ 60 * 60 := Nat.mul_le_mul hc60 h1.2
    have hcp1 : 1 ≤ c * p1 := Nat.mul_pos hc0 (by omega)
    have htcp : t * p1 < c * p1 := Nat.mul_lt_mul_of_pos_right htc (by omega)
    have v1 : (p1 : Int) ∣ ((d1 + t * p1 : Nat) : Int) - (d1 : Int) := by
      rw [show ((d1 + t * p1 : Nat) : Int) - (d1 : Int) = ((t * p1 : Nat) : Int) by omega]
      exact Int.natCast_dvd_natCast.mpr (Nat.dvd_mul_left _ _)
    have v2 : (p2 : Int) ∣ ((d1 + t * p1 : Nat) : Int) - (d2 : Int) := by
      have v3 : (p2 : Int) ∣ (t : Int) * (p1 : Int) - z := by
        refine eu_dvd (g := (g : Int)) (u := (uu : Int)) (c := (c : Int)) (q := q) (t := (t : Int)) (A := (A : Int)) (F := (F : Int)) ?_ ?_ hq ?_ ?_ ?_
        · rw [← Int.natCast_mul, ← hu]
        · rw [← Int.natCast_mul, ← hc]
        · have h5 : (((A * F : Nat) : Int)) % (c : Int) = (t : Int) := by rw [← Int.natCast_emod, ht]
          have := Int.dvd_sub_self_of_emod_eq h5
          rw [Int.natCast_mul] at this
          exact this
        · have h5 : (((F * uu : Nat) : Int)) % (c : Int) = ((1 % c : Nat) : Int) := by rw [← Int.natCast_emod, k3]
          have h6 : (c : Int) ∣ ((F * uu : Nat) : Int) - ((1 % c : Nat) : Int) := Int.dvd_self_sub_of_emod_eq h5
          have h7 : (c : Int) ∣ ((1 : Nat) : Int) - ((1 % c : Nat) : Int) := Int.dvd_self_sub_of_emod_eq (Int.natCast_emod 1 c).symm
          have h8 := Int.dvd_sub h6 h7
          rw [Int.natCast_mul] at h8
          generalize ((1 % c : Nat) : Int) = w at h8
          generalize (F : Int) * (uu : Int) = v at h8 ⊢
          rw [show v - 1 = v - w - (((1 : Nat) : Int) - w) by omega]
          exact h8
        · exact Int.dvd_sub_self_of_emod_eq hA
      rw [show ((d1 + t * p1 : Nat) : Int) - (d2 : Int) = (t : Int) * (p1 : Int) - z by rw [← hzz, ← Int.natCast_mul]; omega]
      exact v3
    have hmax : (if nI d1 < nI d2 then nI d2 else nI d1) = nI (max d1 d2) := by
      by_cases hlt : d1 < d2
      · rw [if_pos ((nI_ltI (by omega) (by omega)).mpr hlt), Nat.max_eq_right (by omega)]
      · rw [if_neg (fun q => hlt ((nI_ltI (by omega) (by omega)).mp q)), Nat.max_eq_left (by omega)]
    rw [hmax]
    unfold notB
    by_cases hday : max d1 d2 ≤ d1 + t * p1
    · rw [if_pos ((nI_leI (by omega) (by omega)).mpr hday)]
      refine ⟨d1 + t * p1, mt_fir (day := d1 + t * p1) rfl v1 v2 (by omega) (by omega) ?_ ?_, rfl⟩
      · rw [hlcm]; omega
      · rw [Int.sub_self]; exact Int.dvd_zero _
    · rw [if_neg (fun q => hday ((nI_leI (by omega) (by omega)).mp q)), if_pos (show (1 : Int32) ≤ nI (c * p1) from (nI_leI (a := 1) (by decide) (by omega)).mpr hcp1)]
      have e7 : nI (d1 + t * p1) - nI (max d1 d2) = zI (((d1 + t * p1 : Nat) : Int) - ((max d1 d2 : Nat) : Int)) := by rw [zI_nI, zI_nI, zI_sub]
      rw [e7, fMod_Z (by omega) (by omega) hcp1 (by omega), nI_add]
      have e8 := Int.emod_nonneg (((d1 + t * p1 : Nat) : Int) - ((max d1 d2 : Nat) : Int)) (show ((c * p1 : Nat) : Int) ≠ 0 by omega)
      have e9 := Int.emod_lt_of_pos (((d1 + t * p1 : Nat) : Int) - ((max d1 d2 : Nat) : Int)) (show (0 : Int) < ((c * p1 : Nat) : Int) by omega)
      have e10 := @Int.dvd_emod_sub_self (((d1 + t * p1 : Nat) : Int) - ((max d1 d2 : Nat) : Int)) ((c * p1 : Nat) : Int)
      obtain ⟨r, hr⟩ : ∃ r : Nat, (((d1 + t * p1 : Nat) : Int) - ((max d1 d2 : Nat) : Int)) % ((c * p1 : Nat) : Int) = r := ⟨((((d1 + t * p1 : Nat) : Int) - ((max d1 d2 : Nat) : Int)) % ((c * p1 : Nat) : Int)).toNat, (Int.toNat_of_nonneg e8).symm⟩
      rw [hr] at e8 e9 e10 ⊢
      rw [Int.toNat_natCast]
      refine ⟨max d1 d2 + r, mt_fir (day := d1 + t * p1) rfl v1 v2 (by omega) (by omega) ?_ ?_, rfl⟩
      · rw [hlcm]; omega
      · rw [hlcm, show ((max d1 d2 + r : Nat) : Int) - ((d1 + t * p1 : Nat) : Int) = (r : Int) - (((d1 + t * p1 : Nat) : Int) - ((max d1 d2 : Nat) : Int)) by omega]
        exact e10
  · refine Or.inr ⟨fun x hx => hd ?_, ?_⟩
    · obtain ⟨a1, a2, a3, a4⟩ := mt_int.mp hx
      have g1 : (g : Int) ∣ (p1 : Int) := Int.natCast_dvd_natCast.mpr ⟨uu, hu⟩
      have g2 : (g : Int) ∣ (p2 : Int) := Int.natCast_dvd_natCast.mpr ⟨c, hc⟩
      rw [← hzz, show (d2 : Int) - (d1 : Int) = ((x : Int) - (d1 : Int)) - ((x : Int) - (d2 : Int)) by omega]
      exact Int.dvd_sub (Int.dvd_trans g1 a2) (Int.dvd_trans g2 a4)
    · have e3 : z.tmod g ≠ 0 := fun q => hd (Int.dvd_of_tmod_eq_zero q)
      have b1 := Int.natAbs_tmod z (g : Int)
      have b2 : (z.tmod g).natAbs ≤ z.natAbs := by
        rw [b1]; exact Nat.mod_le _ _
      rw [if_neg (fun q => e3 ((zI_eq0 (by omega) (by omega)).mp q))]
theorem FirMt.uniq {p1 d1 p2 d2 M N : Nat} (h : FirMt p1 d1 p2 d2 M) (h' : FirMt p1 d1 p2 d2 N) : M = N := by
  have := h.2 N h'.1
  have := h'.2 M h.1
  omega
theorem meet_xy {x y : Nat → Nat} (b1 : 2 ≤ x 1 ∧ x 1 ≤ 60) (c1 : 2 ≤ y 1 ∧ y 1 ≤ 60) (b3 : x 3 < 2 ^ 20) (c3 : y 3 < 2 ^ 20) : (mWalk (nI (x 1)) (nI (x 3)) (nI (y 1)) (nI (y 3)) = -1 ∧ mEuclid (nI (x 1)) (nI (x 3)) (nI (y 1)) (nI (y 3)) = -1 ∧ ¬ dyM x y ≤ laM x y) ∨ (mWalk (nI (x 1)) (nI (x 3)) (nI (y 1)) (nI (y 3)) = nI (dyM x y) ∧ mEuclid (nI (x 1)) (nI (x 3)) (nI (y 1)) (nI (y 3)) = nI (dyM x y) ∧ dyM x y ≤ laM x y ∧ ¬ nI (dyM x y) = -1) := by
  rcases mt_dec (x 1) (x 3) (y 1) (y 3) with ⟨M, hM⟩ | hM
  · have hbd := hM.bd (by omega) (by omega)
    have hpp : x 1 * y 1 ≤ 60 * 60 := Nat.mul_le_mul b1.2 c1.2
    obtain ⟨e1, e2⟩ := dyM_y (by omega) (by omega) hM
    have e3 := walk_y (by omega) (by omega) (by omega) (by omega) hM
    have e4 : mEuclid (nI (x 1)) (nI (x 3)) (nI (y 1)) (nI (y 3)) = nI M := by
      rcases euclid_all (p1 := x 1) (d1 := x 3) (p2 := y 1) (d2 := y 3) b1 c1 b3 c3 with ⟨N, hN, h5⟩ | ⟨hN, -⟩
      · rw [h5, hM.uniq hN]
      · exact absurd hM.1 (hN M)
    have hne : ¬ nI M = -1 := fun q => by
      have := congrArg Int32.toInt q
      rw [nI_toInt (by omega)] at this
      have h9 : (-1 : Int32).toInt = -1 := rfl
      omega
    refine Or.inr ⟨?_, ?_, e2, ?_⟩
    · rw [e1]; exact e3
    · rw [e1]; exact e4
    · rw [e1]; exact hne
  · have e1 := dyM_n (by omega) hM
    have e3 := walk_n (by omega) (by omega) (by omega) (by omega) hM
    have e4 : mEuclid (nI (x 1)) (nI (x 3)) (nI (y 1)) (nI (y 3)) = -1 := by
      rcases euclid_all (p1 := x 1) (d1 := x 3) (p2 := y 1) (d2 := y 3) b1 c1 b3 c3 with ⟨N, hN, h5⟩ | ⟨-, h5⟩
      · exact absurd hN.1 (hM N)
      · exact h5
    exact Or.inl ⟨e3, e4, e1⟩
/-- both ways give what the reference gives -/
theorem meet_eq {u : Nat} {O : kO} (hw : WfO u O) (hu : u ≤ 6144) (a b : Int32) : qMeet mWalk O a b = mMeet O a b ∧ qMeet mEuclid O a b = mMeet O a b := by
  cases ha : plV O.1.1 a with
  | none => rw [qMeet_a ha, qMeet_a ha, mMeet_a ha]; exact ⟨rfl, rfl⟩
  | some i =>
    cases hb : plV O.1.1 b with
    | none => rw [qMeet_b hb, qMeet_b hb, mMeet_b hb]; exact ⟨rfl, rfl⟩
    | some j =>
      rw [qMeet_s ha hb, qMeet_s ha hb, mMeet_s ha hb]
      by_cases e : a = b
      · rw [if_pos e, if_pos e, if_pos e]; exact ⟨rfl, rfl⟩
      · rw [if_neg e, if_neg e, if_neg e]
        have hd := hw.day hu
        obtain ⟨b1, b2, b3, b4, b5, b6, b7, b8⟩ := hw.1.at (plV_lt ha).1
        obtain ⟨c1, c2, c3, c4, c5, c6, c7, c8⟩ := hw.1.at (plV_lt hb).1
        rcases meet_xy (x := cAt O.1.1 i) (y := cAt O.1.1 j) ⟨b1, b2⟩ ⟨c1, c2⟩ (by omega) (by omega) with ⟨e1, e2, e3⟩ | ⟨e1, e2, e3, e4⟩
        · rw [e1, e2, if_pos rfl, if_neg e3]; exact ⟨rfl, rfl⟩
        · rw [e1, e2, if_neg e4, if_pos e3]; exact ⟨rfl, rfl⟩
