/-! ===== StringBuilder: the builder at b, its bytes at v ===== -/
theorem r_known {E : qE} {X : qX} {cN sN : Nat} {Q : State → Prop} {g : qG} {m : qM} {pc : Nat} {l : List (Option Value)} {st : List Value} (K : (∀ a sh, gAt g a sh → a < g.2) → WS E X cN sN Q g m pc l st) : WS E X cN sN Q g m pc l st := fun H locs ls h1 h2 h3 => K (fun _ _ h => h1.lt h) H locs ls h1 h2 h3
/-- the same rows at a -/
def SameA (m m' : qM) (a : Nat) : Prop := m'.1 a = m.1 a ∧ m'.2.1 a = m.2.1 a ∧ m'.2.2.1 a = m.2.2.1 a ∧ m'.2.2.2 a = m.2.2.2 a
theorem SameA.rf (m : qM) (a : Nat) : SameA m m a := ⟨rfl, rfl, rfl, rfl⟩
theorem SameA.tr {m m1 m2 : qM} {a : Nat} (h : SameA m m1 a) (h2 : SameA m1 m2 a) : SameA m m2 a := ⟨h2.1.trans h.1, h2.2.1.trans h.2.1, h2.2.2.1.trans h.2.2.1, h2.2.2.2.trans h.2.2.2⟩
theorem SameA.wI {m m' : qM} {a : Nat} (h : SameA m m' a) {b k : Nat} {v : Int32} (hn : a ≠ b) : SameA m (wI m' b k v) a := ⟨(funext fun j => if_neg (fun q => hn q.1)).trans h.1, h.2⟩
theorem SameA.wR {m m' : qM} {a : Nat} (h : SameA m m' a) {b k : Nat} {v : Option Nat} (hn : a ≠ b) : SameA m (wR m' b k v) a := ⟨h.1, (funext fun j => if_neg (fun q => hn q.1)).trans h.2.1, h.2.2⟩
theorem SameA.wZ {m m' : qM} {a : Nat} (h : SameA m m' a) {b : Nat} (hn : a ≠ b) : SameA m (wZ m' b) a := ⟨(funext fun _ => if_neg hn).trans h.1, (funext fun _ => if_neg hn).trans h.2.1, (funext fun _ => if_neg hn).trans h.2.2.1, (funext fun _ => if_neg hn).trans h.2.2.2⟩
/-- old shapes stand; old rows stand but those of P and the byte rows -/
def FrP (P : Nat → Prop) (g : qG) (m : qM) (g' : qG) (m' : qM) : Prop := g.2 ≤ g'.2 ∧ (∀ a, a < g.2 → g'.1 a = g.1 a) ∧ ∀ a, a < g.2 → ¬ P a → (∀ n, g.1 a ≠ some (.inr (2, n))) → SameA m m' a
theorem FrP.rf (P : Nat → Prop) (g : qG) (m : qM) : FrP P g m g m := ⟨Nat.le_refl _, fun _ _ => rfl, fun a _ _ _ => SameA.rf m a⟩
theorem FrP.tr {P : Nat → Prop} {g g1 g2 : qG} {m m1 m2 : qM} (h : FrP P g m g1 m1) (h2 : FrP P g1 m1 g2 m2) : FrP P g m g2 m2 := ⟨Nat.le_trans h.1 h2.1, fun a ha => (h2.2.1 a (Nat.lt_of_lt_of_le ha h.1)).trans (h.2.1 a ha), fun a ha hP hn => (h.2.2 a ha hP hn).tr (h2.2.2 a (Nat.lt_of_lt_of_le ha h.1) hP (fun n => by rw [h.2.1 a ha]; exact hn n))⟩
theorem FrP.mono {P P2 : Nat → Prop} {g g1 : qG} {m m1 : qM} (h : FrP P g m g1 m1) (hp : ∀ a, P a → P2 a) : FrP P2 g m g1 m1 := ⟨h.1, h.2.1, fun a ha hP hn => h.2.2 a ha (fun q => hP (hp a q)) hn⟩
theorem FrP.gAt {P : Nat → Prop} {g g1 : qG} {m m1 : qM} (h : FrP P g m g1 m1) {a : Nat} {sh : qSh} (ha : gAt g a sh) (hl : a < g.2) : gAt g1 a sh := (h.2.1 a hl).trans ha
theorem FrP.wI {P : Nat → Prop} {g g1 : qG} {m m1 : qM} (h : FrP P g m g1 m1) {b k : Nat} {v : Int32} (hb : P b ∨ (g.2 ≤ b) ∨ ∃ n, g.1 b = some (.inr (2, n))) : FrP P g m g1 (wI m1 b k v) := ⟨h.1, h.2.1, fun a ha hP hn => (h.2.2 a ha hP hn).wI (fun e => by subst e; rcases hb with q | q | ⟨n, q⟩; exact hP q; omega; exact hn n q)⟩
theorem FrP.wR {P : Nat → Prop} {g g1 : qG} {m m1 : qM} (h : FrP P g m g1 m1) {b k : Nat} {v : Option Nat} (hb : P b ∨ (g.2 ≤ b) ∨ ∃ n, g.1 b = some (.inr (2, n))) : FrP P g m g1 (wR m1 b k v) := ⟨h.1, h.2.1, fun a ha hP hn => (h.2.2 a ha hP hn).wR (fun e => by subst e; rcases hb with q | q | ⟨n, q⟩; exact hP q; omega; exact hn n q)⟩
theorem FrP.new {P : Nat → Prop} {g g1 : qG} {m m1 : qM} (h : FrP P g m g1 m1) {sh : qSh} : FrP P g m (gNew g1 sh) (wZ m1 g1.2) := ⟨Nat.le_trans h.1 (Nat.le_succ _), fun a ha => (if_neg (by have := h.1; omega)).trans (h.2.1 a ha), fun a ha hP hn => (h.2.2 a ha hP hn).wZ (by have := h.1; omega)⟩
theorem FrP.up {P : Nat → Prop} {g g1 : qG} {m m1 : qM} (h : FrP P g m g1 m1) {n : Nat} (hn : g1.2 ≤ n) : FrP P g m (g1.1, n) m1 := ⟨Nat.le_trans h.1 hn, h.2.1, h.2.2⟩
def fitB (m : qM) (v cap : Nat) : Prop := ∀ j, j < cap → fits .byte (.int (qI m v j)) = true
def SbR (g : qG) (m : qM) (b v cap n : Nat) : Prop := gAt g b (.inl 1) ∧ qR m b 0 = some v ∧ gAt g v (.inr (2, cap)) ∧ qI m b 1 = 0 ∧ qI m b 3 = nI n ∧ n ≤ cap ∧ cap ≤ 300 ∧ fitB m v cap
theorem SbR.ne {g : qG} {m : qM} {b v cap n : Nat} (h : SbR g m b v cap n) : b ≠ v := gAt_ne h.1 h.2.2.1 (by simp)
theorem shr0 {n : Nat} (h : n < 2 ^ 31) : nI n >>> ((0 : Int32) &&& 31) = nI n := (pk_shrN h (0 &&& 31) 0 (by decide)).trans (by simp)
theorem shl0 {n : Nat} (h : n < 2 ^ 31) : nI n <<< ((0 : Int32) &&& 31) = nI n := (pk_shlN (0 &&& 31) 0 (by decide) (by simp; omega)).trans (by simp)
theorem mnN {a b : Nat} (ha : a < 2 ^ 31) (hb : b < 2 ^ 31) : (if nI b < nI a then nI b else nI a) = nI (min a b) := by
  by_cases h : b < a
  · rw [if_pos (nI_lt h ha), Nat.min_eq_right (Nat.le_of_lt h)]
  · rw [if_neg (nI_nlt (Nat.le_of_not_lt h) hb), Nat.min_eq_left (Nat.le_of_not_lt h)]
set_option maxRecDepth 20000 in
set_option maxHeartbeats 4000000 in
theorem s_J5_isLatin1 (E : qE) (g : qG) (m : qM) (b v cap n : Nat) (hS : SbR g m b v cap n) : Sp E yJ5_isLatin1_aae02 cJ5_isLatin1_aae02 1 (some .boolean) 0 0 0 [.ref b] g m (fun v g' m' => v = some (.int 1) ∧ g' = g ∧ m' = m) := by
  refine Sp.ofF (by decide +kernel) [some (.ref b)] rfl rfl (Nat.le_of_ble_eq_true rfl) (fun X hX => ?_)
  refine r_getsC hX dJ5_isLatin1_aae02_0 ⟨List.mem_of_getElem? (i := 245) (by decide +kernel), by decide +kernel⟩ ?_
  refine r_if_eq (tgt := 17) hX dJ5_isLatin1_aae02_3 (by decide) (fun c3 => ?_) (fun c3 => ?_)
  · exact absurd c3 (by decide)
  · refine r_aload_n hX dJ5_isLatin1_aae02_6 rfl ?_
    refine r_getI hX dJ5_isLatin1_aae02_7 hS.1 fl_J5_22 ?_
    rw [hS.2.2.2.1]
    refine r_if_ne (tgt := 17) hX dJ5_isLatin1_aae02_10 (by decide) (fun c10 => ?_) (fun c10 => ?_)
    · exact absurd rfl c10
    · refine r_iconst (v := 1) hX dJ5_isLatin1_aae02_13 (by decide) ?_
      refine r_goto (tgt := 18) hX dJ5_isLatin1_aae02_14 (by decide) ?_
      exact r_zret hX dJ5_isLatin1_aae02_18 rfl ⟨rfl, rfl, rfl⟩ ⟨Nat.le_of_ble_eq_true rfl, Nat.le_of_ble_eq_true rfl⟩
set_option maxRecDepth 20000 in
set_option maxHeartbeats 4000000 in
theorem s_J5_length (E : qE) (g : qG) (m : qM) (b v cap n : Nat) (hS : SbR g m b v cap n) : Sp E yJ5_length_8abf5 cJ5_length_8abf5 1 (some .int) 0 0 0 [.ref b] g m (fun v g' m' => v = some (.int (nI n)) ∧ g' = g ∧ m' = m) := by
  refine Sp.ofF (by decide +kernel) [some (.ref b)] rfl rfl (Nat.le_of_ble_eq_true rfl) (fun X hX => ?_)
  refine r_aload_n hX dJ5_length_8abf5_0 rfl ?_
  refine r_getI hX dJ5_length_8abf5_1 hS.1 fl_J5_79 ?_
  rw [hS.2.2.2.2.1]
  exact r_iret hX dJ5_length_8abf5_4 ⟨rfl, rfl, rfl⟩ ⟨Nat.le_of_ble_eq_true rfl, Nat.le_of_ble_eq_true rfl⟩
set_option maxRecDepth 20000 in
set_option maxHeartbeats 4000000 in
theorem s_J1_canEncode (E : qE) (g : qG) (m : qM) (e : Nat) (he : e < 128) : Sp E yJ1_canEncode_fc78d cJ1_canEncode_fc78d 1 (some .boolean) 0 0 0 [.int (nI e)] g m (fun v g' m' => v = some (.int 1) ∧ g' = g ∧ m' = m) := by
  refine Sp.ofF (by decide +kernel) [some (.int (nI e))] rfl rfl (Nat.le_of_ble_eq_true rfl) (fun X hX => ?_)
  refine r_iload_n hX dJ1_canEncode_fc78d_0 rfl ?_
  refine r_sipush (v := 255) hX dJ1_canEncode_fc78d_1 (by decide) ?_
  refine r_icmp_gt (tgt := 11) hX dJ1_canEncode_fc78d_4 (by decide) (fun c4 => ?_) (fun c4 => ?_)
  · exact absurd c4 (nI_nlt (b := e) (a := 255) (by omega) (by decide))
  · refine r_iconst (v := 1) hX dJ1_canEncode_fc78d_7 (by decide) ?_
    refine r_goto (tgt := 12) hX dJ1_canEncode_fc78d_8 (by decide) ?_
    exact r_zret hX dJ1_canEncode_fc78d_12 rfl ⟨rfl, rfl, rfl⟩ ⟨Nat.le_of_ble_eq_true rfl, Nat.le_of_ble_eq_true rfl⟩
set_option maxRecDepth 20000 in
set_option maxHeartbeats 4000000 in
theorem s_J8_newLength (E : qE) (g : qG) (m : qM) (a c d : Nat) (ha : a < 10000 ∧ c < 10000 ∧ d < 10000 ∧ 0 < d) : Sp E yJ8_newLength_cabcc cJ8_newLength_cabcc 4 (some .int) 1 0 0 [.int (nI a), .int (nI c), .int (nI d)] g m (fun v g' m' => v = some (.int (nI (a + max c d))) ∧ g' = g ∧ m' = m) := by
  refine Sp.ofF (by decide +kernel) [some (.int (nI a)), some (.int (nI c)), some (.int (nI d)), none] rfl rfl (Nat.le_of_ble_eq_true rfl) (fun X hX => ?_)
  have hm : max c d < 10000 ∧ 0 < max c d := by omega
  refine r_iload_n hX dJ8_newLength_cabcc_0 rfl ?_
  refine r_iload_n hX dJ8_newLength_cabcc_1 rfl ?_
  refine r_iload_n hX dJ8_newLength_cabcc_2 rfl ?_
  refine r_mmax hX dJ8_newLength_cabcc_3 mm_J8_194 ⟨Nat.le_of_ble_eq_true rfl, rfl, Nat.le_of_ble_eq_true rfl⟩ ⟨Nat.le_of_ble_eq_true rfl, Nat.le_of_ble_eq_true rfl⟩ ?_
  rw [mxN (by omega) (by omega)]
  refine r_iadd hX dJ8_newLength_cabcc_6 ?_
  rw [nI_add]
  refine r_istore_n hX dJ8_newLength_cabcc_7 (Nat.le_of_ble_eq_true rfl) rfl ?_
  refine r_iconst (v := 0) hX dJ8_newLength_cabcc_8 (by decide) ?_
  refine r_iload_n hX dJ8_newLength_cabcc_9 rfl ?_
  refine r_icmp_ge (tgt := 21) hX dJ8_newLength_cabcc_10 (by decide) (fun c10 => ?_) (fun c10 => ?_)
  · exact absurd c10 (nI_nle (by omega) (by omega))
  · refine r_iload_n hX dJ8_newLength_cabcc_13 rfl ?_
    refine r_ldcI (v := 2147483639) hX dJ8_newLength_cabcc_14 ⟨List.mem_of_getElem? (i := 697) (by decide +kernel), by decide +kernel⟩ ?_
    refine r_icmp_gt (tgt := 21) hX dJ8_newLength_cabcc_16 (by decide) (fun c16 => ?_) (fun c16 => ?_)
    · exact absurd c16 (nI_nlt (a := 2147483639) (by omega) (by decide))
    · refine r_iload_n hX dJ8_newLength_cabcc_19 rfl ?_
      exact r_iret hX dJ8_newLength_cabcc_20 ⟨rfl, rfl, rfl⟩ ⟨Nat.le_of_ble_eq_true rfl, Nat.le_of_ble_eq_true rfl⟩
set_option maxRecDepth 20000 in
set_option maxHeartbeats 4000000 in
theorem s_J5_newCapacity (E : qE) (g : qG) (m : qM) (b v cap n : Nat) (hS : SbR g m b v cap n) (e : Nat) (he : cap < e ∧ e ≤ 110) : Sp E yJ5_newCapacity_0f7a4 cJ5_newCapacity_0f7a4 6 (some .int) 2 0 0 [.ref b, .int (nI e)] g m (fun v g' m' => v = some (.int (nI (cap + max (e - cap) (cap + 2)))) ∧ g' = g ∧ m' = m) := by
  refine Sp.ofF (by decide +kernel) [some (.ref b), some (.int (nI e)), none, none, none, none] rfl rfl (Nat.le_of_ble_eq_true rfl) (fun X hX => ?_)
  have hcp := hS.2.2.2.2.2.2.1
  have hnc := hS.2.2.2.2.2.1
  refine r_aload_n hX dJ5_newCapacity_0f7a4_0 rfl ?_
  refine r_getR hX dJ5_newCapacity_0f7a4_1 hS.1 fl_J5_15 hS.2.1 ?_
  refine r_alen (v := (nI cap)) hX dJ5_newCapacity_0f7a4_4 hS.2.2.1 (by decide) rfl ?_
  refine r_istore_n hX dJ5_newCapacity_0f7a4_5 (Nat.le_of_ble_eq_true rfl) rfl ?_
  refine r_iload_n hX dJ5_newCapacity_0f7a4_6 rfl ?_
  refine r_aload_n hX dJ5_newCapacity_0f7a4_7 rfl ?_
  refine r_getI hX dJ5_newCapacity_0f7a4_8 hS.1 fl_J5_22 ?_
  rw [hS.2.2.2.1]
  refine r_ishl hX dJ5_newCapacity_0f7a4_11 ?_
  rw [shl0 (by omega)]
  refine r_istore_n hX dJ5_newCapacity_0f7a4_12 (Nat.le_of_ble_eq_true rfl) rfl ?_
  refine r_iload_n hX dJ5_newCapacity_0f7a4_13 rfl ?_
  refine r_iload_n hX dJ5_newCapacity_0f7a4_14 rfl ?_
  refine r_isub hX dJ5_newCapacity_0f7a4_15 ?_
  rw [pk_sub (by omega)]
  refine r_istore hX dJ5_newCapacity_0f7a4_16 (Nat.le_of_ble_eq_true rfl) rfl ?_
  refine r_iload_n hX dJ5_newCapacity_0f7a4_18 rfl ?_
  refine r_iload hX dJ5_newCapacity_0f7a4_19 rfl ?_
  refine r_iload_n hX dJ5_newCapacity_0f7a4_21 rfl ?_
  refine r_iconst (v := 2) hX dJ5_newCapacity_0f7a4_22 (by decide) ?_
  refine r_aload_n hX dJ5_newCapacity_0f7a4_23 rfl ?_
  refine r_getI hX dJ5_newCapacity_0f7a4_24 hS.1 fl_J5_22 ?_
  rw [hS.2.2.2.1]
  refine r_ishl hX dJ5_newCapacity_0f7a4_27 ?_
  rw [show (2 : Int32) <<< ((0 : Int32) &&& 31) = nI 2 by decide]
  refine r_iadd hX dJ5_newCapacity_0f7a4_28 ?_
  rw [nI_add]
  refine r_callS hX dJ5_newCapacity_0f7a4_29 (s_J8_newLength E g m cap (e - cap) (cap + 2) (by omega)) ml_J5_114 rfl rfl ⟨Nat.le_of_ble_eq_true rfl, Nat.le_of_ble_eq_true rfl⟩ ⟨Nat.le_of_ble_eq_true rfl, Nat.le_of_ble_eq_true rfl, rfl, Nat.le_of_ble_eq_true rfl⟩ (fun v29 g29 m29 hp => ?_)
  obtain ⟨hv, hg, hm⟩ := hp
  subst v29
  subst g29
  subst m29
  refine r_istore hX dJ5_newCapacity_0f7a4_32 (Nat.le_of_ble_eq_true rfl) rfl ?_
  refine r_iload hX dJ5_newCapacity_0f7a4_34 rfl ?_
  refine r_ldcI (v := 2147483647) hX dJ5_newCapacity_0f7a4_36 ⟨List.mem_of_getElem? (i := 701) (by decide +kernel), by decide +kernel⟩ ?_
  refine r_icmp_ne (tgt := 51) hX dJ5_newCapacity_0f7a4_38 (by decide) (fun c38 => ?_) (fun c38 => ?_)
  · refine r_iload hX dJ5_newCapacity_0f7a4_51 rfl ?_
    refine r_aload_n hX dJ5_newCapacity_0f7a4_53 rfl ?_
    refine r_getI hX dJ5_newCapacity_0f7a4_54 hS.1 fl_J5_22 ?_
    rw [hS.2.2.2.1]
    refine r_ishr hX dJ5_newCapacity_0f7a4_57 ?_
    rw [shr0 (by omega)]
    exact r_iret hX dJ5_newCapacity_0f7a4_58 ⟨rfl, rfl, rfl⟩ ⟨Nat.le_of_ble_eq_true rfl, Nat.le_of_ble_eq_true rfl⟩
  · exact absurd c38 (fun h => absurd (show nI (cap + max (e - cap) (cap + 2)) < nI 2147483647 from nI_lt (by omega) (by decide)) (by rw [h]; decide))
set_option maxRecDepth 20000 in
set_option maxHeartbeats 4000000 in
theorem s_J7_copyOf (E : qE) (g : qG) (m : qM) (v cap n' : Nat) (hv : gAt g v (.inr (2, cap))) (hf : fitB m v cap) (hn : cap < n' ∧ n' ≤ 300) : Sp E yJ7_copyOf_9075b cJ7_copyOf_9075b 3 (some (.array .byte)) 2 1 n' [.ref v, .int (nI n')] g m (fun x' g' m' => x' = some (.ref g.2) ∧ g' = gNew g (.inr (2, n')) ∧ m' = ((fun b j => if b = g.2 ∧ j < cap then m.1 v j else (wZ m g.2).1 b j, (wZ m g.2).2) : qM)) := by
  refine Sp.ofF (by decide +kernel) [some (.ref v), some (.int (nI n')), none] rfl rfl (Nat.le_of_ble_eq_true rfl) (fun X hX => ?_)
  refine r_known (fun hk => ?_)
  have hvl := hk _ _ hv
  have hvn : v ≠ g.2 := Nat.ne_of_lt hvl
  refine r_iload_n hX dJ7_copyOf_9075b_0 rfl ?_
  refine r_aload_n hX dJ7_copyOf_9075b_1 rfl ?_
  refine r_alen (v := (nI cap)) hX dJ7_copyOf_9075b_2 hv (by decide) rfl ?_
  refine r_icmp_ne (tgt := 14) hX dJ7_copyOf_9075b_3 (by decide) (fun c3 => ?_) (fun c3 => ?_)
  · refine r_iload_n hX dJ7_copyOf_9075b_14 rfl ?_
    refine r_newa (t := 2) (n := n') hX dJ7_copyOf_9075b_15 ⟨List.mem_of_getElem? (i := 268) (by decide +kernel), by decide +kernel⟩ ⟨by decide, rfl⟩ ⟨nI_pos (by omega), nI_clamp (by omega), by omega⟩ (Nat.le_refl _) (by omega) ?_
    refine r_astore_n hX dJ7_copyOf_9075b_17 (Nat.le_of_ble_eq_true rfl) rfl ?_
    refine r_aload_n hX dJ7_copyOf_9075b_18 rfl ?_
    refine r_iconst (v := 0) hX dJ7_copyOf_9075b_19 (by decide) ?_
    refine r_aload_n hX dJ7_copyOf_9075b_20 rfl ?_
    refine r_iconst (v := 0) hX dJ7_copyOf_9075b_21 (by decide) ?_
    refine r_aload_n hX dJ7_copyOf_9075b_22 rfl ?_
    refine r_alen (v := (nI cap)) hX dJ7_copyOf_9075b_23 (gNew_old hv hvl) (by decide) rfl ?_
    refine r_iload_n hX dJ7_copyOf_9075b_24 rfl ?_
    refine r_mmin hX dJ7_copyOf_9075b_25 mm_J7_304 ⟨Nat.le_of_ble_eq_true rfl, rfl, Nat.le_of_ble_eq_true rfl⟩ ⟨Nat.le_of_ble_eq_true rfl, by omega⟩ ?_
    rw [mnN (by omega) (by omega), Nat.min_eq_left (by omega)]
    refine r_acopy hX dJ7_copyOf_9075b_28 ⟨⟨List.mem_of_getElem? (i := 713) (by decide +kernel), by decide +kernel⟩, ⟨List.mem_of_getElem? (i := 715) (by decide +kernel), by decide +kernel⟩, ⟨List.mem_of_getElem? (i := 714) (by decide +kernel), by decide +kernel⟩, ⟨List.mem_of_getElem? (i := 35) (by decide +kernel), by decide +kernel⟩⟩ (n0 := cap) (n1 := n') (gNew_old hv hvl) (gNew_at g _) ⟨Nat.le_refl _, by omega, by omega⟩ (fun i hi => by show fits .byte (.int (qI (wZ m g.2) v i)) = true; rw [qI_wZ_a _ _ hvn]; exact hf i hi) ⟨Nat.le_of_ble_eq_true rfl, rfl, Nat.le_of_ble_eq_true rfl⟩ ?_
    refine r_aload_n hX dJ7_copyOf_9075b_31 rfl ?_
    refine r_aret hX dJ7_copyOf_9075b_32 (Or.inr ⟨_, rfl⟩) (Or.inr ⟨_, rfl⟩) ⟨rfl, rfl, ?_⟩ ⟨Nat.le_of_ble_eq_true rfl, by omega⟩
    rw [show (wZ m g.2).1 v = m.1 v from funext fun _ => if_neg hvn]
  · exact absurd c3 (fun h => absurd ((nI_eq (by omega) (by omega)).mp h) (by omega))
theorem copy_e (m : qM) (g : qG) (v cap b : Nat) (a : Nat) (ha : a < g.2) : SameA m ((fun b j => if b = g.2 ∧ j < cap then m.1 v j else (wZ m g.2).1 b j, (wZ m g.2).2) : qM) a := by
  have hn : a ≠ g.2 := by omega
  refine ⟨funext fun j => ?_, (SameA.rf m a).wZ hn |>.2⟩
  show (if a = g.2 ∧ j < cap then _ else (wZ m g.2).1 a j) = _
  rw [if_neg (fun h => hn h.1)]
  exact if_neg hn
set_option maxRecDepth 20000 in
set_option maxHeartbeats 4000000 in
theorem s_J5_ensure (E : qE) (g : qG) (m : qM) (b v cap n : Nat) (hS : SbR g m b v cap n) (e : Nat) (he : e ≤ 110) : Sp E yJ5_ensureCapacityInternal_d00df cJ5_ensureCapacityInternal_d00df 3 none 3 1 300 [.ref b, .int (nI e)] g m (fun x' g' m' => x' = none ∧ ∃ v' cap', SbR g' m' b v' cap' n ∧ e ≤ cap' ∧ (∀ j, j < cap → qI m' v' j = qI m v j) ∧ FrP (fun a => a = b) g m g' m') := by
  refine Sp.ofF (by decide +kernel) [some (.ref b), some (.int (nI e)), none] rfl rfl (Nat.le_of_ble_eq_true rfl) (fun X hX => ?_)
  have hcp := hS.2.2.2.2.2.2.1
  have hnc := hS.2.2.2.2.2.1
  refine r_known (fun hk => ?_)
  have hbl := hk _ _ hS.1
  have hvl := hk _ _ hS.2.2.1
  refine r_aload_n hX dJ5_ensureCapacityInternal_d00df_0 rfl ?_
  refine r_getR hX dJ5_ensureCapacityInternal_d00df_1 hS.1 fl_J5_15 hS.2.1 ?_
  refine r_alen (v := (nI cap)) hX dJ5_ensureCapacityInternal_d00df_4 hS.2.2.1 (by decide) rfl ?_
  refine r_aload_n hX dJ5_ensureCapacityInternal_d00df_5 rfl ?_
  refine r_getI hX dJ5_ensureCapacityInternal_d00df_6 hS.1 fl_J5_22 ?_
  rw [hS.2.2.2.1]
  refine r_ishr hX dJ5_ensureCapacityInternal_d00df_9 ?_
  rw [shr0 (by omega)]
  refine r_istore_n hX dJ5_ensureCapacityInternal_d00df_10 (Nat.le_of_ble_eq_true rfl) rfl ?_
  refine r_iload_n hX dJ5_ensureCapacityInternal_d00df_11 rfl ?_
  refine r_iload_n hX dJ5_ensureCapacityInternal_d00df_12 rfl ?_
  refine r_isub hX dJ5_ensureCapacityInternal_d00df_13 ?_
  refine r_if_le (tgt := 38) hX dJ5_ensureCapacityInternal_d00df_14 (by decide) (fun c14 => ?_) (fun c14 => ?_)
  · refine r_vret hX dJ5_ensureCapacityInternal_d00df_38 ⟨rfl, v, cap, hS, Nat.le_of_not_lt (fun h => ?_), fun _ _ => rfl, FrP.rf _ g m⟩ ⟨Nat.le_of_ble_eq_true rfl, Nat.le_of_ble_eq_true rfl⟩
    rw [pk_sub (by omega)] at c14
    exact nI_nle (by omega) (by omega) c14
  · have hlt : cap < e := Nat.lt_of_not_le (fun h => c14 (by
      rcases Nat.lt_or_ge e cap with h2 | h2
      · exact Int32.le_of_lt (pk_sneg (by omega) h2)
      · rw [pk_sub h2]; exact nI_le (b := 0) (by omega) (by decide)))
    refine r_aload_n hX dJ5_ensureCapacityInternal_d00df_17 rfl ?_
    refine r_aload_n hX dJ5_ensureCapacityInternal_d00df_18 rfl ?_
    refine r_getR hX dJ5_ensureCapacityInternal_d00df_19 hS.1 fl_J5_15 hS.2.1 ?_
    refine r_aload_n hX dJ5_ensureCapacityInternal_d00df_22 rfl ?_
    refine r_iload_n hX dJ5_ensureCapacityInternal_d00df_23 rfl ?_
    refine r_callU hX dJ5_ensureCapacityInternal_d00df_24 (s_J5_newCapacity E g m b v cap n hS e ⟨hlt, he⟩) mlu_J5_104 rfl rfl hS.1 rfl ⟨Nat.le_of_ble_eq_true rfl, Nat.le_of_ble_eq_true rfl⟩ ⟨Nat.le_of_ble_eq_true rfl, Nat.le_of_ble_eq_true rfl, rfl, Nat.le_of_ble_eq_true rfl⟩ (fun v24 g24 m24 hp => ?_)
    obtain ⟨hv, hg, hm⟩ := hp
    subst v24
    subst g24
    subst m24
    refine r_aload_n hX dJ5_ensureCapacityInternal_d00df_27 rfl ?_
    refine r_getI hX dJ5_ensureCapacityInternal_d00df_28 hS.1 fl_J5_22 ?_
    rw [hS.2.2.2.1]
    refine r_ishl hX dJ5_ensureCapacityInternal_d00df_31 ?_
    rw [shl0 (by omega)]
    refine r_callS hX dJ5_ensureCapacityInternal_d00df_32 (s_J7_copyOf E g m v cap (cap + max (e - cap) (cap + 2)) hS.2.2.1 hS.2.2.2.2.2.2.2 (by omega)) ml_J5_108 rfl rfl ⟨Nat.le_of_ble_eq_true rfl, Nat.le_of_ble_eq_true rfl⟩ ⟨Nat.le_of_ble_eq_true rfl, by omega, rfl, Nat.le_of_ble_eq_true rfl⟩ (fun v32 g32 m32 hp => ?_)
    obtain ⟨hv, hg, hm⟩ := hp
    subst v32
    subst g32
    subst m32
    refine r_putR hX dJ5_ensureCapacityInternal_d00df_35 (gNew_old hS.1 hbl) fl_J5_15 rfl rfl ?_
    refine r_vret hX dJ5_ensureCapacityInternal_d00df_38 ⟨rfl, g.2, cap + max (e - cap) (cap + 2), ⟨gNew_old hS.1 hbl, qR_wR_s _ _ _ _, gNew_at g _, ?_, ?_, by omega, by omega, fun j hj => ?_⟩, by omega, fun j hj => ?_, ?_⟩ ⟨Nat.le_of_ble_eq_true rfl, by omega⟩
    · exact (congrFun (copy_e m g v cap b b hbl).1 1).trans hS.2.2.2.1
    · exact (congrFun (copy_e m g v cap b b hbl).1 3).trans hS.2.2.2.2.1
    · show fits .byte (.int (if g.2 = g.2 ∧ j < cap then m.1 v j else (wZ m g.2).1 g.2 j)) = true
      by_cases hj2 : j < cap
      · rw [if_pos ⟨rfl, hj2⟩]; exact hS.2.2.2.2.2.2.2 j hj2
      · rw [if_neg (fun h => hj2 h.2), show (wZ m g.2).1 g.2 j = 0 from if_pos rfl]; decide
    · exact if_pos ⟨rfl, hj⟩
    · exact FrP.wR ⟨Nat.le_succ _, fun a ha => if_neg (Nat.ne_of_lt ha), fun a ha _ _ => copy_e m g v cap b a ha⟩ (Or.inl rfl)
/-- the digits of w -/
def decL (w : Nat) : List Nat := (List.range (digs w)).map (fun i => dg w (digs w - 1 - i))
theorem decL_len (w : Nat) : (decL w).length = digs w := by simp [decL]
theorem decL_lt {w c : Nat} (h : c ∈ decL w) : c < 128 := by
  obtain ⟨i, -, rfl⟩ := List.mem_map.mp h
  have := dg_lt w (digs w - 1 - i)
  omega
theorem decL_get {w j : Nat} (h : j < digs w) : (decL w).getD j 0 = dg w (digs w - 1 - j) := by
  rw [List.getD_eq_getElem?_getD, decL, List.getElem?_map, List.getElem?_range h]
  rfl
def SbIs (g : qG) (m : qM) (b : Nat) (cs : List Nat) : Prop := ∃ v cap, SbR g m b v cap cs.length ∧ (∀ j, j < cs.length → qI m v j = nI (cs.getD j 0)) ∧ ∀ c ∈ cs, c < 128
theorem getD_app {cs ds : List Nat} {j : Nat} : (cs ++ ds).getD j 0 = if j < cs.length then cs.getD j 0 else ds.getD (j - cs.length) 0 := by
  rw [List.getD_eq_getElem?_getD, List.getElem?_append]
  split <;> rw [List.getD_eq_getElem?_getD]
theorem fitN {e : Nat} (h : e < 128) : fits .byte (.int (nI e)) = true := by
  have h2 : ∀ e : Fin 128, fits .byte (.int (nI e.val)) = true := by decide +kernel
  exact h2 ⟨e, h⟩
theorem i2bN {e : Nat} (h : e < 128) : (nI e).toInt8.toInt32 = nI e := by
  have h2 : ∀ e : Fin 128, (nI e.val).toInt8.toInt32 = nI e.val := by decide +kernel
  exact h2 ⟨e, h⟩
theorem i2cN {e : Nat} (h : e < 128) : ((nI e &&& 255).toUInt32 % 65536).toInt32 = nI e := by
  have h2 : ∀ e : Fin 128, ((nI e.val &&& 255).toUInt32 % 65536).toInt32 = nI e.val := by decide +kernel
  exact h2 ⟨e, h⟩
theorem narC {e : Nat} (h : e < 128) : narrow .char (.int (nI e)) = .int (nI e) := (pk_charN (by omega)).1
theorem SbR.cnt {g : qG} {m : qM} {b v cap n n' : Nat} (h : SbR g m b v cap n) (hn : n' ≤ cap) : SbR g (wI m b 3 (nI n')) b v cap n' := ⟨h.1, h.2.1, h.2.2.1, (qI_wI_k _ _ _ _ (by decide)).trans h.2.2.2.1, qI_wI_s _ _ _ _, hn, h.2.2.2.2.2.2.1, fun j hj => by rw [qI_wI_a _ _ _ _ h.ne.symm]; exact h.2.2.2.2.2.2.2 j hj⟩
theorem SbR.put {g : qG} {m : qM} {b v cap n j e : Nat} (h : SbR g m b v cap n) (he : e < 128) : SbR g (wI m v j (nI e)) b v cap n := ⟨h.1, h.2.1, h.2.2.1, (qI_wI_a _ _ _ _ h.ne).trans h.2.2.2.1, (qI_wI_a _ _ _ _ h.ne).trans h.2.2.2.2.1, h.2.2.2.2.2.1, h.2.2.2.2.2.2.1, fun i hi => by rw [qI_wI]; split; exact fitN he; exact h.2.2.2.2.2.2.2 i hi⟩
set_option maxRecDepth 20000 in
set_option maxHeartbeats 4000000 in
theorem s_J5_appC (E : qE) (g : qG) (m : qM) (b : Nat) (cs : List Nat) (hB : SbIs g m b cs) (e : Nat) (he : e < 128) (hsz : cs.length < 110) : Sp E yJ5_append_3fe6f cJ5_append_3fe6f 2 (some (.object "java/lang/AbstractStringBuilder")) 4 1 300 [.ref b, .int (nI e)] g m (fun x' g' m' => x' = some (.ref b) ∧ SbIs g' m' b (cs ++ [e]) ∧ FrP (fun a => a = b) g m g' m') := by
  refine Sp.ofF (by decide +kernel) [some (.ref b), some (.int (nI e))] rfl rfl (Nat.le_of_ble_eq_true rfl) (fun X hX => ?_)
  obtain ⟨v, cap, hS, hf, hl⟩ := hB
  have hcp := hS.2.2.2.2.2.2.1
  have hnc := hS.2.2.2.2.2.1
  refine r_known (fun hk => ?_)
  have hbl := hk _ _ hS.1
  refine r_aload_n hX dJ5_append_3fe6f_0 rfl ?_
  refine r_aload_n hX dJ5_append_3fe6f_1 rfl ?_
  refine r_getI hX dJ5_append_3fe6f_2 hS.1 fl_J5_79 ?_
  rw [hS.2.2.2.2.1]
  refine r_iconst (v := 1) hX dJ5_append_3fe6f_5 (by decide) ?_
  refine r_iadd hX dJ5_append_3fe6f_6 ?_
  rw [nI_1]
  refine r_callU hX dJ5_append_3fe6f_7 (s_J5_ensure E g m b v cap cs.length hS (cs.length + 1) (by omega)) mlu_J5_100 rfl rfl hS.1 rfl ⟨Nat.le_of_ble_eq_true rfl, Nat.le_of_ble_eq_true rfl⟩ ⟨Nat.le_of_ble_eq_true rfl, Nat.le_of_ble_eq_true rfl, rfl, Nat.le_of_ble_eq_true rfl⟩ (fun v7 g7 m7 hp => ?_)
  obtain ⟨hv, v1, cap1, hS1, he1, hj1, hF1⟩ := hp
  subst v7
  have hcp1 := hS1.2.2.2.2.2.2.1
  have hf1 : ∀ j, j < cs.length → qI m7 v1 j = nI (cs.getD j 0) := fun j hj => (hj1 j (by omega)).trans (hf j hj)
  refine r_aload_n hX dJ5_append_3fe6f_10 rfl ?_
  refine r_callU hX dJ5_append_3fe6f_11 (s_J5_isLatin1 E g7 m7 b v1 cap1 cs.length hS1) mlu_J5_83 rfl rfl hS1.1 rfl ⟨Nat.le_of_ble_eq_true rfl, Nat.le_of_ble_eq_true rfl⟩ ⟨Nat.le_of_ble_eq_true rfl, Nat.le_of_ble_eq_true rfl, rfl, Nat.le_of_ble_eq_true rfl⟩ (fun v11 g11 m11 hp => ?_)
  obtain ⟨hv, hg, hm⟩ := hp
  subst v11
  subst g11
  subst m11
  refine r_if_eq (tgt := 45) hX dJ5_append_3fe6f_14 (by decide) (fun c14 => ?_) (fun c14 => ?_)
  · exact absurd c14 (by decide)
  · refine r_iload_n hX dJ5_append_3fe6f_17 rfl ?_
    refine r_callS hX dJ5_append_3fe6f_18 (s_J1_canEncode E g7 m7 e he) ml_J5_191 rfl rfl ⟨Nat.le_of_ble_eq_true rfl, Nat.le_of_ble_eq_true rfl⟩ ⟨Nat.le_of_ble_eq_true rfl, Nat.le_of_ble_eq_true rfl, rfl, Nat.le_of_ble_eq_true rfl⟩ (fun v18 g18 m18 hp => ?_)
    obtain ⟨hv, hg, hm⟩ := hp
    subst v18
    subst g18
    subst m18
    refine r_if_eq (tgt := 45) hX dJ5_append_3fe6f_21 (by decide) (fun c21 => ?_) (fun c21 => ?_)
    · exact absurd c21 (by decide)
    · refine r_aload_n hX dJ5_append_3fe6f_24 rfl ?_
      refine r_getR hX dJ5_append_3fe6f_25 hS1.1 fl_J5_15 hS1.2.1 ?_
      refine r_aload_n hX dJ5_append_3fe6f_28 rfl ?_
      refine r_dup hX dJ5_append_3fe6f_29 rfl ?_
      refine r_getI hX dJ5_append_3fe6f_30 hS1.1 fl_J5_79 ?_
      rw [hS1.2.2.2.2.1]
      refine r_dup_x1 hX dJ5_append_3fe6f_33 rfl rfl ?_
      refine r_iconst (v := 1) hX dJ5_append_3fe6f_34 (by decide) ?_
      refine r_iadd hX dJ5_append_3fe6f_35 ?_
      rw [nI_1]
      refine r_putI hX dJ5_append_3fe6f_36 hS1.1 fl_J5_79 ?_
      refine r_iload_n hX dJ5_append_3fe6f_39 rfl ?_
      refine r_i2b hX dJ5_append_3fe6f_40 ?_
      rw [i2bN he]
      refine r_bastoreN hX dJ5_append_3fe6f_41 hS1.2.2.1 (show cs.length < cap1 by omega) (by omega) ?_
      rw [nar_b he]
      refine r_goto (tgt := 75) hX dJ5_append_3fe6f_42 (by decide) ?_
      refine r_aload_n hX dJ5_append_3fe6f_75 rfl ?_
      refine r_aret hX dJ5_append_3fe6f_76 (Or.inl ⟨_, rfl⟩) (Or.inr ⟨_, rfl⟩) ⟨rfl, ⟨v1, cap1, ?_, ?_, ?_⟩, ?_⟩ ⟨Nat.le_of_ble_eq_true rfl, Nat.le_of_ble_eq_true rfl⟩
      · rw [List.length_append]
        exact (hS1.cnt (n' := cs.length + 1) (by omega)).put he
      · intro j hj
        rw [List.length_append] at hj
        have hj : j < cs.length + 1 := hj
        rw [getD_app, qI_wI]
        by_cases e1 : j = cs.length
        · subst e1; rw [if_pos ⟨rfl, rfl⟩, if_neg (Nat.lt_irrefl _), Nat.sub_self]; rfl
        · rw [if_neg (fun h => e1 h.2), if_pos (by omega), qI_wI_a _ _ _ _ hS1.ne.symm]; exact hf1 j (by omega)
      · intro c hc
        rcases List.mem_append.mp hc with h | h
        · exact hl c h
        · rw [List.mem_singleton.mp h]; exact he
      · refine (hF1.wI (Or.inl rfl)).wI ?_
        by_cases hvl : v1 < g.2
        · exact Or.inr (Or.inr ⟨cap1, (hF1.2.1 v1 hvl).symm.trans hS1.2.2.1⟩)
        · exact Or.inr (Or.inl (by omega))
set_option maxRecDepth 20000 in
set_option maxHeartbeats 4000000 in
theorem s_J5_appI (E : qE) (g : qG) (m : qM) (b : Nat) (cs : List Nat) (hB : SbIs g m b cs) (w : Nat) (hw : w < 1000000000) (hsz : cs.length + digs w ≤ 110) : Sp E yJ5_append_c97b9 cJ5_append_c97b9 4 (some (.object "java/lang/AbstractStringBuilder")) 4 1 300 [.ref b, .int (nI w)] g m (fun x' g' m' => x' = some (.ref b) ∧ SbIs g' m' b (cs ++ decL w) ∧ FrP (fun a => a = b) g m g' m') := by
  refine Sp.ofF (by decide +kernel) [some (.ref b), some (.int (nI w)), none, none] rfl rfl (Nat.le_of_ble_eq_true rfl) (fun X hX => ?_)
  obtain ⟨v, cap, hS, hf, hl⟩ := hB
  have hcp := hS.2.2.2.2.2.2.1
  have hnc := hS.2.2.2.2.2.1
  refine r_known (fun hk => ?_)
  have hbl := hk _ _ hS.1
  refine r_aload_n hX dJ5_append_c97b9_0 rfl ?_
  refine r_getI hX dJ5_append_c97b9_1 hS.1 fl_J5_79 ?_
  rw [hS.2.2.2.2.1]
  refine r_istore_n hX dJ5_append_c97b9_4 (Nat.le_of_ble_eq_true rfl) rfl ?_
  refine r_iload_n hX dJ5_append_c97b9_5 rfl ?_
  refine r_iload_n hX dJ5_append_c97b9_6 rfl ?_
  refine r_callS hX dJ5_append_c97b9_7 (s_J6_size E g m w hw) ml_J5_245 rfl rfl ⟨Nat.le_of_ble_eq_true rfl, Nat.le_of_ble_eq_true rfl⟩ ⟨Nat.le_of_ble_eq_true rfl, Nat.le_of_ble_eq_true rfl, rfl, Nat.le_of_ble_eq_true rfl⟩ (fun v7 g7 m7 hp => ?_)
  obtain ⟨hv, hg, hm⟩ := hp
  subst v7
  subst g7
  subst m7
  refine r_iadd hX dJ5_append_c97b9_10 ?_
  rw [nI_add]
  refine r_istore_n hX dJ5_append_c97b9_11 (Nat.le_of_ble_eq_true rfl) rfl ?_
  refine r_aload_n hX dJ5_append_c97b9_12 rfl ?_
  refine r_iload_n hX dJ5_append_c97b9_13 rfl ?_
  refine r_callU hX dJ5_append_c97b9_14 (s_J5_ensure E g m b v cap cs.length hS (cs.length + digs w) hsz) mlu_J5_100 rfl rfl hS.1 rfl ⟨Nat.le_of_ble_eq_true rfl, Nat.le_of_ble_eq_true rfl⟩ ⟨Nat.le_of_ble_eq_true rfl, Nat.le_of_ble_eq_true rfl, rfl, Nat.le_of_ble_eq_true rfl⟩ (fun v14 g14 m14 hp => ?_)
  obtain ⟨hv, v1, cap1, hS1, he1, hj1, hF1⟩ := hp
  subst v14
  have hcp1 := hS1.2.2.2.2.2.2.1
  have hf1 : ∀ j, j < cs.length → qI m14 v1 j = nI (cs.getD j 0) := fun j hj => (hj1 j (by omega)).trans (hf j hj)
  refine r_aload_n hX dJ5_append_c97b9_17 rfl ?_
  refine r_callU hX dJ5_append_c97b9_18 (s_J5_isLatin1 E g14 m14 b v1 cap1 cs.length hS1) mlu_J5_83 rfl rfl hS1.1 rfl ⟨Nat.le_of_ble_eq_true rfl, Nat.le_of_ble_eq_true rfl⟩ ⟨Nat.le_of_ble_eq_true rfl, Nat.le_of_ble_eq_true rfl, rfl, Nat.le_of_ble_eq_true rfl⟩ (fun v18 g18 m18 hp => ?_)
  obtain ⟨hv, hg, hm⟩ := hp
  subst v18
  subst g18
  subst m18
  refine r_if_eq (tgt := 37) hX dJ5_append_c97b9_21 (by decide) (fun c21 => ?_) (fun c21 => ?_)
  · exact absurd c21 (by decide)
  · refine r_iload_n hX dJ5_append_c97b9_24 rfl ?_
    refine r_iload_n hX dJ5_append_c97b9_25 rfl ?_
    refine r_aload_n hX dJ5_append_c97b9_26 rfl ?_
    refine r_getR hX dJ5_append_c97b9_27 hS1.1 fl_J5_15 hS1.2.1 ?_
    refine r_callS hX dJ5_append_c97b9_30 (s_J6_chars E g14 m14 v1 (cs.length + digs w) w cap1 hS1.2.2.1 hw ⟨he1, by omega, by omega⟩) ml_J5_248 rfl rfl ⟨Nat.le_of_ble_eq_true rfl, Nat.le_of_ble_eq_true rfl⟩ ⟨Nat.le_of_ble_eq_true rfl, Nat.le_of_ble_eq_true rfl, rfl, Nat.le_of_ble_eq_true rfl⟩ (fun v30 g30 m30 hp => ?_)
    obtain ⟨hv, hg, hq, hq2⟩ := hp
    subst v30
    subst g30
    refine r_pop hX dJ5_append_c97b9_33 rfl ?_
    refine r_goto (tgt := 48) hX dJ5_append_c97b9_34 (by decide) ?_
    have hq3 : ∀ j, qI m30 b j = qI m14 b j := fun j => by rw [hq, if_neg (fun h => hS1.ne h.1)]
    have hR30 : SbR g14 m30 b v1 cap1 cs.length := ⟨hS1.1, by show m30.2.1 b 0 = _; rw [hq2]; exact hS1.2.1, hS1.2.2.1, (hq3 1).trans hS1.2.2.2.1, (hq3 3).trans hS1.2.2.2.2.1, hS1.2.2.2.2.2.1, hS1.2.2.2.2.2.2.1, fun j hj => by
      rw [hq]
      split
      · exact fitN (by have := dg_lt w (cs.length + digs w - 1 - j); omega)
      · exact hS1.2.2.2.2.2.2.2 j hj⟩
    refine r_aload_n hX dJ5_append_c97b9_48 rfl ?_
    refine r_iload_n hX dJ5_append_c97b9_49 rfl ?_
    refine r_putI hX dJ5_append_c97b9_50 hS1.1 fl_J5_79 ?_
    refine r_aload_n hX dJ5_append_c97b9_53 rfl ?_
    refine r_aret hX dJ5_append_c97b9_54 (Or.inl ⟨_, rfl⟩) (Or.inr ⟨_, rfl⟩) ⟨rfl, ⟨v1, cap1, ?_, ?_, ?_⟩, ?_⟩ ⟨Nat.le_of_ble_eq_true rfl, Nat.le_of_ble_eq_true rfl⟩
    · rw [List.length_append, decL_len]
      exact hR30.cnt he1
    · intro j hj
      rw [List.length_append, decL_len] at hj
      rw [getD_app, qI_wI_a _ _ _ _ hS1.ne.symm, hq]
      by_cases e1 : j < cs.length
      · rw [if_pos e1, if_neg (by omega)]; exact hf1 j e1
      · rw [if_neg e1, if_pos ⟨rfl, by omega, hj⟩, decL_get (by omega)]
        congr 2
        omega
    · intro c hc
      rcases List.mem_append.mp hc with h | h
      · exact hl c h
      · exact decL_lt h
    · refine FrP.wI ?_ (Or.inl rfl)
      refine ⟨hF1.1, hF1.2.1, fun a ha hP hn => (hF1.2.2 a ha hP hn).tr ⟨funext fun j => ?_, congrFun (congrArg Prod.fst hq2) a, congrFun (congrArg (fun z => z.2.1) hq2) a, congrFun (congrArg (fun z => z.2.2) hq2) a⟩⟩
      refine (hq a j).trans (if_neg (fun h => ?_))
      refine hn cap1 ?_
      rw [h.1, ← hF1.2.1 v1 (by rw [← h.1]; exact ha)]
      exact hS1.2.2.1
set_option maxRecDepth 20000 in
set_option maxHeartbeats 4000000 in
theorem s_J4_appC (E : qE) (g : qG) (m : qM) (b : Nat) (cs : List Nat) (hB : SbIs g m b cs) (e : Nat) (he : e < 128) (hsz : cs.length < 110) : Sp E yJ4_append_cf468 cJ4_append_cf468 2 (some (.object "java/lang/StringBuilder")) 5 1 300 [.ref b, .int (nI e)] g m (fun x' g' m' => x' = some (.ref b) ∧ SbIs g' m' b (cs ++ [e]) ∧ FrP (fun a => a = b) g m g' m') := by
  refine Sp.ofF (by decide +kernel) [some (.ref b), some (.int (nI e))] rfl rfl (Nat.le_of_ble_eq_true rfl) (fun X hX => ?_)
  refine r_aload_n hX dJ4_append_cf468_0 rfl ?_
  refine r_iload_n hX dJ4_append_cf468_1 rfl ?_
  refine r_callP hX dJ4_append_cf468_2 (s_J5_appC E g m b cs hB e he hsz) mlp_J4_50 sb_ins rfl rfl hB.choose_spec.choose_spec.1.1 rfl ⟨Nat.le_of_ble_eq_true rfl, Nat.le_of_ble_eq_true rfl⟩ ⟨Nat.le_of_ble_eq_true rfl, Nat.le_of_ble_eq_true rfl, rfl, Nat.le_of_ble_eq_true rfl⟩ (fun v2 g2 m2 hp => ?_)
  obtain ⟨hv, hB2, hF⟩ := hp
  subst v2
  refine r_pop hX dJ4_append_cf468_5 rfl ?_
  refine r_aload_n hX dJ4_append_cf468_6 rfl ?_
  exact r_aret hX dJ4_append_cf468_7 (Or.inl ⟨_, rfl⟩) (Or.inr ⟨_, rfl⟩) ⟨rfl, hB2, hF⟩ ⟨Nat.le_of_ble_eq_true rfl, Nat.le_of_ble_eq_true rfl⟩
set_option maxRecDepth 20000 in
set_option maxHeartbeats 4000000 in
theorem s_J4_appI (E : qE) (g : qG) (m : qM) (b : Nat) (cs : List Nat) (hB : SbIs g m b cs) (w : Nat) (hw : w < 1000000000) (hsz : cs.length + digs w ≤ 110) : Sp E yJ4_append_bf812 cJ4_append_bf812 2 (some (.object "java/lang/StringBuilder")) 5 1 300 [.ref b, .int (nI w)] g m (fun x' g' m' => x' = some (.ref b) ∧ SbIs g' m' b (cs ++ decL w) ∧ FrP (fun a => a = b) g m g' m') := by
  refine Sp.ofF (by decide +kernel) [some (.ref b), some (.int (nI w))] rfl rfl (Nat.le_of_ble_eq_true rfl) (fun X hX => ?_)
  refine r_aload_n hX dJ4_append_bf812_0 rfl ?_
  refine r_iload_n hX dJ4_append_bf812_1 rfl ?_
  refine r_callP hX dJ4_append_bf812_2 (s_J5_appI E g m b cs hB w hw hsz) mlp_J4_53 sb_ins rfl rfl hB.choose_spec.choose_spec.1.1 rfl ⟨Nat.le_of_ble_eq_true rfl, Nat.le_of_ble_eq_true rfl⟩ ⟨Nat.le_of_ble_eq_true rfl, Nat.le_of_ble_eq_true rfl, rfl, Nat.le_of_ble_eq_true rfl⟩ (fun v2 g2 m2 hp => ?_)
  obtain ⟨hv, hB2, hF⟩ := hp
  subst v2
  refine r_pop hX dJ4_append_bf812_5 rfl ?_
  refine r_aload_n hX dJ4_append_bf812_6 rfl ?_
  exact r_aret hX dJ4_append_bf812_7 (Or.inl ⟨_, rfl⟩) (Or.inr ⟨_, rfl⟩) ⟨rfl, hB2, hF⟩ ⟨Nat.le_of_ble_eq_true rfl, Nat.le_of_ble_eq_true rfl⟩
set_option maxRecDepth 20000 in
set_option maxHeartbeats 4000000 in
theorem s_J5_ensure0 (E : qE) (g : qG) (m : qM) (b v cap n : Nat) (hS : SbR g m b v cap n) : Sp E yJ5_ensureCapacityInternal_d00df cJ5_ensureCapacityInternal_d00df 3 none 3 0 0 [.ref b, .int (nI 0)] g m (fun x' g' m' => x' = none ∧ g' = g ∧ m' = m) := by
  refine Sp.ofF (by decide +kernel) [some (.ref b), some (.int (nI 0)), none] rfl rfl (Nat.le_of_ble_eq_true rfl) (fun X hX => ?_)
  have hcp := hS.2.2.2.2.2.2.1
  have hnc := hS.2.2.2.2.2.1
  refine r_aload_n hX dJ5_ensureCapacityInternal_d00df_0 rfl ?_
  refine r_getR hX dJ5_ensureCapacityInternal_d00df_1 hS.1 fl_J5_15 hS.2.1 ?_
  refine r_alen (v := (nI cap)) hX dJ5_ensureCapacityInternal_d00df_4 hS.2.2.1 (by decide) rfl ?_
  refine r_aload_n hX dJ5_ensureCapacityInternal_d00df_5 rfl ?_
  refine r_getI hX dJ5_ensureCapacityInternal_d00df_6 hS.1 fl_J5_22 ?_
  rw [hS.2.2.2.1]
  refine r_ishr hX dJ5_ensureCapacityInternal_d00df_9 ?_
  rw [shr0 (by omega)]
  refine r_istore_n hX dJ5_ensureCapacityInternal_d00df_10 (Nat.le_of_ble_eq_true rfl) rfl ?_
  refine r_iload_n hX dJ5_ensureCapacityInternal_d00df_11 rfl ?_
  refine r_iload_n hX dJ5_ensureCapacityInternal_d00df_12 rfl ?_
  refine r_isub hX dJ5_ensureCapacityInternal_d00df_13 ?_
  refine r_if_le (tgt := 38) hX dJ5_ensureCapacityInternal_d00df_14 (by decide) (fun c14 => ?_) (fun c14 => ?_)
  · exact r_vret hX dJ5_ensureCapacityInternal_d00df_38 ⟨rfl, rfl, rfl⟩ ⟨Nat.le_of_ble_eq_true rfl, Nat.le_of_ble_eq_true rfl⟩
  · exact absurd (show nI 0 - nI cap ≤ 0 by
      rcases Nat.eq_zero_or_pos cap with h2 | h2
      · rw [h2]; decide
      · exact Int32.le_of_lt (pk_sneg (by omega) h2)) c14
set_option maxRecDepth 20000 in
set_option maxHeartbeats 4000000 in
theorem s_J5_setLen0 (E : qE) (g : qG) (m : qM) (b : Nat) (cs : List Nat) (hB : SbIs g m b cs) : Sp E yJ5_setLength_d00df cJ5_setLength_d00df 2 none 4 0 0 [.ref b, .int 0] g m (fun x' g' m' => x' = none ∧ g' = g ∧ SbIs g' m' b [] ∧ FrP (fun a => a = b) g m g' m') := by
  refine Sp.ofF (by decide +kernel) [some (.ref b), some (.int (nI 0))] rfl rfl (Nat.le_of_ble_eq_true rfl) (fun X hX => ?_)
  obtain ⟨v, cap, hS, hf, hl⟩ := hB
  have hcp := hS.2.2.2.2.2.2.1
  have hnc := hS.2.2.2.2.2.1
  refine r_iload_n hX dJ5_setLength_d00df_0 rfl ?_
  refine r_if_ge (tgt := 13) hX dJ5_setLength_d00df_1 (by decide) (fun c1 => ?_) (fun c1 => ?_)
  · refine r_aload_n hX dJ5_setLength_d00df_13 rfl ?_
    refine r_iload_n hX dJ5_setLength_d00df_14 rfl ?_
    refine r_callU hX dJ5_setLength_d00df_15 (s_J5_ensure0 E g m b v cap cs.length hS) mlu_J5_100 rfl rfl hS.1 rfl ⟨Nat.le_of_ble_eq_true rfl, Nat.le_of_ble_eq_true rfl⟩ ⟨Nat.le_of_ble_eq_true rfl, Nat.le_of_ble_eq_true rfl, rfl, Nat.le_of_ble_eq_true rfl⟩ (fun v15 g15 m15 hp => ?_)
    obtain ⟨hv, hg, hm⟩ := hp
    subst v15
    subst g15
    subst m15
    refine r_aload_n hX dJ5_setLength_d00df_18 rfl ?_
    refine r_getI hX dJ5_setLength_d00df_19 hS.1 fl_J5_79 ?_
    rw [hS.2.2.2.2.1]
    refine r_iload_n hX dJ5_setLength_d00df_22 rfl ?_
    refine r_icmp_ge (tgt := 63) hX dJ5_setLength_d00df_23 (by decide) (fun c23 => ?_) (fun c23 => ?_)
    · refine r_aload_n hX dJ5_setLength_d00df_63 rfl ?_
      refine r_getI hX dJ5_setLength_d00df_64 hS.1 fl_J5_79 ?_
      rw [hS.2.2.2.2.1]
      refine r_iload_n hX dJ5_setLength_d00df_67 rfl ?_
      refine r_icmp_le (tgt := 76) hX dJ5_setLength_d00df_68 (by decide) (fun c68 => ?_) (fun c68 => ?_)
      · refine r_aload_n hX dJ5_setLength_d00df_76 rfl ?_
        refine r_iload_n hX dJ5_setLength_d00df_77 rfl ?_
        refine r_putI hX dJ5_setLength_d00df_78 hS.1 fl_J5_79 ?_
        refine r_vret hX dJ5_setLength_d00df_81 ⟨rfl, rfl, ⟨v, cap, ?_, fun j hj => absurd hj (by simp), fun c hc => by cases hc⟩, ?_⟩ ⟨Nat.le_of_ble_eq_true rfl, Nat.le_of_ble_eq_true rfl⟩
        · refine SbR.cnt (n := cs.length) ?_ (Nat.zero_le _)
          first
          | exact hS
          | exact ⟨hS.1, hS.2.1, hS.2.2.1, (qI_wI_k _ _ _ _ (by decide)).trans hS.2.2.2.1, (qI_wI_k _ _ _ _ (by decide)).trans hS.2.2.2.2.1, hnc, hcp, fun j hj => by rw [qI_wI_a _ _ _ _ hS.ne.symm]; exact hS.2.2.2.2.2.2.2 j hj⟩
        · first
          | exact (FrP.rf (fun a => a = b) g m).wI (Or.inl rfl)
          | exact ((FrP.rf (fun a => a = b) g m).wI (Or.inl rfl)).wI (Or.inl rfl)
      · refine r_aload_n hX dJ5_setLength_d00df_71 rfl ?_
        refine r_iconst (v := 1) hX dJ5_setLength_d00df_72 (by decide) ?_
        refine r_putV hX dJ5_setLength_d00df_73 hS.1 fl_J5_73 rfl rfl (puts_I hS.1) ?_
        refine r_aload_n hX dJ5_setLength_d00df_76 rfl ?_
        refine r_iload_n hX dJ5_setLength_d00df_77 rfl ?_
        refine r_putI hX dJ5_setLength_d00df_78 hS.1 fl_J5_79 ?_
        refine r_vret hX dJ5_setLength_d00df_81 ⟨rfl, rfl, ⟨v, cap, ?_, fun j hj => absurd hj (by simp), fun c hc => by cases hc⟩, ?_⟩ ⟨Nat.le_of_ble_eq_true rfl, Nat.le_of_ble_eq_true rfl⟩
        · refine SbR.cnt (n := cs.length) ?_ (Nat.zero_le _)
          first
          | exact hS
          | exact ⟨hS.1, hS.2.1, hS.2.2.1, (qI_wI_k _ _ _ _ (by decide)).trans hS.2.2.2.1, (qI_wI_k _ _ _ _ (by decide)).trans hS.2.2.2.2.1, hnc, hcp, fun j hj => by rw [qI_wI_a _ _ _ _ hS.ne.symm]; exact hS.2.2.2.2.2.2.2 j hj⟩
        · first
          | exact (FrP.rf (fun a => a = b) g m).wI (Or.inl rfl)
          | exact ((FrP.rf (fun a => a = b) g m).wI (Or.inl rfl)).wI (Or.inl rfl)
    · exact absurd (nI_le (Nat.zero_le cs.length) (by omega)) c23
  · exact absurd (show (0 : Int32) ≤ nI 0 by decide) c1
set_option maxRecDepth 20000 in
set_option maxHeartbeats 4000000 in
theorem s_J4_setLen0 (E : qE) (g : qG) (m : qM) (b : Nat) (cs : List Nat) (hB : SbIs g m b cs) : Sp E yJ4_setLength_d00df cJ4_setLength_d00df 2 none 5 0 0 [.ref b, .int 0] g m (fun x' g' m' => x' = none ∧ g' = g ∧ SbIs g' m' b [] ∧ FrP (fun a => a = b) g m g' m') := by
  refine Sp.ofF (by decide +kernel) [some (.ref b), some (.int 0)] rfl rfl (Nat.le_of_ble_eq_true rfl) (fun X hX => ?_)
  refine r_aload_n hX dJ4_setLength_d00df_0 rfl ?_
  refine r_iload_n hX dJ4_setLength_d00df_1 rfl ?_
  refine r_callP hX dJ4_setLength_d00df_2 (s_J5_setLen0 E g m b cs hB) mlp_J4_333 sb_ins rfl rfl hB.choose_spec.choose_spec.1.1 rfl ⟨Nat.le_of_ble_eq_true rfl, Nat.le_of_ble_eq_true rfl⟩ ⟨Nat.le_of_ble_eq_true rfl, Nat.le_of_ble_eq_true rfl, rfl, Nat.le_of_ble_eq_true rfl⟩ (fun v2 g2 m2 hp => ?_)
  obtain ⟨hv, hg, hB2, hF⟩ := hp
  subst v2
  subst g2
  exact r_vret hX dJ4_setLength_d00df_5 ⟨rfl, rfl, hB2, hF⟩ ⟨Nat.le_of_ble_eq_true rfl, Nat.le_of_ble_eq_true rfl⟩
set_option maxRecDepth 20000 in
set_option maxHeartbeats 4000000 in
theorem s_J4_length (E : qE) (g : qG) (m : qM) (b : Nat) (cs : List Nat) (hB : SbIs g m b cs) : Sp E yJ4_length_8abf5 cJ4_length_8abf5 1 (some .int) 1 0 0 [.ref b] g m (fun v g' m' => v = some (.int (nI cs.length)) ∧ g' = g ∧ m' = m) := by
  refine Sp.ofF (by decide +kernel) [some (.ref b)] rfl rfl (Nat.le_of_ble_eq_true rfl) (fun X hX => ?_)
  refine r_aload_n hX dJ4_length_8abf5_0 rfl ?_
  refine r_callP hX dJ4_length_8abf5_1 (s_J5_length E g m b _ _ _ hB.choose_spec.choose_spec.1) mlp_J4_343 sb_ins rfl rfl hB.choose_spec.choose_spec.1.1 rfl ⟨Nat.le_of_ble_eq_true rfl, Nat.le_of_ble_eq_true rfl⟩ ⟨Nat.le_of_ble_eq_true rfl, Nat.le_of_ble_eq_true rfl, rfl, Nat.le_of_ble_eq_true rfl⟩ (fun v1 g1 m1 hp => ?_)
  obtain ⟨hv, hg, hm⟩ := hp
  subst v1
  subst g1
  subst m1
  exact r_iret hX dJ4_length_8abf5_4 ⟨rfl, rfl, rfl⟩ ⟨Nat.le_of_ble_eq_true rfl, Nat.le_of_ble_eq_true rfl⟩
set_option maxRecDepth 20000 in
set_option maxHeartbeats 4000000 in
theorem s_J5_charAt (E : qE) (g : qG) (m : qM) (b : Nat) (cs : List Nat) (hB : SbIs g m b cs) (i : Nat) (hi : i < cs.length) : Sp E yJ5_charAt_5068e cJ5_charAt_5068e 5 (some .char) 2 0 0 [.ref b, .int (nI i)] g m (fun v g' m' => v = some (.int (nI (cs.getD i 0))) ∧ g' = g ∧ m' = m) := by
  refine Sp.ofF (by decide +kernel) [some (.ref b), some (.int (nI i)), none, none, none] rfl rfl (Nat.le_of_ble_eq_true rfl) (fun X hX => ?_)
  obtain ⟨v, cap, hS, hf, hl⟩ := hB
  have hcp := hS.2.2.2.2.2.2.1
  have hnc := hS.2.2.2.2.2.1
  have hch : cs.getD i 0 < 128 := by
    rw [List.getD_eq_getElem?_getD, List.getElem?_eq_getElem hi]
    exact hl _ (List.getElem_mem hi)
  refine r_aload_n hX dJ5_charAt_5068e_0 rfl ?_
  refine r_getI hX dJ5_charAt_5068e_1 hS.1 fl_J5_22 ?_
  rw [hS.2.2.2.1]
  refine r_istore_n hX dJ5_charAt_5068e_4 (Nat.le_of_ble_eq_true rfl) rfl ?_
  refine r_aload_n hX dJ5_charAt_5068e_5 rfl ?_
  refine r_getR hX dJ5_charAt_5068e_6 hS.1 fl_J5_15 hS.2.1 ?_
  refine r_astore_n hX dJ5_charAt_5068e_9 (Nat.le_of_ble_eq_true rfl) rfl ?_
  refine r_aload_n hX dJ5_charAt_5068e_10 rfl ?_
  refine r_getI hX dJ5_charAt_5068e_11 hS.1 fl_J5_79 ?_
  rw [hS.2.2.2.2.1]
  refine r_aload_n hX dJ5_charAt_5068e_14 rfl ?_
  refine r_alen (v := (nI cap)) hX dJ5_charAt_5068e_15 hS.2.2.1 (by decide) rfl ?_
  refine r_iload_n hX dJ5_charAt_5068e_16 rfl ?_
  refine r_ishr hX dJ5_charAt_5068e_17 ?_
  rw [shr0 (by omega)]
  refine r_mmin hX dJ5_charAt_5068e_18 mm_J5_138 ⟨Nat.le_of_ble_eq_true rfl, rfl, Nat.le_of_ble_eq_true rfl⟩ ⟨Nat.le_of_ble_eq_true rfl, Nat.le_of_ble_eq_true rfl⟩ ?_
  rw [mnN (by omega) (by omega), Nat.min_eq_left (by omega)]
  refine r_istore hX dJ5_charAt_5068e_21 (Nat.le_of_ble_eq_true rfl) rfl ?_
  refine r_iload_n hX dJ5_charAt_5068e_23 rfl ?_
  refine r_iload hX dJ5_charAt_5068e_24 rfl ?_
  refine r_callS hX dJ5_charAt_5068e_26 (s_J0_checkIndex E g m i cs.length hi (by omega)) ml_J5_144 rfl rfl ⟨Nat.le_of_ble_eq_true rfl, Nat.le_of_ble_eq_true rfl⟩ ⟨Nat.le_of_ble_eq_true rfl, Nat.le_of_ble_eq_true rfl, rfl, Nat.le_of_ble_eq_true rfl⟩ (fun v26 g26 m26 hp => ?_)
  obtain ⟨hv, hg, hm⟩ := hp
  subst v26
  subst g26
  subst m26
  refine r_iload_n hX dJ5_charAt_5068e_29 rfl ?_
  refine r_if_ne (tgt := 42) hX dJ5_charAt_5068e_30 (by decide) (fun c30 => ?_) (fun c30 => ?_)
  · exact absurd rfl c30
  · refine r_aload_n hX dJ5_charAt_5068e_33 rfl ?_
    refine r_iload_n hX dJ5_charAt_5068e_34 rfl ?_
    refine r_baloadN hX dJ5_charAt_5068e_35 hS.2.2.1 (show i < cap by omega) (by omega) ?_
    rw [hf i hi]
    refine r_sipush (v := 255) hX dJ5_charAt_5068e_36 (by decide) ?_
    refine r_iand hX dJ5_charAt_5068e_39 ?_
    refine r_i2c hX dJ5_charAt_5068e_40 ?_
    rw [i2cN hch]
    exact r_zret hX dJ5_charAt_5068e_41 (narC hch) ⟨rfl, rfl, rfl⟩ ⟨Nat.le_of_ble_eq_true rfl, Nat.le_of_ble_eq_true rfl⟩
set_option maxRecDepth 20000 in
set_option maxHeartbeats 4000000 in
theorem s_J4_charAt (E : qE) (g : qG) (m : qM) (b : Nat) (cs : List Nat) (hB : SbIs g m b cs) (i : Nat) (hi : i < cs.length) : Sp E yJ4_charAt_5068e cJ4_charAt_5068e 2 (some .char) 3 0 0 [.ref b, .int (nI i)] g m (fun v g' m' => v = some (.int (nI (cs.getD i 0))) ∧ g' = g ∧ m' = m) := by
  refine Sp.ofF (by decide +kernel) [some (.ref b), some (.int (nI i))] rfl rfl (Nat.le_of_ble_eq_true rfl) (fun X hX => ?_)
  have hch : cs.getD i 0 < 128 := by
    rw [List.getD_eq_getElem?_getD, List.getElem?_eq_getElem hi]
    exact hB.choose_spec.choose_spec.2.2 _ (List.getElem_mem hi)
  refine r_aload_n hX dJ4_charAt_5068e_0 rfl ?_
  refine r_iload_n hX dJ4_charAt_5068e_1 rfl ?_
  refine r_callP hX dJ4_charAt_5068e_2 (s_J5_charAt E g m b cs hB i hi) mlp_J4_329 sb_ins rfl rfl hB.choose_spec.choose_spec.1.1 rfl ⟨Nat.le_of_ble_eq_true rfl, Nat.le_of_ble_eq_true rfl⟩ ⟨Nat.le_of_ble_eq_true rfl, Nat.le_of_ble_eq_true rfl, rfl, Nat.le_of_ble_eq_true rfl⟩ (fun v2 g2 m2 hp => ?_)
  obtain ⟨hv, hg, hm⟩ := hp
  subst v2
  subst g2
  subst m2
  exact r_zret hX dJ4_charAt_5068e_5 (narC hch) ⟨rfl, rfl, rfl⟩ ⟨Nat.le_of_ble_eq_true rfl, Nat.le_of_ble_eq_true rfl⟩
