/-! ===== CometObservatory.Sky: the sky at q, its row of comets at q + 1, the comets at q + 2 .. q + 7, the ring at q + 8, the dust at q + 9 ===== -/
def SkySh (g : qG) (q : Nat) : Prop := gAt g q (.inl 8) ∧ gAt g (q + 1) (.inr (5, 6)) ∧ (∀ i, i < 6 → gAt g (q + 2 + i) (.inl 4)) ∧ gAt g (q + 8) (.inl 7) ∧ gAt g (q + 9) (.inr (0, 12))
def SkyR (m : qM) (q : Nat) (ad : Nat → Nat) : Prop := qR m q 0 = some (q + 1) ∧ qR m q 1 = some (q + 8) ∧ qR m (q + 8) 0 = some (q + 9) ∧ (∀ i, i < 6 → qR m (q + 1) i = some (ad i)) ∧ (∀ i, i < 6 → q + 2 ≤ ad i ∧ ad i < q + 8) ∧ ∀ i j, i < 6 → j < 6 → ad i = ad j → i = j
/-- what a sky holds: its numbers (count, next id, day, coins, rate, passes, burnt), its comets by place, its dust, what has fallen, what was removed -/
abbrev kS : Type := (Nat → Int32) × (Nat → Nat → Int32) × (Nat → Int32) × Int32 × Int32
def SkyV (m : qM) (q : Nat) (ad : Nat → Nat) (S : kS) : Prop := (∀ k, k < 7 → qI m q (k + 2) = S.1 k) ∧ (∀ i k, i < 6 → k < 5 → qI m (ad i) k = S.2.1 i k) ∧ (∀ j, j < 12 → qI m (q + 9) j = S.2.2.1 j) ∧ qI m (q + 8) 1 = S.2.2.2.1 ∧ qI m (q + 8) 2 = S.2.2.2.2
def SkyIs (g : qG) (m : qM) (q : Nat) (S : kS) : Prop := SkySh g q ∧ ∃ ad, SkyR m q ad ∧ SkyV m q ad S
/-- nothing is changed but in n cells from q on -/
def Outs (q n : Nat) (m m' : qM) : Prop := (∀ a j, (a < q ∨ q + n ≤ a) → qI m' a j = qI m a j ∧ qR m' a j = qR m a j) ∧ m'.2.2 = m.2.2
theorem Outs.rf (q n : Nat) (m : qM) : Outs q n m m := ⟨fun _ _ _ => ⟨rfl, rfl⟩, rfl⟩
theorem Outs.tr {q n : Nat} {m m1 m2 : qM} (h : Outs q n m m1) (h2 : Outs q n m1 m2) : Outs q n m m2 := ⟨fun a j ha => ⟨(h2.1 a j ha).1.trans (h.1 a j ha).1, (h2.1 a j ha).2.trans (h.1 a j ha).2⟩, h2.2.trans h.2⟩
theorem Outs.mono {q n q' n' : Nat} {m m' : qM} (h : Outs q n m m') (h1 : q' ≤ q ∧ q + n ≤ q' + n') : Outs q' n' m m' := ⟨fun a j ha => h.1 a j (by omega), h.2⟩
theorem Outs.wI {q n : Nat} {m m' : qM} (h : Outs q n m m') {a k : Nat} {v : Int32} (ha : q ≤ a ∧ a < q + n) : Outs q n m (wI m' a k v) := ⟨fun b j hb => ⟨(qI_wI_a _ _ _ _ (by omega)).trans (h.1 b j hb).1, (h.1 b j hb).2⟩, h.2⟩
theorem Outs.wR {q n : Nat} {m m' : qM} (h : Outs q n m m') {a k : Nat} {v : Option Nat} (ha : q ≤ a ∧ a < q + n) : Outs q n m (wR m' a k v) := ⟨fun b j hb => ⟨(h.1 b j hb).1, (qR_wR_a _ _ _ _ (by omega)).trans (h.1 b j hb).2⟩, h.2⟩
theorem adAt {g : qG} {m : qM} {q : Nat} {ad : Nat → Nat} (hs : SkySh g q) (hr : SkyR m q ad) {i : Nat} (hi : i < 6) : gAt g (ad i) (.inl 4) := by
  have h := hr.2.2.2.2.1 i hi
  have h2 := hs.2.2.1 (ad i - (q + 2)) (by omega)
  rwa [show q + 2 + (ad i - (q + 2)) = ad i by omega] at h2
theorem SkyIs.out {g : qG} {m m' : qM} {q q' n : Nat} {S : kS} (h : SkyIs g m q S) (ho : Outs q' n m m') (hd : q + 10 ≤ q' ∨ q' + n ≤ q) : SkyIs g m' q S := by
  obtain ⟨hs, ad, hr, h1, h2, h3, h4, h5⟩ := h
  obtain ⟨r1, r2, r3, r4, r5, r6⟩ := hr
  have e : ∀ a j, q ≤ a → a < q + 10 → qI m' a j = qI m a j ∧ qR m' a j = qR m a j := fun a j a1 a2 => ho.1 a j (by omega)
  refine ⟨hs, ad, ⟨?_, ?_, ?_, fun i hi => ?_, r5, r6⟩, fun k hk => ?_, fun i k hi hk => ?_, fun j hj => ?_, ?_, ?_⟩
  · rw [(e q 0 (by omega) (by omega)).2]; exact r1
  · rw [(e q 1 (by omega) (by omega)).2]; exact r2
  · rw [(e (q + 8) 0 (by omega) (by omega)).2]; exact r3
  · rw [(e (q + 1) i (by omega) (by omega)).2]; exact r4 i hi
  · rw [(e q (k + 2) (by omega) (by omega)).1]; exact h1 k hk
  · have := r5 i hi
    rw [(e (ad i) k (by omega) (by omega)).1]; exact h2 i k hi hk
  · rw [(e (q + 9) j (by omega) (by omega)).1]; exact h3 j hj
  · rw [(e (q + 8) 1 (by omega) (by omega)).1]; exact h4
  · rw [(e (q + 8) 2 (by omega) (by omega)).1]; exact h5
theorem SkyR.to {m m' : qM} {q : Nat} {ad : Nat → Nat} (h : SkyR m q ad) (hm : m'.2 = m.2) : SkyR m' q ad := by
  unfold SkyR qR at h ⊢
  rw [hm]
  exact h
theorem SkyR.ring {g : qG} {m : qM} {q : Nat} {ad : Nat → Nat} (hs : SkySh g q) (h : SkyR m q ad) : RingS g m (q + 8) (q + 9) := ⟨hs.2.2.2.1, h.2.2.1, hs.2.2.2.2⟩
theorem SkyIs.congr {g : qG} {m : qM} {q : Nat} {S S' : kS} (h : SkyIs g m q S) (h1 : ∀ k, k < 7 → S.1 k = S'.1 k) (h2 : ∀ i k, i < 6 → k < 5 → S.2.1 i k = S'.2.1 i k) (h3 : ∀ j, j < 12 → S.2.2.1 j = S'.2.2.1 j) (h4 : S.2.2.2 = S'.2.2.2) : SkyIs g m q S' := by
  obtain ⟨hs, ad, hr, a1, a2, a3, a4, a5⟩ := h
  exact ⟨hs, ad, hr, fun k hk => (a1 k hk).trans (h1 k hk), fun i k hi hk => (a2 i k hi hk).trans (h2 i k hi hk), fun j hj => (a3 j hj).trans (h3 j hj), a4.trans (by rw [h4]), a5.trans (by rw [h4])⟩
set_option maxRecDepth 20000 in
set_option maxHeartbeats 4000000 in
theorem s_X5_hasRoom (E : qE) (g : qG) (m : qM) (q : Nat) (hs : SkySh g q) : Sp E yX5_hasRoom cX5_hasRoom 1 (some .boolean) 0 0 0 [.ref q] g m (fun v g' m' => v = some (.int (if 6 ≤ qI m q 2 then 0 else 1)) ∧ g' = g ∧ m' = m) := by
  refine Sp.of (by decide) [some (.ref q)] rfl rfl (Nat.le_of_ble_eq_true rfl) (fun X hX => ?_)
  refine r_aload_n hX dX5_hasRoom_0 rfl ?_
  refine r_getI hX dX5_hasRoom_1 hs.1 fl_X5_39 ?_
  refine r_bipush (v := 6) hX dX5_hasRoom_4 (by decide) ?_
  refine r_icmp_ge (tgt := 13) hX dX5_hasRoom_6 (by decide) (fun c6 => ?_) (fun c6 => ?_)
  · refine r_iconst (v := 0) hX dX5_hasRoom_13 (by decide) ?_
    exact r_zret hX dX5_hasRoom_14 rfl ⟨by rw [if_pos c6], rfl, rfl⟩ ⟨Nat.le_of_ble_eq_true rfl, Nat.le_of_ble_eq_true rfl⟩
  · refine r_iconst (v := 1) hX dX5_hasRoom_9 (by decide) ?_
    refine r_goto (tgt := 14) hX dX5_hasRoom_10 (by decide) ?_
    exact r_zret hX dX5_hasRoom_14 rfl ⟨by rw [if_neg c6], rfl, rfl⟩ ⟨Nat.le_of_ble_eq_true rfl, Nat.le_of_ble_eq_true rfl⟩
set_option maxRecDepth 20000 in
set_option maxHeartbeats 4000000 in
theorem s_X5_canBuy (E : qE) (g : qG) (m : qM) (q : Nat) (x : Int32) (hs : SkySh g q) : Sp E yX5_canBuy cX5_canBuy 2 (some .boolean) 0 0 0 [.ref q, .int x] g m (fun v g' m' => v = some (.int (if qI m q 5 < 3 * x then 0 else 1)) ∧ g' = g ∧ m' = m) := by
  refine Sp.of (by decide) [some (.ref q), some (.int x)] rfl rfl (Nat.le_of_ble_eq_true rfl) (fun X hX => ?_)
  refine r_iconst (v := 3) hX dX5_canBuy_0 (by decide) ?_
  refine r_iload_n hX dX5_canBuy_1 rfl ?_
  refine r_imul hX dX5_canBuy_2 ?_
  refine r_aload_n hX dX5_canBuy_3 rfl ?_
  refine r_getI hX dX5_canBuy_4 hs.1 fl_X5_25 ?_
  refine r_icmp_gt (tgt := 14) hX dX5_canBuy_7 (by decide) (fun c7 => ?_) (fun c7 => ?_)
  · refine r_iconst (v := 0) hX dX5_canBuy_14 (by decide) ?_
    exact r_zret hX dX5_canBuy_15 rfl ⟨by rw [if_pos c7], rfl, rfl⟩ ⟨Nat.le_of_ble_eq_true rfl, Nat.le_of_ble_eq_true rfl⟩
  · refine r_iconst (v := 1) hX dX5_canBuy_10 (by decide) ?_
    refine r_goto (tgt := 15) hX dX5_canBuy_11 (by decide) ?_
    exact r_zret hX dX5_canBuy_15 rfl ⟨by rw [if_neg c7], rfl, rfl⟩ ⟨Nat.le_of_ble_eq_true rfl, Nat.le_of_ble_eq_true rfl⟩
set_option maxRecDepth 20000 in
set_option maxHeartbeats 4000000 in
theorem s_X5_buy (E : qE) (g : qG) (m : qM) (q c : Nat) (x : Int32) (hs : SkySh g q) (hc : gAt g c (.inl 4)) : Sp E yX5_buy cX5_buy 3 none 0 0 0 [.ref q, .ref c, .int x] g m (fun v g' m' => v = none ∧ g' = g ∧ m' = wI (wI m q 5 (qI m q 5 - 3 * x)) c 2 (qI m c 2 + x)) := by
  refine Sp.of (by decide) [some (.ref q), some (.ref c), some (.int x)] rfl rfl (Nat.le_of_ble_eq_true rfl) (fun X hX => ?_)
  refine r_aload_n hX dX5_buy_0 rfl ?_
  refine r_dup hX dX5_buy_1 rfl ?_
  refine r_getI hX dX5_buy_2 hs.1 fl_X5_25 ?_
  refine r_iconst (v := 3) hX dX5_buy_5 (by decide) ?_
  refine r_iload_n hX dX5_buy_6 rfl ?_
  refine r_imul hX dX5_buy_7 ?_
  refine r_isub hX dX5_buy_8 ?_
  refine r_putI hX dX5_buy_9 hs.1 fl_X5_25 ?_
  refine r_aload_n hX dX5_buy_12 rfl ?_
  refine r_dup hX dX5_buy_13 rfl ?_
  refine r_getI hX dX5_buy_14 hc fl_X5_64 ?_
  refine r_iload_n hX dX5_buy_17 rfl ?_
  refine r_iadd hX dX5_buy_18 ?_
  refine r_putI hX dX5_buy_19 hc fl_X5_64 ?_
  exact r_vret hX dX5_buy_22 ⟨rfl, rfl, by rw [qI_wI_a _ _ _ _ (gAt_ne hc hs.1 (by simp))]⟩ ⟨Nat.le_of_ble_eq_true rfl, Nat.le_of_ble_eq_true rfl⟩
/-- the first of n places from i on that holds x -/
def slotF (c : Nat → Int32) (x : Int32) : Nat → Nat → Option Nat
  | _, 0 => none
  | i, n + 1 => if c i = x then some i else slotF c x (i + 1) n
theorem slotF_some {c : Nat → Int32} {x : Int32} : ∀ {n i j : Nat}, slotF c x i n = some j → i ≤ j ∧ j < i + n ∧ c j = x
  | 0, _, _, h => by simp [slotF] at h
  | n + 1, i, j, h => by
    unfold slotF at h
    split at h
    · cases h; refine ⟨Nat.le_refl _, by omega, by assumption⟩
    · obtain ⟨a1, a2, a3⟩ := slotF_some h
      exact ⟨by omega, by omega, a3⟩
def slotI (o : Option Nat) : Int32 := match o with
  | some i => nI i
  | none => -1
theorem slotF_congr {c d : Nat → Int32} {x : Int32} : ∀ (n i : Nat), (∀ j, i ≤ j → j < i + n → c j = d j) → slotF c x i n = slotF d x i n
  | 0, _, _ => rfl
  | n + 1, i, h => by
    unfold slotF
    rw [h i (Nat.le_refl i) (by omega), slotF_congr n (i + 1) (fun j a b => h j (by omega) (by omega))]
set_option maxRecDepth 20000 in
set_option maxHeartbeats 4000000 in
theorem s_X5_slotOf_l {E : qE} {X : qX} {Q : State → Prop} {g : qG} {m : qM} (hX : MC E yX5_slotOf cX5_slotOf 3 (some .int) 0 0 0 [] X) {q : Nat} {x : Int32} {ad : Nat → Nat} (hs : SkySh g q) (hr : SkyR m q ad) {n : Nat} (hn : qI m q 2 = nI n ∧ n ≤ 6) : ∀ (k i : Nat), i + k = n → (slotF (fun i => qI m (ad i) 0) x i k = none → ∀ j : Int32, WS E X 0 0 Q g m 31 [some (.ref q), some (.int x), some (.int j)] []) → (∀ j : Nat, slotF (fun i => qI m (ad i) 0) x i k = some j → WS E X 0 0 Q g m 23 [some (.ref q), some (.int x), some (.int (nI j))] []) → WS E X 0 0 Q g m 2 [some (.ref q), some (.int x), some (.int (nI i))] [] := by
  intro k
  induction k with
  | zero =>
    intro i hi K K2
    have hib : i = n := by omega
    subst hib
    refine r_iload_n hX dX5_slotOf_2 rfl ?_
    refine r_aload_n hX dX5_slotOf_3 rfl ?_
    refine r_getI hX dX5_slotOf_4 hs.1 fl_X5_39 ?_
    rw [hn.1]
    refine r_icmp_ge (tgt := 31) hX dX5_slotOf_7 (by decide) (fun c7 => ?_) (fun c7 => ?_)
    · exact K rfl _
    · exact absurd (nI_le (Nat.le_refl _) (by omega)) c7
  | succ k ih =>
    intro i hi K K2
    have hf : slotF (fun i => qI m (ad i) 0) x i (k + 1) = if qI m (ad i) 0 = x then some i else slotF (fun i => qI m (ad i) 0) x (i + 1) k := rfl
    refine r_iload_n hX dX5_slotOf_2 rfl ?_
    refine r_aload_n hX dX5_slotOf_3 rfl ?_
    refine r_getI hX dX5_slotOf_4 hs.1 fl_X5_39 ?_
    rw [hn.1]
    refine r_icmp_ge (tgt := 31) hX dX5_slotOf_7 (by decide) (fun c7 => ?_) (fun c7 => ?_)
    · exact absurd c7 (nI_ge (by omega) (by omega))
    · refine r_aload_n hX dX5_slotOf_10 rfl ?_
      refine r_getR hX dX5_slotOf_11 hs.1 fl_X5_11 hr.1 ?_
      refine r_iload_n hX dX5_slotOf_14 rfl ?_
      refine r_aaload5N hX dX5_slotOf_15 hs.2.1 (by omega) (by decide) (hr.2.2.2.1 i (by omega)) ?_
      refine r_getI hX dX5_slotOf_16 (adAt hs hr (by omega)) fl_X5_58 ?_
      refine r_iload_n hX dX5_slotOf_19 rfl ?_
      refine r_icmp_ne (tgt := 25) hX dX5_slotOf_20 (by decide) (fun c20 => ?_) (fun c20 => ?_)
      · refine r_iinc (v := nI (i + 1)) hX dX5_slotOf_25 rfl (ii1 i) rfl ?_
        refine r_goto (tgt := 2) hX dX5_slotOf_28 (by decide) ?_
        exact ih (i + 1) (by omega) (fun h => K (by rw [hf, if_neg c20]; exact h)) (fun j h => K2 j (by rw [hf, if_neg c20]; exact h))
      · exact K2 i (by rw [hf, if_pos c20])
set_option maxRecDepth 20000 in
set_option maxHeartbeats 4000000 in
theorem s_X5_slotOf (E : qE) (g : qG) (m : qM) (q : Nat) (x : Int32) (hs : SkySh g q) (ad : Nat → Nat) (hr : SkyR m q ad) (n : Nat) (hn : qI m q 2 = nI n ∧ n ≤ 6) : Sp E yX5_slotOf cX5_slotOf 3 (some .int) 0 0 0 [.ref q, .int x] g m (fun v g' m' => v = some (.int (slotI (slotF (fun i => qI m (ad i) 0) x 0 n))) ∧ g' = g ∧ m' = m) := by
  refine Sp.of (by decide) [some (.ref q), some (.int x), none] rfl rfl (Nat.le_of_ble_eq_true rfl) (fun X hX => ?_)
  refine r_iconst (v := 0) hX dX5_slotOf_0 (by decide) ?_
  refine r_istore_n hX dX5_slotOf_1 (Nat.le_of_ble_eq_true rfl) rfl ?_
  refine s_X5_slotOf_l hX hs hr hn n 0 (Nat.zero_add n) (fun h j => ?_) (fun j h => ?_)
  · refine r_iconst (v := -1) hX dX5_slotOf_31 (by decide) ?_
    exact r_iret hX dX5_slotOf_32 ⟨by rw [h]; rfl, rfl, rfl⟩ ⟨Nat.le_of_ble_eq_true rfl, Nat.le_of_ble_eq_true rfl⟩
  · refine r_iload_n hX dX5_slotOf_23 rfl ?_
    exact r_iret hX dX5_slotOf_24 ⟨by rw [h]; rfl, rfl, rfl⟩ ⟨Nat.le_of_ble_eq_true rfl, Nat.le_of_ble_eq_true rfl⟩
theorem slotI_none : slotI none = -1 := rfl
theorem slotI_ne (i : Nat) (h : i < 2 ^ 31) : ¬ nI i = -1 := fun e => absurd (show nI i < 0 by rw [e]; decide) (nI_pos h)
def refO (o : Option Nat) (ad : Nat → Nat) : Value := match o with
  | some i => .ref (ad i)
  | none => .null
set_option maxRecDepth 20000 in
set_option maxHeartbeats 4000000 in
theorem s_X5_find (E : qE) (g : qG) (m : qM) (q : Nat) (x : Int32) (hs : SkySh g q) (ad : Nat → Nat) (hr : SkyR m q ad) (n : Nat) (hn : qI m q 2 = nI n ∧ n ≤ 6) : Sp E yX5_find cX5_find 3 (some (.object "CometObservatory$Comet")) 1 0 0 [.ref q, .int x] g m (fun v g' m' => v = some (refO (slotF (fun i => qI m (ad i) 0) x 0 n) ad) ∧ g' = g ∧ m' = m) := by
  refine Sp.of (by decide) [some (.ref q), some (.int x), none] rfl rfl (Nat.le_of_ble_eq_true rfl) (fun X hX => ?_)
  cases hsl : slotF (fun i => qI m (ad i) 0) x 0 n with
  | none =>
    refine r_aload_n hX dX5_find_0 rfl ?_
    refine r_iload_n hX dX5_find_1 rfl ?_
    refine r_callV hX dX5_find_2 (s_X5_slotOf E g m q x hs ad hr n hn) ml_X5_73 rfl rfl hs.1 rfl ⟨Nat.le_of_ble_eq_true rfl, Nat.le_of_ble_eq_true rfl⟩ ⟨Nat.le_of_ble_eq_true rfl, Nat.le_of_ble_eq_true rfl, rfl, Nat.le_of_ble_eq_true rfl⟩ (fun v2 g2 m2 hp => ?_)
    obtain ⟨hv, hg, hm⟩ := hp
    subst v2
    subst g2
    subst m2
    rw [hsl, slotI_none]
    refine r_istore_n hX dX5_find_5 (Nat.le_of_ble_eq_true rfl) rfl ?_
    refine r_iload_n hX dX5_find_6 rfl ?_
    refine r_iconst (v := (-1)) hX dX5_find_7 (by decide) ?_
    refine r_icmp_ne (tgt := 15) hX dX5_find_8 (by decide) (fun c8 => ?_) (fun c8 => ?_)
    · exact absurd rfl c8
    · refine r_null hX dX5_find_11 ?_
      refine r_goto (tgt := 21) hX dX5_find_12 (by decide) ?_
      exact r_aret hX dX5_find_21 (Or.inl ⟨_, rfl⟩) (Or.inl rfl) ⟨rfl, rfl, rfl⟩ ⟨Nat.le_of_ble_eq_true rfl, Nat.le_of_ble_eq_true rfl⟩
  | some i =>
    have hi := slotF_some hsl
    refine r_aload_n hX dX5_find_0 rfl ?_
    refine r_iload_n hX dX5_find_1 rfl ?_
    refine r_callV hX dX5_find_2 (s_X5_slotOf E g m q x hs ad hr n hn) ml_X5_73 rfl rfl hs.1 rfl ⟨Nat.le_of_ble_eq_true rfl, Nat.le_of_ble_eq_true rfl⟩ ⟨Nat.le_of_ble_eq_true rfl, Nat.le_of_ble_eq_true rfl, rfl, Nat.le_of_ble_eq_true rfl⟩ (fun v2 g2 m2 hp => ?_)
    obtain ⟨hv, hg, hm⟩ := hp
    subst v2
    subst g2
    subst m2
    rw [hsl, show slotI (some i) = nI i from rfl]
    refine r_istore_n hX dX5_find_5 (Nat.le_of_ble_eq_true rfl) rfl ?_
    refine r_iload_n hX dX5_find_6 rfl ?_
    refine r_iconst (v := (-1)) hX dX5_find_7 (by decide) ?_
    refine r_icmp_ne (tgt := 15) hX dX5_find_8 (by decide) (fun c8 => ?_) (fun c8 => ?_)
    · refine r_aload_n hX dX5_find_15 rfl ?_
      refine r_getR hX dX5_find_16 hs.1 fl_X5_11 hr.1 ?_
      refine r_iload_n hX dX5_find_19 rfl ?_
      refine r_aaload5N hX dX5_find_20 hs.2.1 (by omega) (by decide) (hr.2.2.2.1 i (by omega)) ?_
      exact r_aret hX dX5_find_21 (Or.inl ⟨_, rfl⟩) (Or.inr ⟨_, rfl⟩) ⟨rfl, rfl, rfl⟩ ⟨Nat.le_of_ble_eq_true rfl, Nat.le_of_ble_eq_true rfl⟩
    · exact absurd c8 (slotI_ne i (by omega))
/-- the places behind one that is taken out: it comes behind those that exist -/
def rot (n s i : Nat) : Nat := if i < s then i else if i + 1 < n then i + 1 else if i + 1 = n then s else i
theorem rot_lt {n s i : Nat} (hn : n ≤ 6) (hs : s < n) (hi : i < 6) : rot n s i < 6 := by unfold rot; split <;> (try split) <;> (try split) <;> omega
theorem rot_inj {n s i j : Nat} (hs : s < n) (h : rot n s i = rot n s j) : i = j := by unfold rot at h; grind
def takeS (S : kS) (n s : Nat) : kS := (fun k => if k = 0 then S.1 0 - 1 else S.1 k, fun i => S.2.1 (rot n s i), S.2.2)
set_option maxRecDepth 20000 in
set_option maxHeartbeats 4000000 in
theorem s_X5_takeOut_l {E : qE} {X : qX} {Q : State → Prop} {g : qG} {m : qM} (hX : MC E yX5_takeOut cX5_takeOut 4 none 0 0 0 [] X) {q s : Nat} {ad : Nat → Nat} (hs : SkySh g q) (hr : SkyR m q ad) {n : Nat} (hn : qI m q 2 = nI n ∧ n ≤ 6) (hsn : s < n) : ∀ (k i : Nat) (m1 : qM), i + k + 1 = n → s ≤ i → (m1.1 = m.1 ∧ m1.2.2 = m.2.2 ∧ ∀ a j, qR m1 a j = if a = q + 1 ∧ s ≤ j ∧ j < i then some (ad (j + 1)) else qR m a j) → (∀ (j : Int32) (m2 : qM), (m2.1 = m.1 ∧ m2.2.2 = m.2.2 ∧ ∀ a j, qR m2 a j = if a = q + 1 ∧ s ≤ j ∧ j < (n - 1) then some (ad (j + 1)) else qR m a j) → WS E X 0 0 Q g m2 39 [some (.ref q), some (.int (nI s)), some (.ref (ad s)), some (.int j)] []) → WS E X 0 0 Q g m1 9 [some (.ref q), some (.int (nI s)), some (.ref (ad s)), some (.int (nI i))] [] := by
  intro k
  induction k with
  | zero =>
    intro i m1 hi hsi hm1 K
    have hib : i = n - 1 := by omega
    subst hib
    have hq0 : qR m1 q 0 = some (q + 1) := by rw [hm1.2.2, if_neg (by omega)]; exact hr.1
    refine r_iload_n hX dX5_takeOut_9 rfl ?_
    refine r_aload_n hX dX5_takeOut_10 rfl ?_
    refine r_getI hX dX5_takeOut_11 hs.1 fl_X5_39 ?_
    rw [show qI m1 q 2 = nI n from (congrFun (congrFun hm1.1 q) 2).trans hn.1]
    refine r_iconst (v := 1) hX dX5_takeOut_14 (by decide) ?_
    refine r_isub hX dX5_takeOut_15 ?_
    rw [show nI n - 1 = nI (n - 1) from pk_sub (b := 1) (by omega)]
    refine r_icmp_ge (tgt := 39) hX dX5_takeOut_16 (by decide) (fun c16 => ?_) (fun c16 => ?_)
    · exact K _ _ hm1
    · exact absurd (nI_le (Nat.le_refl _) (by omega)) c16
  | succ k ih =>
    intro i m1 hi hsi hm1 K
    have hq0 : qR m1 q 0 = some (q + 1) := by rw [hm1.2.2, if_neg (by omega)]; exact hr.1
    have hq1 : qR m1 (q + 1) (i + 1) = some (ad (i + 1)) := by rw [hm1.2.2, if_neg (by omega)]; exact hr.2.2.2.1 (i + 1) (by omega)
    refine r_iload_n hX dX5_takeOut_9 rfl ?_
    refine r_aload_n hX dX5_takeOut_10 rfl ?_
    refine r_getI hX dX5_takeOut_11 hs.1 fl_X5_39 ?_
    rw [show qI m1 q 2 = nI n from (congrFun (congrFun hm1.1 q) 2).trans hn.1]
    refine r_iconst (v := 1) hX dX5_takeOut_14 (by decide) ?_
    refine r_isub hX dX5_takeOut_15 ?_
    rw [show nI n - 1 = nI (n - 1) from pk_sub (b := 1) (by omega)]
    refine r_icmp_ge (tgt := 39) hX dX5_takeOut_16 (by decide) (fun c16 => ?_) (fun c16 => ?_)
    · exact absurd c16 (nI_ge (by omega) (by omega))
    · refine r_aload_n hX dX5_takeOut_19 rfl ?_
      refine r_getR hX dX5_takeOut_20 hs.1 fl_X5_11 hq0 ?_
      refine r_iload_n hX dX5_takeOut_23 rfl ?_
      refine r_aload_n hX dX5_takeOut_24 rfl ?_
      refine r_getR hX dX5_takeOut_25 hs.1 fl_X5_11 hq0 ?_
      refine r_iload_n hX dX5_takeOut_28 rfl ?_
      refine r_iconst (v := 1) hX dX5_takeOut_29 (by decide) ?_
      refine r_iadd hX dX5_takeOut_30 ?_
      rw [show nI i + 1 = nI (i + 1) from nI_1 i]
      refine r_aaload5N hX dX5_takeOut_31 hs.2.1 (by omega) (by decide) hq1 ?_
      refine r_aastore5N hX dX5_takeOut_32 hs.2.1 (by omega) (by decide) (adAt hs hr (by omega)) ?_
      refine r_iinc (v := nI (i + 1)) hX dX5_takeOut_33 rfl (ii1 i) rfl ?_
      refine r_goto (tgt := 9) hX dX5_takeOut_36 (by decide) ?_
      refine ih (i + 1) _ (by omega) (by omega) ⟨hm1.1, hm1.2.1, fun a j => ?_⟩ K
      rw [qR_wR, hm1.2.2]
      grind
set_option maxRecDepth 20000 in
set_option maxHeartbeats 4000000 in
theorem s_X5_takeOut (E : qE) (g : qG) (m : qM) (q s : Nat) (hs : SkySh g q) (ad : Nat → Nat) (hr : SkyR m q ad) (n : Nat) (hn : qI m q 2 = nI n ∧ n ≤ 6) (hsn : s < n) : Sp E yX5_takeOut cX5_takeOut 4 none 0 0 0 [.ref q, .int (nI s)] g m (fun v g' m' => v = none ∧ g' = g ∧ SkyR m' q (fun i => ad (rot n s i)) ∧ (∀ a j, qI m' a j = if a = q ∧ j = 2 then qI m q 2 - 1 else qI m a j) ∧ (∀ a j, a ≠ q + 1 → qR m' a j = qR m a j) ∧ m'.2.2 = m.2.2) := by
  refine Sp.of (by decide) [some (.ref q), some (.int (nI s)), none, none] rfl rfl (Nat.le_of_ble_eq_true rfl) (fun X hX => ?_)
  refine r_aload_n hX dX5_takeOut_0 rfl ?_
  refine r_getR hX dX5_takeOut_1 hs.1 fl_X5_11 hr.1 ?_
  refine r_iload_n hX dX5_takeOut_4 rfl ?_
  refine r_aaload5N hX dX5_takeOut_5 hs.2.1 (by omega) (by decide) (hr.2.2.2.1 s (by omega)) ?_
  refine r_astore_n hX dX5_takeOut_6 (Nat.le_of_ble_eq_true rfl) rfl ?_
  refine r_iload_n hX dX5_takeOut_7 rfl ?_
  refine r_istore_n hX dX5_takeOut_8 (Nat.le_of_ble_eq_true rfl) rfl ?_
  refine s_X5_takeOut_l hX hs hr hn hsn (n - 1 - s) s m (by omega) (Nat.le_refl s) ⟨rfl, rfl, fun a j => by rw [if_neg (by omega)]⟩ (fun j m1 hm1 => ?_)
  have hq0 : qR m1 q 0 = some (q + 1) := by rw [hm1.2.2, if_neg (by omega)]; exact hr.1
  refine r_aload_n hX dX5_takeOut_39 rfl ?_
  refine r_getR hX dX5_takeOut_40 hs.1 fl_X5_11 hq0 ?_
  refine r_aload_n hX dX5_takeOut_43 rfl ?_
  refine r_getI hX dX5_takeOut_44 hs.1 fl_X5_39 ?_
  rw [show qI m1 q 2 = nI n from (congrFun (congrFun hm1.1 q) 2).trans hn.1]
  refine r_iconst (v := 1) hX dX5_takeOut_47 (by decide) ?_
  refine r_isub hX dX5_takeOut_48 ?_
  rw [show nI n - 1 = nI (n - 1) from pk_sub (b := 1) (by omega)]
  refine r_aload_n hX dX5_takeOut_49 rfl ?_
  refine r_aastore5N hX dX5_takeOut_50 hs.2.1 (by omega) (by decide) (adAt hs hr (by omega)) ?_
  refine r_aload_n hX dX5_takeOut_51 rfl ?_
  refine r_dup hX dX5_takeOut_52 rfl ?_
  refine r_getI hX dX5_takeOut_53 hs.1 fl_X5_39 ?_
  refine r_iconst (v := 1) hX dX5_takeOut_56 (by decide) ?_
  refine r_isub hX dX5_takeOut_57 ?_
  refine r_putI hX dX5_takeOut_58 hs.1 fl_X5_39 ?_
  refine r_vret hX dX5_takeOut_61 ⟨rfl, rfl, ?_, ?_, ?_, hm1.2.1⟩ ⟨Nat.le_of_ble_eq_true rfl, Nat.le_of_ble_eq_true rfl⟩
  · obtain ⟨r1, r2, r3, r4, r5, r6⟩ := hr
    have e : ∀ a j, qR (wI (wR m1 (q + 1) (n - 1) (some (ad s))) q 2 (qI (wR m1 (q + 1) (n - 1) (some (ad s))) q 2 - 1)) a j = if a = q + 1 ∧ j = n - 1 then some (ad s) else if a = q + 1 ∧ s ≤ j ∧ j < n - 1 then some (ad (j + 1)) else qR m a j := fun a j => by rw [qR_wI, qR_wR, hm1.2.2]
    refine ⟨by rw [e, if_neg (by omega), if_neg (by omega)]; exact r1, by rw [e, if_neg (by omega), if_neg (by omega)]; exact r2, by rw [e, if_neg (by omega), if_neg (by omega)]; exact r3, fun i hi => ?_, fun i hi => r5 _ (rot_lt hn.2 hsn hi), fun i j hi hj h => rot_inj hsn (r6 _ _ (rot_lt hn.2 hsn hi) (rot_lt hn.2 hsn hj) h)⟩
    rw [e]
    unfold rot
    have := r4 i hi
    grind
  · intro a j
    have e1 : ∀ a j, qI m1 a j = qI m a j := fun a j => congrFun (congrFun hm1.1 a) j
    rw [qI_wI, qI_wR, e1]
    simp only [qI_wR, e1]
  · intro a j ha
    rw [qR_wI, qR_wR, if_neg (fun h => ha h.1), hm1.2.2, if_neg (fun h => ha h.1)]
