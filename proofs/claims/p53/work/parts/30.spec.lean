/-! ===== the state in numbers ===== -/
/-- comets (id, period, brightness, next day, passes), header (1 next id, 2 day, 3 coins, 4 rate, 5 passes, 6 burnt), dust -/
abbrev kV : Type := List (Nat → Nat) × (Nat → Nat) × (Nat → Nat)
def cAt (L : List (Nat → Nat)) (i : Nat) : Nat → Nat := L.getD i (fun _ => 0)
def updH (h : Nat → Nat) (k v : Nat) : Nat → Nat := fun j => if j = k then v else h j
def coN (a b c d e : Nat) : Nat → Nat := fun k => if k = 0 then a else if k = 1 then b else if k = 2 then c else if k = 3 then d else e
/-- the sum of n places from a on -/
def ds (f : Nat → Nat) (a : Nat) : Nat → Nat
  | 0 => 0
  | n + 1 => ds f a n + f ((a + n) % 12)
def RepS (S : kS) (V : kV) : Prop := S.1 0 = nI V.1.length ∧ (∀ k, 1 ≤ k → k < 7 → S.1 k = nI (V.2.1 k)) ∧ (∀ i k, i < V.1.length → k < 5 → S.2.1 i k = nI (cAt V.1 i k)) ∧ (∀ j, j < 12 → S.2.2.1 j = nI (V.2.2 j)) ∧ S.2.2.2.1 = S.2.2.2.2 + nI (ds V.2.2 0 12)
def RepF (f : Nat → Int32) (V : kV) : Prop := f 0 = nI V.1.length ∧ (∀ k, 1 ≤ k → k < 7 → f k = nI (V.2.1 k)) ∧ (∀ i k, i < V.1.length → k < 5 → f (7 + 5 * i + k) = nI (cAt V.1 i k)) ∧ ∀ j, j < 12 → f (37 + j) = nI (V.2.2 j)
/-- what holds of a comet at day d, with n ids given and p passes so far -/
def WfC (d n p : Nat) (c : Nat → Nat) : Prop := 2 ≤ c 1 ∧ c 1 ≤ 60 ∧ 1 ≤ c 2 ∧ c 2 ≤ 20 ∧ d < c 3 ∧ c 3 ≤ d + 60 ∧ c 4 ≤ p ∧ c 0 < n
/-- a state with bounds of the next id, the day, coins with dust, passes -/
def WfW (n d k p : Nat) (V : kV) : Prop := V.1.length ≤ 6 ∧ (∀ c ∈ V.1, WfC (V.2.1 2) (V.2.1 1) (V.2.1 5) c) ∧ V.1.Pairwise (fun a b => a 0 < b 0) ∧ V.2.1 1 ≤ n ∧ V.2.1 2 ≤ d ∧ V.2.1 3 + ds V.2.2 0 12 ≤ k ∧ V.2.1 4 ≤ 9 ∧ V.2.1 5 ≤ p ∧ V.2.1 6 + V.1.length ≤ V.2.1 1
/-- a state after at most u commands -/
def WfV (u : Nat) (V : kV) : Prop := WfW u (60 * u) (20 + 7500 * u) (360 * u) V
theorem WfW.mono {n d k p n' d' k' p' : Nat} {V : kV} (h : WfW n d k p V) (h1 : n ≤ n') (h2 : d ≤ d') (h3 : k ≤ k') (h4 : p ≤ p') : WfW n' d' k' p' V := by
  obtain ⟨a1, a2, a3, a4, a5, a6, a7, a8, a9⟩ := h
  exact ⟨a1, a2, a3, by omega, by omega, by omega, a7, by omega, a9⟩
theorem WfV.mono {u u' : Nat} {V : kV} (h : WfV u V) (hu : u ≤ u') : WfV u' V := WfW.mono h hu (by omega) (by omega) (by omega)
theorem cAt_mem {L : List (Nat → Nat)} {i : Nat} (h : i < L.length) : cAt L i ∈ L := by
  unfold cAt
  rw [List.getD_eq_getElem?_getD, List.getElem?_eq_getElem h]
  exact List.getElem_mem h
theorem cAt_get {L : List (Nat → Nat)} {i : Nat} (h : i < L.length) : cAt L i = L[i] := by
  unfold cAt
  rw [List.getD_eq_getElem?_getD, List.getElem?_eq_getElem h]
  rfl
theorem cAt_cons_0 (c : Nat → Nat) (L : List (Nat → Nat)) : cAt (c :: L) 0 = c := rfl
theorem cAt_cons_s (c : Nat → Nat) (L : List (Nat → Nat)) (i : Nat) : cAt (c :: L) (i + 1) = cAt L i := rfl
theorem cAt_app {L M : List (Nat → Nat)} {i : Nat} : cAt (L ++ M) i = if i < L.length then cAt L i else cAt M (i - L.length) := by
  unfold cAt
  rw [List.getD_eq_getElem?_getD, List.getElem?_append]
  split <;> rw [List.getD_eq_getElem?_getD]
theorem cAt_erase {L : List (Nat → Nat)} {i j : Nat} : cAt (L.eraseIdx i) j = if j < i then cAt L j else cAt L (j + 1) := by
  unfold cAt
  rw [List.getD_eq_getElem?_getD, List.getElem?_eraseIdx]
  split <;> rw [List.getD_eq_getElem?_getD]
theorem cAt_set {L : List (Nat → Nat)} {i j : Nat} {c : Nat → Nat} (hi : i < L.length) : cAt (L.set i c) j = if j = i then c else cAt L j := by
  unfold cAt
  rw [List.getD_eq_getElem?_getD, List.getElem?_set]
  by_cases e : i = j
  · subst e
    rw [if_pos rfl, if_pos rfl, if_pos hi]
    rfl
  · rw [if_neg e, if_neg (fun h => e h.symm), List.getD_eq_getElem?_getD]
theorem WfW.at {n d k p : Nat} {V : kV} (h : WfW n d k p V) {i : Nat} (hi : i < V.1.length) : WfC (V.2.1 2) (V.2.1 1) (V.2.1 5) (cAt V.1 i) := h.2.1 _ (cAt_mem hi)
theorem WfW.asc {n d k p : Nat} {V : kV} (h : WfW n d k p V) {i j : Nat} (hij : i < j) (hj : j < V.1.length) : cAt V.1 i 0 < cAt V.1 j 0 := by
  rw [cAt_get hj, cAt_get (by omega)]
  exact (List.pairwise_iff_getElem.mp h.2.2.1) i j (by omega) hj hij
/-- the place of the comet with the number x -/
def plV (L : List (Nat → Nat)) (x : Int32) : Option Nat := slotF (fun i => nI (cAt L i 0)) x 0 L.length
theorem plV_lt {L : List (Nat → Nat)} {x : Int32} {i : Nat} (h : plV L x = some i) : i < L.length ∧ nI (cAt L i 0) = x := by
  have := slotF_some h
  exact ⟨by omega, this.2.2⟩
theorem slotF_none {c : Nat → Int32} {x : Int32} : ∀ {n i : Nat}, slotF c x i n = none → ∀ j, i ≤ j → j < i + n → c j ≠ x
  | 0, i, _, j, h1, h2 => by omega
  | n + 1, i, h, j, h1, h2 => by
    unfold slotF at h
    split at h
    · cases h
    · rename_i hne
      rcases Nat.eq_or_lt_of_le h1 with e | e
      · rw [← e]; exact hne
      · exact slotF_none h j e (by omega)
theorem plV_none {L : List (Nat → Nat)} {x : Int32} (h : plV L x = none) {i : Nat} (hi : i < L.length) : nI (cAt L i 0) ≠ x := slotF_none h i (Nat.zero_le _) (by omega)
/-! numbers in a range -/
abbrev rng (x : Int32) (a b : Nat) : Prop := nI a ≤ x ∧ x ≤ nI b
theorem rng_nI {n a b : Nat} (hn : n < 2 ^ 31) (hb : b < 2 ^ 31) (ha : a < 2 ^ 31) : rng (nI n) a b ↔ a ≤ n ∧ n ≤ b := by
  unfold rng
  rw [nI_leI ha hn, nI_leI hn hb]
theorem rng_to {x : Int32} {a b : Nat} (h : rng x a b) (ha : a < 2 ^ 31) (hb : b < 2 ^ 31) : ∃ n, a ≤ n ∧ n ≤ b ∧ x = nI n ∧ x.toNatClampNeg = n := by
  obtain ⟨h1, h2⟩ := h
  have h1' := h1
  rw [Int32.le_iff_toInt_le, nI_toInt ha] at h1'
  obtain ⟨n, hn, rfl⟩ := nI_of (x := x) (fun h3 => by
    rw [Int32.lt_iff_toInt_lt, show (0 : Int32).toInt = 0 from rfl] at h3
    omega)
  exact ⟨n, (nI_leI ha hn).mp h1, (nI_leI hn hb).mp h2, rfl, nI_clamp hn⟩
theorem rng_dec (x : Int32) (a b : Nat) : rng x a b ∨ ¬ rng x a b := Classical.em _
/-! ds -/
theorem ds12 (f : Nat → Nat) : ds f 0 12 = f 0 + f 1 + f 2 + f 3 + f 4 + f 5 + f 6 + f 7 + f 8 + f 9 + f 10 + f 11 := by
  simp [ds]
theorem lt12 {k : Nat} (hk : k < 12) : k = 0 ∨ k = 1 ∨ k = 2 ∨ k = 3 ∨ k = 4 ∨ k = 5 ∨ k = 6 ∨ k = 7 ∨ k = 8 ∨ k = 9 ∨ k = 10 ∨ k = 11 := by omega
theorem ds_upd (f : Nat → Nat) {k : Nat} (hk : k < 12) (v : Nat) : ds (fun j => if j = k then v else f j) 0 12 + f k = ds f 0 12 + v := by
  rw [ds12, ds12]
  rcases lt12 hk with rfl | rfl | rfl | rfl | rfl | rfl | rfl | rfl | rfl | rfl | rfl | rfl <;> simp <;> omega
theorem ds_congr {f g : Nat → Nat} (a : Nat) (h : ∀ j, j < 12 → f j = g j) : ∀ n, ds f a n = ds g a n
  | 0 => rfl
  | n + 1 => by
    unfold ds
    rw [ds_congr a h n, h _ (Nat.mod_lt _ (by decide))]
theorem inArc_lt {a n j : Nat} (h : inArc a n j = true) : ∃ i, i < n ∧ (a + i) % 12 = j := by
  unfold inArc at h
  obtain ⟨i, h1, h2⟩ := List.any_eq_true.mp h
  exact ⟨i, List.mem_range.mp h1, by simpa using h2⟩
theorem ds_vac (f : Nat → Nat) (a : Nat) : ∀ n, n ≤ 12 → ds (fun j => if inArc a n j = true then 0 else f j) 0 12 + ds f a n = ds f 0 12
  | 0, _ => by
    have : (fun j => if inArc a 0 j = true then 0 else f j) = f := funext fun j => if_neg (by rw [inArc_0]; decide)
    rw [this]; rfl
  | n + 1, hn => by
    have ih := ds_vac f a n (by omega)
    have hk : (a + n) % 12 < 12 := Nat.mod_lt _ (by decide)
    have hnot : ¬ inArc a n ((a + n) % 12) = true := fun h => by
      obtain ⟨i, h1, h2⟩ := inArc_lt h
      omega
    have h2 : (fun j => if inArc a n j = true then 0 else f j) ((a + n) % 12) = f ((a + n) % 12) := if_neg hnot
    have e : (fun j => if inArc a (n + 1) j = true then 0 else f j) = (fun j => if j = (a + n) % 12 then 0 else (fun j => if inArc a n j = true then 0 else f j) j) := by
      funext j
      rw [inArc_s]
      by_cases h1 : j = (a + n) % 12
      · rw [if_pos h1, if_pos (by rw [h1]; simp)]
      · rw [if_neg h1]
        have : ((a + n) % 12 == j) = false := by simpa using fun h => h1 h.symm
        rw [this, Bool.or_false]
    rw [e]
    generalize (fun j => if inArc a n j = true then 0 else f j) = F at ih h2
    have h3 := ds_upd F hk 0
    rw [h2] at h3
    show _ + (ds f a n + f ((a + n) % 12)) = _
    omega
theorem ds_le (f : Nat → Nat) (a : Nat) (n : Nat) (hn : n ≤ 12) : ds f a n ≤ ds f 0 12 := by
  have := ds_vac f a n hn
  omega
theorem ds_nI {F : Nat → Int32} {f : Nat → Nat} (h : ∀ j, j < 12 → F j = nI (f j)) (a : Nat) : ∀ n, dSum F a n = nI (ds f a n)
  | 0 => rfl
  | n + 1 => by
    show dSum F a n + F ((a + n) % 12) = nI (ds f a n + f ((a + n) % 12))
    rw [ds_nI h a n, h _ (Nat.mod_lt _ (by decide)), nI_add]
/-! ===== the commands ===== -/
def addV (V : kV) (p d b : Nat) : kV := (V.1 ++ [coN (V.2.1 1) p b (V.2.1 2 + d) 0], updH V.2.1 1 (V.2.1 1 + 1), V.2.2)
def dropV (V : kV) (i : Nat) : kV := (V.1.eraseIdx i, updH V.2.1 3 (V.2.1 3 + cAt V.1 i 2), V.2.2)
def turnV (V : kV) (i p : Nat) : kV := (V.1.set i (updH (cAt V.1 i) 1 p), V.2)
def shineV (V : kV) (i a : Nat) : kV := (V.1.set i (updH (cAt V.1 i) 2 (cAt V.1 i 2 + a)), updH V.2.1 3 (V.2.1 3 - 3 * a), V.2.2)
def rateV (V : kV) (r : Nat) : kV := (V.1, updH V.2.1 4 r, V.2.2)
def vacV (V : kV) (a n : Nat) : kV := (V.1, updH V.2.1 3 (V.2.1 3 + ds V.2.2 a n - V.2.1 4 * n), fun j => if inArc a n j = true then 0 else V.2.2 j)
def pasC (c : Nat → Nat) : Nat → Nat := fun k => if k = 2 then c 2 - 1 else if k = 3 then c 3 + c 1 else if k = 4 then c 4 + 1 else c k
def pasD (d : Nat) (c : Nat → Nat) : Nat → Nat := if c 3 = d then pasC c else c
def passL (d : Nat) (L : List (Nat → Nat)) : List (Nat → Nat) := L.map (pasD d)
def liveL (L : List (Nat → Nat)) : List (Nat → Nat) := L.filter (fun c => decide (c 2 ≠ 0))
def falls (d : Nat) : List (Nat → Nat) → Nat
  | [] => 0
  | c :: L => (if c 3 = d then c 2 else 0) + falls d L
def pcnt (d : Nat) : List (Nat → Nat) → Nat
  | [] => 0
  | c :: L => (if c 3 = d then 1 else 0) + pcnt d L
/-- those of the list pass on day d, none is taken out -/
def pasV (d : Nat) (V : kV) : kV := (passL d V.1, updH V.2.1 5 (V.2.1 5 + pcnt d V.1), fun j => if j = d % 12 then V.2.2 j + falls d V.1 else V.2.2 j)
def burV (V : kV) : kV := (liveL V.1, updH V.2.1 6 (V.2.1 6 + (V.1.length - (liveL V.1).length)), V.2.2)
def nxtV (V : kV) : kV := (V.1, updH V.2.1 2 (V.2.1 2 + 1), V.2.2)
def dayV (V : kV) : kV := burV (pasV (V.2.1 2 + 1) (nxtV V))
def daysV : Nat → kV → kV
  | 0, V => V
  | n + 1, V => daysV n (dayV V)
theorem updH_s (h : Nat → Nat) (k v : Nat) : updH h k v k = v := if_pos rfl
theorem updH_n (h : Nat → Nat) {k j : Nat} (v : Nat) (e : j ≠ k) : updH h k v j = h j := if_neg e
theorem liveL_le (L : List (Nat → Nat)) : (liveL L).length ≤ L.length := List.length_filter_le _ _
theorem passL_len (d : Nat) (L : List (Nat → Nat)) : (passL d L).length = L.length := List.length_map ..
theorem pcnt_le (d : Nat) : ∀ L : List (Nat → Nat), pcnt d L ≤ L.length
  | [] => Nat.le_refl 0
  | c :: L => by
    have := pcnt_le d L
    unfold pcnt
    rw [List.length_cons]
    split <;> omega
theorem pcnt_pos {d : Nat} : ∀ {L : List (Nat → Nat)} {c : Nat → Nat}, c ∈ L → c 3 = d → 1 ≤ pcnt d L
  | x :: L, c, h, hc => by
    unfold pcnt
    rcases List.mem_cons.mp h with rfl | h
    · rw [if_pos hc]; omega
    · have := pcnt_pos h hc; omega
theorem falls_le {d b : Nat} : ∀ {L : List (Nat → Nat)}, (∀ c ∈ L, c 2 ≤ b) → falls d L ≤ b * L.length
  | [], _ => Nat.zero_le _
  | c :: L, h => by
    have h1 := falls_le (d := d) (fun c hc => h c (List.mem_cons_of_mem _ hc))
    have h2 := h c List.mem_cons_self
    unfold falls
    rw [List.length_cons, Nat.mul_add, Nat.mul_one]
    split <;> omega
/-! what holds stays -/
section
variable {n d k p : Nat} {V : kV}
theorem WfW.add (h : WfW n d k p V) {pe de br : Nat} (h1 : 2 ≤ pe ∧ pe ≤ 60) (h2 : 1 ≤ de ∧ de ≤ 60) (h3 : 1 ≤ br ∧ br ≤ 20) (hl : V.1.length < 6) : WfW (n + 1) d k p (addV V pe de br) := by
  obtain ⟨a1, a2, a3, a4, a5, a6, a7, a8, a9⟩ := h
  have e1 : (addV V pe de br).2.1 1 = V.2.1 1 + 1 := rfl
  have e2 : ∀ j, j ≠ 1 → (addV V pe de br).2.1 j = V.2.1 j := fun j hj => if_neg hj
  have el : (addV V pe de br).1.length = V.1.length + 1 := by simp [addV]
  refine ⟨by omega, fun c hc => ?_, ?_, by omega, by rw [e2 2 (by decide)]; exact a5, by rw [e2 3 (by decide)]; exact a6, by rw [e2 4 (by decide)]; exact a7, by rw [e2 5 (by decide)]; exact a8, by rw [e2 6 (by decide)]; omega⟩
  · rw [e1, e2 2 (by decide), e2 5 (by decide)]
    rcases List.mem_append.mp hc with hc | hc
    · obtain ⟨b1, b2, b3, b4, b5, b6, b7, b8⟩ := a2 c hc
      exact ⟨b1, b2, b3, b4, b5, b6, b7, by omega⟩
    · rw [List.mem_singleton.mp hc]
      refine ⟨h1.1, h1.2, h3.1, h3.2, ?_, ?_, Nat.zero_le _, ?_⟩
      · show _ < V.2.1 2 + de; omega
      · show V.2.1 2 + de ≤ _; omega
      · show V.2.1 1 < _; omega
  · show (V.1 ++ [_]).Pairwise _
    rw [List.pairwise_append]
    refine ⟨a3, List.pairwise_singleton .., fun c hc b hb => ?_⟩
    rw [List.mem_singleton.mp hb]
    exact (a2 c hc).2.2.2.2.2.2.2
theorem WfW.sub (h : WfW n d k p V) {L : List (Nat → Nat)} {H : Nat → Nat} {f : Nat → Nat} (hL : L.Sublist V.1) (h1 : H 1 = V.2.1 1) (h2 : H 2 = V.2.1 2) (h3 : H 3 + ds f 0 12 ≤ k) (h4 : H 4 ≤ 9) (h5 : H 5 = V.2.1 5) (h6 : H 6 + L.length ≤ V.2.1 1) : WfW n d k p (L, H, f) := by
  obtain ⟨a1, a2, a3, a4, a5, a6, a7, a8, a9⟩ := h
  refine ⟨Nat.le_trans hL.length_le a1, fun c hc => ?_, a3.sublist hL, by show H 1 ≤ _; omega, by show H 2 ≤ _; omega, h3, h4, by show H 5 ≤ _; omega, by show H 6 + L.length ≤ H 1; omega⟩
  show WfC (H 2) (H 1) (H 5) c
  rw [h1, h2, h5]
  exact a2 c (hL.subset hc)
theorem WfW.drop (h : WfW n d k p V) {i : Nat} (hi : i < V.1.length) : WfW n d (k + 20) p (dropV V i) := by
  have hc := h.at hi
  refine (h.mono (Nat.le_refl _) (Nat.le_refl _) (Nat.le_add_right k 20) (Nat.le_refl _)).sub (List.eraseIdx_sublist ..) rfl rfl ?_ h.2.2.2.2.2.2.1 rfl ?_
  · show V.2.1 3 + cAt V.1 i 2 + _ ≤ _
    have := h.2.2.2.2.2.1
    have := hc.2.2.2.1
    omega
  · show V.2.1 6 + _ ≤ _
    have := h.2.2.2.2.2.2.2.2
    rw [List.length_eraseIdx_of_lt hi]
    omega
theorem WfW.rate (h : WfW n d k p V) {r : Nat} (hr : r ≤ 9) : WfW n d k p (rateV V r) :=
  h.sub (List.Sublist.refl _) rfl rfl h.2.2.2.2.2.1 hr rfl h.2.2.2.2.2.2.2.2
theorem WfW.vac (h : WfW n d k p V) {a b : Nat} (hb : b ≤ 12) : WfW n d k p (vacV V a b) := by
  refine h.sub (List.Sublist.refl _) rfl rfl ?_ h.2.2.2.2.2.2.1 rfl h.2.2.2.2.2.2.2.2
  have h1 := ds_vac V.2.2 a b hb
  have := h.2.2.2.2.2.1
  show V.2.1 3 + ds V.2.2 a b - V.2.1 4 * b + _ ≤ _
  omega
theorem WfW.one (h : WfW n d k p V) {i : Nat} (hi : i < V.1.length) {c : Nat → Nat} (hc : WfC (V.2.1 2) (V.2.1 1) (V.2.1 5) c) (h0 : c 0 = cAt V.1 i 0) {H : Nat → Nat} (h3 : H 3 ≤ V.2.1 3) (hH : ∀ j, j ≠ 3 → H j = V.2.1 j) : WfW n d k p (V.1.set i c, H, V.2.2) := by
  obtain ⟨a1, a2, a3, a4, a5, a6, a7, a8, a9⟩ := h
  have e1 := hH 1 (by decide)
  have e2 := hH 2 (by decide)
  have e4 := hH 4 (by decide)
  have e5 := hH 5 (by decide)
  have e6 := hH 6 (by decide)
  refine ⟨by rw [List.length_set]; exact a1, fun c' hc' => ?_, ?_, by show H 1 ≤ _; omega, by show H 2 ≤ _; omega, (by show H 3 + ds V.2.2 0 12 ≤ k; omega), by show H 4 ≤ _; omega, by show H 5 ≤ _; omega, by show H 6 + (V.1.set i c).length ≤ H 1; rw [List.length_set]; omega⟩
  · show WfC (H 2) (H 1) (H 5) c'
    rw [e1, e2, e5]
    rcases List.mem_or_eq_of_mem_set hc' with h | h
    · exact a2 c' h
    · rw [h]; exact hc
  · show (V.1.set i c).Pairwise _
    rw [List.pairwise_iff_getElem]
    intro x y hx hy hxy
    rw [List.length_set] at hx hy
    have h9 := List.pairwise_iff_getElem.mp a3 x y hx hy hxy
    rw [cAt_get hi] at h0
    rw [List.getElem_set, List.getElem_set]
    by_cases ex : i = x
    · subst ex
      rw [if_pos rfl, if_neg (by omega), h0]; exact h9
    · rw [if_neg ex]
      by_cases ey : i = y
      · subst ey; rw [if_pos rfl, h0]; exact h9
      · rw [if_neg ey]; exact h9
theorem WfW.turn (h : WfW n d k p V) {i : Nat} (hi : i < V.1.length) {q : Nat} (hq : 2 ≤ q ∧ q ≤ 60) : WfW n d k p (turnV V i q) := by
  obtain ⟨b1, b2, b3, b4, b5, b6, b7, b8⟩ := h.at hi
  exact h.one (c := updH (cAt V.1 i) 1 q) hi ⟨hq.1, hq.2, b3, b4, b5, b6, b7, b8⟩ rfl (Nat.le_refl _) (fun _ _ => rfl)
theorem WfW.shine (h : WfW n d k p V) {i : Nat} (hi : i < V.1.length) {a : Nat} (ha : cAt V.1 i 2 + a ≤ 20) : WfW n d k p (shineV V i a) := by
  obtain ⟨b1, b2, b3, b4, b5, b6, b7, b8⟩ := h.at hi
  exact h.one (c := updH (cAt V.1 i) 2 (cAt V.1 i 2 + a)) hi ⟨b1, b2, by show 1 ≤ cAt V.1 i 2 + a; omega, ha, b5, b6, b7, b8⟩ rfl (by show V.2.1 3 - 3 * a ≤ _; omega) (fun j hj => if_neg hj)
theorem WfW.day (h : WfW n d k p V) : WfW n (d + 1) (k + 120) (p + 6) (dayV V) := by
  obtain ⟨a1, a2, a3, a4, a5, a6, a7, a8, a9⟩ := h
  have hd : (dayV V).2.1 2 = V.2.1 2 + 1 := rfl
  have h1 : (dayV V).2.1 1 = V.2.1 1 := rfl
  have h3 : (dayV V).2.1 3 = V.2.1 3 := rfl
  have h4 : (dayV V).2.1 4 = V.2.1 4 := rfl
  have h5 : (dayV V).2.1 5 = V.2.1 5 + pcnt (V.2.1 2 + 1) V.1 := rfl
  have h6 : (dayV V).2.1 6 = V.2.1 6 + ((passL (V.2.1 2 + 1) V.1).length - (liveL (passL (V.2.1 2 + 1) V.1)).length) := rfl
  have hL : (dayV V).1 = liveL (passL (V.2.1 2 + 1) V.1) := rfl
  have hf : (dayV V).2.2 = fun j => if j = (V.2.1 2 + 1) % 12 then V.2.2 j + falls (V.2.1 2 + 1) V.1 else V.2.2 j := rfl
  have hpc := pcnt_le (V.2.1 2 + 1) V.1
  have hll := liveL_le (passL (V.2.1 2 + 1) V.1)
  have hpl := passL_len (V.2.1 2 + 1) V.1
  have hfl := falls_le (d := V.2.1 2 + 1) (fun c hc => (a2 c hc).2.2.2.1)
  have hds : ds (dayV V).2.2 0 12 = ds V.2.2 0 12 + falls (V.2.1 2 + 1) V.1 := by
    have h9 := ds_upd V.2.2 (k := (V.2.1 2 + 1) % 12) (Nat.mod_lt _ (by decide)) (V.2.2 ((V.2.1 2 + 1) % 12) + falls (V.2.1 2 + 1) V.1)
    have e : (fun j => if j = (V.2.1 2 + 1) % 12 then V.2.2 ((V.2.1 2 + 1) % 12) + falls (V.2.1 2 + 1) V.1 else V.2.2 j) = (dayV V).2.2 := by
      rw [hf]
      funext j
      by_cases e : j = (V.2.1 2 + 1) % 12
      · rw [if_pos e, if_pos e, e]
      · rw [if_neg e, if_neg e]
    rw [e] at h9
    omega
  refine ⟨by rw [hL]; omega, fun c hc => ?_, ?_, by omega, by omega, ?_, by omega, by omega, by rw [h6, h1, hL]; omega⟩
  · rw [hd, h1, h5]
    rw [hL] at hc
    obtain ⟨hc, hne⟩ := List.mem_filter.mp hc
    obtain ⟨c0, hc0, rfl⟩ := List.mem_map.mp hc
    have hne : pasD (V.2.1 2 + 1) c0 2 ≠ 0 := of_decide_eq_true hne
    obtain ⟨b1, b2, b3, b4, b5, b6, b7, b8⟩ := a2 c0 hc0
    unfold pasD at hne ⊢
    by_cases e : c0 3 = V.2.1 2 + 1
    · rw [if_pos e] at hne ⊢
      have hp := pcnt_pos hc0 e
      have hne : c0 2 - 1 ≠ 0 := hne
      exact ⟨b1, b2, by show 1 ≤ c0 2 - 1; omega, by show c0 2 - 1 ≤ 20; omega, by show _ < c0 3 + c0 1; omega, by show c0 3 + c0 1 ≤ _; omega, by show c0 4 + 1 ≤ _; omega, b8⟩
    · rw [if_neg e]
      exact ⟨b1, b2, b3, b4, by omega, by omega, by omega, b8⟩
  · rw [hL]
    refine List.Pairwise.filter _ ?_
    unfold passL
    rw [List.pairwise_map]
    refine a3.imp (fun {a b} hab => ?_)
    have e : ∀ c : Nat → Nat, pasD (V.2.1 2 + 1) c 0 = c 0 := fun c => by unfold pasD; split <;> rfl
    rw [e, e]
    exact hab
  · rw [h3, hds]
    have : 20 * V.1.length ≤ 120 := by omega
    omega
theorem WfW.days : ∀ (m : Nat) {n d k p : Nat} {V : kV}, WfW n d k p V → WfW n (d + m) (k + 120 * m) (p + 6 * m) (daysV m V)
  | 0, _, _, _, _, _, h => h
  | m + 1, _, _, _, _, _, h => (WfW.days m h.day).mono (Nat.le_refl _) (by omega) (by omega) (by omega)
end
