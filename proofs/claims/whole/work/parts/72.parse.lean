/-! ===== both sides alike: programs are read alike ===== -/
theorem sg_iff {tx : Nat → Int32} {n p : Nat} {c : Int32} (hc : c ≠ -1) : (p < n ∧ tx p = c) ↔ sgM tx n p = c := by
  unfold sgM
  constructor
  · rintro ⟨h1, h2⟩
    rw [if_pos h1]; exact h2
  · intro h
    by_cases h1 : p < n
    · rw [if_pos h1] at h; exact ⟨h1, h⟩
    · rw [if_neg h1] at h; exact absurd h.symm hc
theorem mS_y {tx : Nat → Int32} {n p : Nat} {c : Int32} {r : List Int32} (hc : c ≠ -1) (h : sgM tx n p = c) : mS tx n p (c :: r) = mS tx n (p + 1) r + 1 := by
  conv => lhs; unfold mS
  exact if_pos ((sg_iff hc).mpr h)
theorem mS_n {tx : Nat → Int32} {n p : Nat} {c : Int32} {r : List Int32} (hc : c ≠ -1) (h : ¬ sgM tx n p = c) : mS tx n p (c :: r) = 0 := by
  conv => lhs; unfold mS
  exact if_neg (fun q => h ((sg_iff hc).mp q))
theorem wordM_er {tx : Nat → Int32} {n h e : Nat} : ∀ l : List Int32, wordM tx n l (h, some e) = (h, some e)
  | [] => rfl
  | _ :: l => wordM_er l
theorem wordM_is {tx : Nat → Int32} {n : Nat} : ∀ (l : List Int32) (h : Nat), (∀ c ∈ l, c ≠ -1) → wordM tx n l (h, none) = if mS tx n h l = l.length then (h + l.length, none) else (h + mS tx n h l, some (h + mS tx n h l))
  | [], h, _ => rfl
  | c :: l, h, hc => by
    have hc0 : c ≠ -1 := hc c List.mem_cons_self
    show wordM tx n l (needM tx n c (h, none)) = _
    by_cases e : sgM tx n h = c
    · rw [needM_y e, wordM_is l (h + 1) (fun x hx => hc x (List.mem_cons_of_mem _ hx)), mS_y hc0 e, List.length_cons]
      by_cases e2 : mS tx n (h + 1) l = l.length
      · rw [if_pos e2, if_pos (by omega), show h + 1 + l.length = h + (l.length + 1) by omega]
      · rw [if_neg e2, if_neg (by omega), show h + 1 + mS tx n (h + 1) l = h + (mS tx n (h + 1) l + 1) by omega]
    · rw [needM_n e, wordM_er, mS_n hc0 e, List.length_cons, if_neg (by omega), Nat.add_zero]
theorem wordM_sp {tx : Nat → Int32} {n : Nat} (l : List Int32) (s : kP2) : needM tx n 32 (wordM tx n l s) = wordM tx n (l ++ [32]) s := by
  unfold wordM
  rw [List.foldl_append]
  rfl
theorem numsM_er {tx : Nat → Int32} {n h e : Nat} : ∀ k, (numsM tx n k (h, some e)).2 = (h, some e)
  | 0 => rfl
  | k + 1 => by
    have h1 : numM tx n 2 (h, some e) = (0, h, some e) := numM_e (congrArg Prod.snd needM_e)
    show (numsM tx n k (numM tx n 2 (h, some e)).2).2 = _
    rw [h1]
    exact numsM_er k
theorem rN_step {tx : Nat → Int32} {n d p : Nat} {v : Int32} (hd : digA tx n p = true) (h1 : 1 ≤ d) : p + 1 ≤ (rN tx n d p v).2 ∧ (rN tx n d p v).2 ≤ n := by
  obtain ⟨d', rfl⟩ : ∃ d', d = d' + 1 := ⟨d - 1, by omega⟩
  rw [rN_y hd]
  exact rN_le d' (p + 1) _ (digA_lt hd)
/-- what the two ways to read numbers have in common -/
def SamN (n : Nat) (r : Bool × Nat × (Nat → Int32)) (s : List Int32 × kP2) (k i p : Nat) (f : Nat → Int32) : Prop :=
  (r.1 = true → s.2 = (r.2.1, none) ∧ p ≤ r.2.1 ∧ r.2.1 ≤ n ∧ (∀ j, j < i → r.2.2 j = f j) ∧ (∀ j, j < k → r.2.2 (i + j) = s.1.getD j 0) ∧ ∀ j, i + k ≤ j → r.2.2 j = f j) ∧ (r.1 = false → s.2.2 = some r.2.1)
theorem SamN.err {n : Nat} {s : List Int32 × kP2} {k i p e : Nat} {f g : Nat → Int32} (h : s.2.2 = some e) : SamN n (false, e, g) s k i p f := ⟨fun q => (nomatch q), fun _ => h⟩
/-- one number is read, the others follow -/
theorem SamN.step {n : Nat} {r : Bool × Nat × (Nat → Int32)} {t : List Int32 × kP2} {k i p p' : Nat} {f : Nat → Int32} {v : Int32} (h : SamN n r t k (i + 1) p' (fun j => if j = i then v else f j)) (hp : p ≤ p') : SamN n r (v :: t.1, t.2) (k + 1) i p f := by
  refine ⟨fun hr => ?_, h.2⟩
  obtain ⟨a1, a2, a3, a4, a5, a6⟩ := h.1 hr
  have a4 : ∀ j, j < i + 1 → r.2.2 j = if j = i then v else f j := a4
  have a6 : ∀ j, i + 1 + k ≤ j → r.2.2 j = if j = i then v else f j := a6
  refine ⟨a1, by omega, a3, fun j hj => ?_, fun j hj => ?_, fun j hj => ?_⟩
  · rw [a4 j (by omega), if_neg (by omega)]
  · rcases j with _ | j
    · rw [Nat.add_zero, a4 i (by omega), if_pos rfl]; rfl
    · have := a5 j (by omega)
      rw [show i + (j + 1) = i + 1 + j by omega, this]; rfl
  · rw [a6 j (by omega), if_neg (by omega)]
theorem nums_N {tx : Nat → Int32} {n : Nat} : ∀ (k i p : Nat) (f : Nat → Int32), 0 < i → p ≤ n → SamN n (rNs tx n 2 k i p f) (numsM tx n k (p, none)) k i p f
  | 0, i, p, f, _, hp => ⟨fun _ => ⟨rfl, Nat.le_refl _, hp, fun _ _ => rfl, fun j hj => absurd hj (Nat.not_lt_zero j), fun _ _ => rfl⟩, fun q => (nomatch q)⟩
  | k + 1, i, p, f, hi, hp => by
    have es : numsM tx n (k + 1) (p, none) = ((numM tx n 2 (p, none)).1 :: (numsM tx n k (numM tx n 2 (p, none)).2).1, (numsM tx n k (numM tx n 2 (p, none)).2).2) := rfl
    rw [es]
    unfold rNs
    by_cases hsp : sgM tx n p = 32
    · have hsp2 : p < n ∧ tx p = 32 := (sg_iff (by decide)).mpr hsp
      rw [if_neg (fun q => q.2 hsp2), if_pos hi]
      by_cases hd : digA tx n (p + 1) = true
      · have e1 : numM tx n 2 (p, none) = ((rN tx n 2 (p + 1) 0).1, (rN tx n 2 (p + 1) 0).2, none) := by
          rw [numM_s (by rw [needM_y hsp]), needM_y hsp, if_pos hd]
        rw [if_pos hd, e1]
        have hr := rN_step (v := 0) hd (show 1 ≤ 2 by decide)
        exact (nums_N k (i + 1) _ _ (by omega) hr.2).step (by omega)
      · have e1 : numM tx n 2 (p, none) = (0, p + 1, some (p + 1)) := by
          rw [numM_s (by rw [needM_y hsp]), needM_y hsp, if_neg hd]
        rw [if_neg hd, e1]
        exact SamN.err (congrArg Prod.snd (numsM_er k))
    · have hsp2 : ¬ (p < n ∧ tx p = 32) := fun q => hsp ((sg_iff (by decide)).mp q)
      rw [if_pos ⟨hi, hsp2⟩]
      have e1 : numM tx n 2 (p, none) = (0, p, some p) := by
        rw [numM_e (e := p) (by rw [needM_n hsp]), needM_n hsp]
      rw [e1]
      exact SamN.err (congrArg Prod.snd (numsM_er k))
/-- the numbers behind a word; the first one's space is the word's last sign -/
theorem nums_F {tx : Nat → Int32} {n k q : Nat} {S : kP2} {f : Nat → Int32} (hq : q ≤ n) (hS : needM tx n 32 S = (q, none)) : SamN n (rNs tx n 2 (k + 1) 0 q f) (numsM tx n (k + 1) S) (k + 1) 0 q f ∧ ((rNs tx n 2 (k + 1) 0 q f).1 = true → q + 1 ≤ (rNs tx n 2 (k + 1) 0 q f).2.1) := by
  have es : numsM tx n (k + 1) S = ((numM tx n 2 S).1 :: (numsM tx n k (numM tx n 2 S).2).1, (numsM tx n k (numM tx n 2 S).2).2) := rfl
  rw [es]
  unfold rNs
  rw [if_neg (fun h => absurd h.1 (Nat.lt_irrefl 0)), if_neg (Nat.lt_irrefl 0)]
  by_cases hd : digA tx n q = true
  · have e1 : numM tx n 2 S = ((rN tx n 2 q 0).1, (rN tx n 2 q 0).2, none) := by
      rw [numM_s (by rw [hS]), hS, if_pos hd]
    have hr := rN_step (v := 0) hd (show 1 ≤ 2 by decide)
    have h9 := nums_N (tx := tx) (n := n) k (0 + 1) (rN tx n 2 q 0).2 (fun j => if j = 0 then (rN tx n 2 q 0).1 else f j) (by decide) hr.2
    rw [if_pos hd, e1]
    refine ⟨h9.step (by omega), fun h => ?_⟩
    have := (h9.1 h).2.1
    omega
  · have e1 : numM tx n 2 S = (0, q, some q) := by
      rw [numM_s (by rw [hS]), hS, if_neg hd]
    rw [if_neg hd, e1]
    exact ⟨SamN.err (congrArg Prod.snd (numsM_er k)), fun h => (nomatch h)⟩
/-- what the two ways to read a command have in common -/
def SamC (n p : Nat) (r : Bool × Nat × Nat × (Nat → Int32)) (s : Int32 × List Int32 × kP2) : Prop := (r.1 = true → s.2.2 = (r.2.1, none) ∧ p + 5 ≤ r.2.1 ∧ r.2.1 ≤ n ∧ ∀ V, dCm V (s.1, s.2.1) = cC V (r.2.2.1, r.2.2.2)) ∧ (r.1 = false → s.2.2.2 = some r.2.1)
theorem getD_out {l : List Int32} {j : Nat} (h : l.length ≤ j) : l.getD j 0 = 0 := by
  rw [List.getD_eq_getElem?_getD, List.getElem?_eq_none h]; rfl
theorem com_K {tx : Nat → Int32} {n p k id : Nat} {code : Int32} {l : List Int32} (hp : p < n) (hl : ∀ c ∈ l ++ [32], c ≠ -1) (hlen : 3 ≤ (l ++ [32]).length) (hd : dOf id = 2) (hn : nOf id = k + 1) (hC : ∀ V a b c, dC V code a b c = cCmd V id a b c)
    (hW : rW tx n p 7 0 0 = if mS tx n (p + 1) (l ++ [32]) = (l ++ [32]).length then (some id, p + 1 + (l ++ [32]).length) else (none, p + 1 + mS tx n (p + 1) (l ++ [32]))) :
    SamC n p (rCm tx n p) (code, numsM tx n (k + 1) (wordM tx n l (p + 1, none))) := by
  have hwm := wordM_is (tx := tx) (n := n) (l ++ [32]) (p + 1) hl
  have hS := wordM_sp (tx := tx) (n := n) l (p + 1, none)
  have hle := mS_le tx n (l ++ [32]) (p + 1) (by omega)
  by_cases e : mS tx n (p + 1) (l ++ [32]) = (l ++ [32]).length
  · rw [if_pos e] at hW hwm
    have er : rCm tx n p = ((rNs tx n 2 (k + 1) 0 (p + 1 + (l ++ [32]).length) (fun _ => 0)).1, (rNs tx n 2 (k + 1) 0 (p + 1 + (l ++ [32]).length) (fun _ => 0)).2.1, id, (rNs tx n 2 (k + 1) 0 (p + 1 + (l ++ [32]).length) (fun _ => 0)).2.2) := by
      unfold rCm
      rw [hW]
      show ((rNs tx n (dOf id) (nOf id) 0 _ _).1, (rNs tx n (dOf id) (nOf id) 0 _ _).2.1, id, (rNs tx n (dOf id) (nOf id) 0 _ _).2.2) = _
      rw [hd, hn]
    obtain ⟨⟨h1, h2⟩, h3⟩ := nums_F (k := k) (f := fun _ => 0) (by omega) (hS.trans hwm)
    have hlenN := numsM_len tx n (k + 1) (wordM tx n l (p + 1, none))
    rw [er]
    generalize rNs tx n 2 (k + 1) 0 (p + 1 + (l ++ [32]).length) (fun _ => 0) = R at h1 h2 h3 ⊢
    generalize numsM tx n (k + 1) (wordM tx n l (p + 1, none)) = N at h1 h2 hlenN ⊢
    refine ⟨fun hr => ?_, h2⟩
    obtain ⟨a1, a2, a3, a4, a5, a6⟩ := h1 hr
    have h4 := h3 hr
    refine ⟨a1, by show p + 5 ≤ R.2.1; omega, a3, fun V => ?_⟩
    have hv : ∀ j, N.1.getD j 0 = R.2.2 j := fun j => by
      by_cases hj : j < k + 1
      · have := a5 j hj
        rw [Nat.zero_add] at this
        exact this.symm
      · rw [a6 j (by omega), getD_out (by omega)]
    show dC V code (N.1.getD 0 0) (N.1.getD 1 0) (N.1.getD 2 0) = cCmd V id (R.2.2 0) (R.2.2 1) (R.2.2 2)
    rw [hv, hv, hv, hC]
  · rw [if_neg e] at hW hwm
    have er : rCm tx n p = (false, p + 1 + mS tx n (p + 1) (l ++ [32]), 0, fun _ => 0) := by
      unfold rCm
      rw [hW]
    rw [er]
    refine ⟨fun h => (nomatch h), fun _ => ?_⟩
    have e1 : numM tx n 2 (wordM tx n l (p + 1, none)) = (0, p + 1 + mS tx n (p + 1) (l ++ [32]), some (p + 1 + mS tx n (p + 1) (l ++ [32]))) := by
      rw [numM_e (e := p + 1 + mS tx n (p + 1) (l ++ [32])) (by rw [hS, hwm]), hS, hwm]
    show (numsM tx n k (numM tx n 2 (wordM tx n l (p + 1, none))).2).2.2 = _
    rw [e1]
    exact congrArg Prod.snd (numsM_er k)
theorem com_R {tx : Nat → Int32} {n p : Nat} {l : List Int32} (hp : p < n) (hl : ∀ c ∈ l ++ [32], c ≠ -1) (hlen : 3 ≤ (l ++ [32]).length)
    (hW : rW tx n p 7 0 0 = if mS tx n (p + 1) (l ++ [32]) = (l ++ [32]).length then (some 6, p + 1 + (l ++ [32]).length) else (none, p + 1 + mS tx n (p + 1) (l ++ [32]))) :
    SamC n p (rCm tx n p) (114, [(numM tx n 1 (wordM tx n l (p + 1, none))).1], (numM tx n 1 (wordM tx n l (p + 1, none))).2) := by
  have hwm := wordM_is (tx := tx) (n := n) (l ++ [32]) (p + 1) hl
  have hS := wordM_sp (tx := tx) (n := n) l (p + 1, none)
  have hle := mS_le tx n (l ++ [32]) (p + 1) (by omega)
  by_cases e : mS tx n (p + 1) (l ++ [32]) = (l ++ [32]).length
  · rw [if_pos e] at hW hwm
    obtain ⟨q, hq⟩ : ∃ q, p + 1 + (l ++ [32]).length = q := ⟨_, rfl⟩
    rw [hq] at hW hwm
    have er : rCm tx n p = ((rNs tx n 1 1 0 q (fun _ => 0)).1, (rNs tx n 1 1 0 q (fun _ => 0)).2.1, 6, (rNs tx n 1 1 0 q (fun _ => 0)).2.2) := by
      unfold rCm
      rw [hW]
      rfl
    by_cases hd : digA tx n q = true
    · have e1 : numM tx n 1 (wordM tx n l (p + 1, none)) = ((rN tx n 1 q 0).1, (rN tx n 1 q 0).2, none) := by
        rw [numM_s (by rw [hS, hwm]), hS, hwm, if_pos hd]
      have e2 : rNs tx n 1 1 0 q (fun _ => 0) = (true, (rN tx n 1 q 0).2, fun j => if j = 0 then (rN tx n 1 q 0).1 else 0) := by
        unfold rNs
        rw [if_neg (fun h => absurd h.1 (Nat.lt_irrefl 0)), if_neg (Nat.lt_irrefl 0), if_pos hd]
        rfl
      have hr := rN_step (v := 0) hd (show 1 ≤ 1 by decide)
      rw [er, e1, e2]
      exact ⟨fun _ => ⟨rfl, by show p + 5 ≤ (rN tx n 1 q 0).2; omega, hr.2, fun V => rfl⟩, fun h => (nomatch h)⟩
    · have e1 : numM tx n 1 (wordM tx n l (p + 1, none)) = (0, q, some q) := by
        rw [numM_s (by rw [hS, hwm]), hS, hwm, if_neg hd]
      have e2 : rNs tx n 1 1 0 q (fun _ => 0) = (false, q, fun _ => 0) := by
        unfold rNs
        rw [if_neg (fun h => absurd h.1 (Nat.lt_irrefl 0)), if_neg (Nat.lt_irrefl 0), if_neg hd]
      rw [er, e1, e2]
      exact ⟨fun h => (nomatch h), fun _ => rfl⟩
  · rw [if_neg e] at hW hwm
    have er : rCm tx n p = (false, p + 1 + mS tx n (p + 1) (l ++ [32]), 0, fun _ => 0) := by
      unfold rCm
      rw [hW]
    have e1 : numM tx n 1 (wordM tx n l (p + 1, none)) = (0, p + 1 + mS tx n (p + 1) (l ++ [32]), some (p + 1 + mS tx n (p + 1) (l ++ [32]))) := by
      rw [numM_e (e := p + 1 + mS tx n (p + 1) (l ++ [32])) (by rw [hS, hwm]), hS, hwm]
    rw [er, e1]
    exact ⟨fun h => (nomatch h), fun _ => rfl⟩
theorem rW_7 (tx : Nat → Int32) (n p : Nat) : rW tx n p 7 0 0 = if mS tx n p [99, 111, 109, 101, 116, 32] = 6 then (some 0, p + mS tx n p [99, 111, 109, 101, 116, 32]) else if mS tx n p [100, 114, 111, 112, 32] = 5 then (some 1, p + mS tx n p [100, 114, 111, 112, 32]) else if mS tx n p [116, 117, 114, 110, 32] = 5 then (some 2, p + mS tx n p [116, 117, 114, 110, 32]) else if mS tx n p [115, 104, 105, 110, 101, 32] = 6 then (some 3, p + mS tx n p [115, 104, 105, 110, 101, 32]) else if mS tx n p [100, 97, 121, 32] = 4 then (some 4, p + mS tx n p [100, 97, 121, 32]) else if mS tx n p [118, 97, 99, 32] = 4 then (some 5, p + mS tx n p [118, 97, 99, 32]) else if mS tx n p [114, 97, 116, 101, 32] = 5 then (some 6, p + mS tx n p [114, 97, 116, 101, 32]) else (none, p + (max (max (max (max (max (max (max 0 (mS tx n p [99, 111, 109, 101, 116, 32])) (mS tx n p [100, 114, 111, 112, 32])) (mS tx n p [116, 117, 114, 110, 32])) (mS tx n p [115, 104, 105, 110, 101, 32])) (mS tx n p [100, 97, 121, 32])) (mS tx n p [118, 97, 99, 32])) (mS tx n p [114, 97, 116, 101, 32]))) := rfl
theorem rW_w0 {tx : Nat → Int32} {n p : Nat} (h : sgM tx n p = 99) : rW tx n p 7 0 0 = if mS tx n (p + 1) [111, 109, 101, 116, 32] = 5 then (some 0, p + 1 + 5) else (none, p + 1 + mS tx n (p + 1) [111, 109, 101, 116, 32]) := by
  have a0 : mS tx n p [99, 111, 109, 101, 116, 32] = mS tx n (p + 1) [111, 109, 101, 116, 32] + 1 := mS_y (by decide) h
  have a1 : mS tx n p [100, 114, 111, 112, 32] = 0 := mS_n (by decide) (by rw [h]; decide)
  have a2 : mS tx n p [116, 117, 114, 110, 32] = 0 := mS_n (by decide) (by rw [h]; decide)
  have a3 : mS tx n p [115, 104, 105, 110, 101, 32] = 0 := mS_n (by decide) (by rw [h]; decide)
  have a4 : mS tx n p [100, 97, 121, 32] = 0 := mS_n (by decide) (by rw [h]; decide)
  have a5 : mS tx n p [118, 97, 99, 32] = 0 := mS_n (by decide) (by rw [h]; decide)
  have a6 : mS tx n p [114, 97, 116, 101, 32] = 0 := mS_n (by decide) (by rw [h]; decide)
  rw [rW_7, a0, a1, a2, a3, a4, a5, a6]
  generalize mS tx n (p + 1) [111, 109, 101, 116, 32] = z
  by_cases e : z = 5
  · rw [if_pos (by omega), if_pos e, e, Nat.add_assoc, Nat.add_comm 1 5]
  · rw [if_neg (by omega), if_neg (by decide), if_neg (by decide), if_neg (by decide), if_neg (by decide), if_neg (by decide), if_neg (by decide), if_neg e]
    exact congrArg (Prod.mk none) (by omega)
theorem rW_w1 {tx : Nat → Int32} {n p : Nat} (h : sgM tx n p = 100) (h2 : ¬ sgM tx n (p + 1) = 97) : rW tx n p 7 0 0 = if mS tx n (p + 1) [114, 111, 112, 32] = 4 then (some 1, p + 1 + 4) else (none, p + 1 + mS tx n (p + 1) [114, 111, 112, 32]) := by
  have a0 : mS tx n p [99, 111, 109, 101, 116, 32] = 0 := mS_n (by decide) (by rw [h]; decide)
  have a1 : mS tx n p [100, 114, 111, 112, 32] = mS tx n (p + 1) [114, 111, 112, 32] + 1 := mS_y (by decide) h
  have a2 : mS tx n p [116, 117, 114, 110, 32] = 0 := mS_n (by decide) (by rw [h]; decide)
  have a3 : mS tx n p [115, 104, 105, 110, 101, 32] = 0 := mS_n (by decide) (by rw [h]; decide)
  have a4 : mS tx n p [100, 97, 121, 32] = 1 := by rw [mS_y (by decide) h, mS_n (by decide) h2]
  have a5 : mS tx n p [118, 97, 99, 32] = 0 := mS_n (by decide) (by rw [h]; decide)
  have a6 : mS tx n p [114, 97, 116, 101, 32] = 0 := mS_n (by decide) (by rw [h]; decide)
  rw [rW_7, a0, a1, a2, a3, a4, a5, a6]
  generalize mS tx n (p + 1) [114, 111, 112, 32] = z
  by_cases e : z = 4
  · rw [if_neg (by decide), if_pos (by omega), if_pos e, e, Nat.add_assoc, Nat.add_comm 1 4]
  · rw [if_neg (by decide), if_neg (by omega), if_neg (by decide), if_neg (by decide), if_neg (by decide), if_neg (by decide), if_neg (by decide), if_neg e]
    exact congrArg (Prod.mk none) (by omega)
theorem rW_w2 {tx : Nat → Int32} {n p : Nat} (h : sgM tx n p = 116) : rW tx n p 7 0 0 = if mS tx n (p + 1) [117, 114, 110, 32] = 4 then (some 2, p + 1 + 4) else (none, p + 1 + mS tx n (p + 1) [117, 114, 110, 32]) := by
  have a0 : mS tx n p [99, 111, 109, 101, 116, 32] = 0 := mS_n (by decide) (by rw [h]; decide)
  have a1 : mS tx n p [100, 114, 111, 112, 32] = 0 := mS_n (by decide) (by rw [h]; decide)
  have a2 : mS tx n p [116, 117, 114, 110, 32] = mS tx n (p + 1) [117, 114, 110, 32] + 1 := mS_y (by decide) h
  have a3 : mS tx n p [115, 104, 105, 110, 101, 32] = 0 := mS_n (by decide) (by rw [h]; decide)
  have a4 : mS tx n p [100, 97, 121, 32] = 0 := mS_n (by decide) (by rw [h]; decide)
  have a5 : mS tx n p [118, 97, 99, 32] = 0 := mS_n (by decide) (by rw [h]; decide)
  have a6 : mS tx n p [114, 97, 116, 101, 32] = 0 := mS_n (by decide) (by rw [h]; decide)
  rw [rW_7, a0, a1, a2, a3, a4, a5, a6]
  generalize mS tx n (p + 1) [117, 114, 110, 32] = z
  by_cases e : z = 4
  · rw [if_neg (by decide), if_neg (by decide), if_pos (by omega), if_pos e, e, Nat.add_assoc, Nat.add_comm 1 4]
  · rw [if_neg (by decide), if_neg (by decide), if_neg (by omega), if_neg (by decide), if_neg (by decide), if_neg (by decide), if_neg (by decide), if_neg e]
    exact congrArg (Prod.mk none) (by omega)
theorem rW_w3 {tx : Nat → Int32} {n p : Nat} (h : sgM tx n p = 115) : rW tx n p 7 0 0 = if mS tx n (p + 1) [104, 105, 110, 101, 32] = 5 then (some 3, p + 1 + 5) else (none, p + 1 + mS tx n (p + 1) [104, 105, 110, 101, 32]) := by
  have a0 : mS tx n p [99, 111, 109, 101, 116, 32] = 0 := mS_n (by decide) (by rw [h]; decide)
  have a1 : mS tx n p [100, 114, 111, 112, 32] = 0 := mS_n (by decide) (by rw [h]; decide)
  have a2 : mS tx n p [116, 117, 114, 110, 32] = 0 := mS_n (by decide) (by rw [h]; decide)
  have a3 : mS tx n p [115, 104, 105, 110, 101, 32] = mS tx n (p + 1) [104, 105, 110, 101, 32] + 1 := mS_y (by decide) h
  have a4 : mS tx n p [100, 97, 121, 32] = 0 := mS_n (by decide) (by rw [h]; decide)
  have a5 : mS tx n p [118, 97, 99, 32] = 0 := mS_n (by decide) (by rw [h]; decide)
  have a6 : mS tx n p [114, 97, 116, 101, 32] = 0 := mS_n (by decide) (by rw [h]; decide)
  rw [rW_7, a0, a1, a2, a3, a4, a5, a6]
  generalize mS tx n (p + 1) [104, 105, 110, 101, 32] = z
  by_cases e : z = 5
  · rw [if_neg (by decide), if_neg (by decide), if_neg (by decide), if_pos (by omega), if_pos e, e, Nat.add_assoc, Nat.add_comm 1 5]
  · rw [if_neg (by decide), if_neg (by decide), if_neg (by decide), if_neg (by omega), if_neg (by decide), if_neg (by decide), if_neg (by decide), if_neg e]
    exact congrArg (Prod.mk none) (by omega)
theorem rW_w4 {tx : Nat → Int32} {n p : Nat} (h : sgM tx n p = 100) (h2 : sgM tx n (p + 1) = 97) : rW tx n p 7 0 0 = if mS tx n (p + 1) [97, 121, 32] = 3 then (some 4, p + 1 + 3) else (none, p + 1 + mS tx n (p + 1) [97, 121, 32]) := by
  have a0 : mS tx n p [99, 111, 109, 101, 116, 32] = 0 := mS_n (by decide) (by rw [h]; decide)
  have a1 : mS tx n p [100, 114, 111, 112, 32] = 1 := by rw [mS_y (by decide) h, mS_n (by decide) (by rw [h2]; decide)]
  have b4 : 1 ≤ mS tx n (p + 1) [97, 121, 32] := by rw [mS_y (by decide) h2]; omega
  have a2 : mS tx n p [116, 117, 114, 110, 32] = 0 := mS_n (by decide) (by rw [h]; decide)
  have a3 : mS tx n p [115, 104, 105, 110, 101, 32] = 0 := mS_n (by decide) (by rw [h]; decide)
  have a4 : mS tx n p [100, 97, 121, 32] = mS tx n (p + 1) [97, 121, 32] + 1 := mS_y (by decide) h
  have a5 : mS tx n p [118, 97, 99, 32] = 0 := mS_n (by decide) (by rw [h]; decide)
  have a6 : mS tx n p [114, 97, 116, 101, 32] = 0 := mS_n (by decide) (by rw [h]; decide)
  rw [rW_7, a0, a1, a2, a3, a4, a5, a6]
  generalize mS tx n (p + 1) [97, 121, 32] = z at b4 ⊢
  by_cases e : z = 3
  · rw [if_neg (by decide), if_neg (by decide), if_neg (by decide), if_neg (by decide), if_pos (by omega), if_pos e, e, Nat.add_assoc, Nat.add_comm 1 3]
  · rw [if_neg (by decide), if_neg (by decide), if_neg (by decide), if_neg (by decide), if_neg (by omega), if_neg (by decide), if_neg (by decide), if_neg e]
    exact congrArg (Prod.mk none) (by omega)
theorem rW_w5 {tx : Nat → Int32} {n p : Nat} (h : sgM tx n p = 118) : rW tx n p 7 0 0 = if mS tx n (p + 1) [97, 99, 32] = 3 then (some 5, p + 1 + 3) else (none, p + 1 + mS tx n (p + 1) [97, 99, 32]) := by
  have a0 : mS tx n p [99, 111, 109, 101, 116, 32] = 0 := mS_n (by decide) (by rw [h]; decide)
  have a1 : mS tx n p [100, 114, 111, 112, 32] = 0 := mS_n (by decide) (by rw [h]; decide)
  have a2 : mS tx n p [116, 117, 114, 110, 32] = 0 := mS_n (by decide) (by rw [h]; decide)
  have a3 : mS tx n p [115, 104, 105, 110, 101, 32] = 0 := mS_n (by decide) (by rw [h]; decide)
  have a4 : mS tx n p [100, 97, 121, 32] = 0 := mS_n (by decide) (by rw [h]; decide)
  have a5 : mS tx n p [118, 97, 99, 32] = mS tx n (p + 1) [97, 99, 32] + 1 := mS_y (by decide) h
  have a6 : mS tx n p [114, 97, 116, 101, 32] = 0 := mS_n (by decide) (by rw [h]; decide)
  rw [rW_7, a0, a1, a2, a3, a4, a5, a6]
  generalize mS tx n (p + 1) [97, 99, 32] = z
  by_cases e : z = 3
  · rw [if_neg (by decide), if_neg (by decide), if_neg (by decide), if_neg (by decide), if_neg (by decide), if_pos (by omega), if_pos e, e, Nat.add_assoc, Nat.add_comm 1 3]
  · rw [if_neg (by decide), if_neg (by decide), if_neg (by decide), if_neg (by decide), if_neg (by decide), if_neg (by omega), if_neg (by decide), if_neg e]
    exact congrArg (Prod.mk none) (by omega)
theorem rW_w6 {tx : Nat → Int32} {n p : Nat} (h : sgM tx n p = 114) : rW tx n p 7 0 0 = if mS tx n (p + 1) [97, 116, 101, 32] = 4 then (some 6, p + 1 + 4) else (none, p + 1 + mS tx n (p + 1) [97, 116, 101, 32]) := by
  have a0 : mS tx n p [99, 111, 109, 101, 116, 32] = 0 := mS_n (by decide) (by rw [h]; decide)
  have a1 : mS tx n p [100, 114, 111, 112, 32] = 0 := mS_n (by decide) (by rw [h]; decide)
  have a2 : mS tx n p [116, 117, 114, 110, 32] = 0 := mS_n (by decide) (by rw [h]; decide)
  have a3 : mS tx n p [115, 104, 105, 110, 101, 32] = 0 := mS_n (by decide) (by rw [h]; decide)
  have a4 : mS tx n p [100, 97, 121, 32] = 0 := mS_n (by decide) (by rw [h]; decide)
  have a5 : mS tx n p [118, 97, 99, 32] = 0 := mS_n (by decide) (by rw [h]; decide)
  have a6 : mS tx n p [114, 97, 116, 101, 32] = mS tx n (p + 1) [97, 116, 101, 32] + 1 := mS_y (by decide) h
  rw [rW_7, a0, a1, a2, a3, a4, a5, a6]
  generalize mS tx n (p + 1) [97, 116, 101, 32] = z
  by_cases e : z = 4
  · rw [if_neg (by decide), if_neg (by decide), if_neg (by decide), if_neg (by decide), if_neg (by decide), if_neg (by decide), if_pos (by omega), if_pos e, e, Nat.add_assoc, Nat.add_comm 1 4]
  · rw [if_neg (by decide), if_neg (by decide), if_neg (by decide), if_neg (by decide), if_neg (by decide), if_neg (by decide), if_neg (by omega), if_neg e]
    exact congrArg (Prod.mk none) (by omega)
theorem rW_no {tx : Nat → Int32} {n p : Nat} (h99 : ¬ sgM tx n p = 99) (h100 : ¬ sgM tx n p = 100) (h116 : ¬ sgM tx n p = 116) (h115 : ¬ sgM tx n p = 115) (h118 : ¬ sgM tx n p = 118) (h114 : ¬ sgM tx n p = 114) : rW tx n p 7 0 0 = (none, p) := by
  have a0 : mS tx n p [99, 111, 109, 101, 116, 32] = 0 := mS_n (by decide) h99
  have a1 : mS tx n p [100, 114, 111, 112, 32] = 0 := mS_n (by decide) h100
  have a2 : mS tx n p [116, 117, 114, 110, 32] = 0 := mS_n (by decide) h116
  have a3 : mS tx n p [115, 104, 105, 110, 101, 32] = 0 := mS_n (by decide) h115
  have a4 : mS tx n p [100, 97, 121, 32] = 0 := mS_n (by decide) h100
  have a5 : mS tx n p [118, 97, 99, 32] = 0 := mS_n (by decide) h118
  have a6 : mS tx n p [114, 97, 116, 101, 32] = 0 := mS_n (by decide) h114
  rw [rW_7, a0, a1, a2, a3, a4, a5, a6, if_neg (by decide), if_neg (by decide), if_neg (by decide), if_neg (by decide), if_neg (by decide), if_neg (by decide), if_neg (by decide)]
  exact congrArg (Prod.mk none) (by omega)
theorem com_same {tx : Nat → Int32} {n p : Nat} (hp : p ≤ n) : SamC n p (rCm tx n p) (comM tx n p) := by
  unfold comM
  by_cases h99 : sgM tx n p = 99
  · rw [if_pos h99]
    exact com_K (l := [111, 109, 101, 116]) (k := 2) (id := 0) (code := 99) (sg_lt (by decide) h99) (by decide) (by decide) rfl rfl (fun _ _ _ _ => rfl) (rW_w0 h99)
  · rw [if_neg h99]
    by_cases h100 : sgM tx n p = 100
    · rw [if_pos h100]
      by_cases h97 : sgM tx n (p + 1) = 97
      · rw [if_pos h97]
        exact com_K (l := [97, 121]) (k := 0) (id := 4) (code := 121) (sg_lt (by decide) h100) (by decide) (by decide) rfl rfl (fun _ _ _ _ => rfl) (rW_w4 h100 h97)
      · rw [if_neg h97]
        exact com_K (l := [114, 111, 112]) (k := 0) (id := 1) (code := 100) (sg_lt (by decide) h100) (by decide) (by decide) rfl rfl (fun _ _ _ _ => rfl) (rW_w1 h100 h97)
    · rw [if_neg h100]
      by_cases h116 : sgM tx n p = 116
      · rw [if_pos h116]
        exact com_K (l := [117, 114, 110]) (k := 1) (id := 2) (code := 116) (sg_lt (by decide) h116) (by decide) (by decide) rfl rfl (fun _ _ _ _ => rfl) (rW_w2 h116)
      · rw [if_neg h116]
        by_cases h115 : sgM tx n p = 115
        · rw [if_pos h115]
          exact com_K (l := [104, 105, 110, 101]) (k := 1) (id := 3) (code := 115) (sg_lt (by decide) h115) (by decide) (by decide) rfl rfl (fun _ _ _ _ => rfl) (rW_w3 h115)
        · rw [if_neg h115]
          by_cases h118 : sgM tx n p = 118
          · rw [if_pos h118]
            exact com_K (l := [97, 99]) (k := 1) (id := 5) (code := 118) (sg_lt (by decide) h118) (by decide) (by decide) rfl rfl (fun _ _ _ _ => rfl) (rW_w5 h118)
          · rw [if_neg h118]
            by_cases h114 : sgM tx n p = 114
            · rw [if_pos h114]
              exact com_R (l := [97, 116, 101]) (sg_lt (by decide) h114) (by decide) (by decide) (rW_w6 h114)
            · rw [if_neg h114]
              have er : rCm tx n p = (false, p, 0, fun _ => 0) := by
                unfold rCm
                rw [rW_no h99 h100 h116 h115 h118 h114]
              rw [er]
              exact ⟨fun h => (nomatch h), fun _ => rfl⟩
/-- what the two ways to read a program have in common -/
def SamP (r : Bool × Nat × Nat × (Nat → kC)) (s : kPm) : Prop := (r.1 = true → s.1 = none ∧ s.2.1 = r.2.2.1 ∧ ∀ i, i < r.2.2.1 → ∀ V, dCm V (s.2.2 i) = cC V (r.2.2.2 i)) ∧ (r.1 = false → s.1 = some r.2.1)
theorem prog_same {tx : Nat → Int32} {n : Nat} (hn : n ≤ 60) : ∀ (k k' c p : Nat) (cs : Nat → kC) (cs' : Nat → Int32 × List Int32), k + c = 12 → n + 1 ≤ k' + c → 6 * c ≤ p → p ≤ n → (∀ i, i < c → ∀ V, dCm V (cs' i) = cC V (cs i)) → SamP (pRs tx n k c p cs) (parM tx n k' c p cs')
  | 0, _, c, p, _, _, h1, _, h3, h4, _ => by omega
  | k + 1, 0, c, p, _, _, h1, h2, h3, h4, _ => by omega
  | k + 1, k' + 1, c, p, cs, cs', h1, h2, h3, h4, hcs => by
    obtain ⟨s1, s2⟩ := com_same (tx := tx) h4
    unfold pRs
    by_cases hr : (rCm tx n p).1 = true
    · obtain ⟨a1, a2, a3, a4⟩ := s1 hr
      rw [if_pos hr, parM_s (congrArg Prod.snd a1), a1]
      have hup : ∀ i, i < c + 1 → ∀ V, dCm V (updC cs' c ((comM tx n p).1, (comM tx n p).2.1) i) = cC V ((fun j => if j = c then (rCm tx n p).2.2 else cs j) i) := fun i hi V => by
        unfold updC
        show dCm V (if i = c then ((comM tx n p).1, (comM tx n p).2.1) else cs' i) = cC V (if i = c then (rCm tx n p).2.2 else cs i)
        by_cases e : i = c
        · rw [if_pos e, if_pos e]; exact a4 V
        · rw [if_neg e, if_neg e]; exact hcs i (by omega) V
      by_cases hE : (rCm tx n p).2.1 = n
      · have hs : ¬ sgM tx n (rCm tx n p).2.1 = 59 := fun q => by
          have := sg_lt (by decide) q
          omega
        rw [if_pos hE, if_neg hs, if_neg (by show ¬ (rCm tx n p).2.1 < n; omega)]
        exact ⟨fun _ => ⟨rfl, rfl, hup⟩, fun q => (nomatch q)⟩
      · rw [if_neg hE]
        by_cases hs : sgM tx n (rCm tx n p).2.1 = 59
        · rw [if_pos ((sg_iff (by decide)).mpr hs), if_pos hs]
          have := sg_lt (by decide) hs
          exact prog_same hn k k' (c + 1) ((rCm tx n p).2.1 + 1) _ _ (by omega) (by omega) (by omega) (by omega) hup
        · rw [if_neg (fun q => hs ((sg_iff (by decide)).mp q)), if_neg hs, if_pos (by show (rCm tx n p).2.1 < n; omega)]
          exact ⟨fun q => (nomatch q), fun _ => rfl⟩
    · have hf : (rCm tx n p).1 = false := Bool.eq_false_iff.mpr hr
      rw [if_neg hr, parM_e (s2 hf)]
      exact ⟨fun q => (nomatch q), fun _ => rfl⟩
theorem go_same {cs : Nat → kC} {cs' : Nat → Int32 × List Int32} : ∀ (k i : Nat) (V : kV), (∀ j, i ≤ j → j < i + k → ∀ V, dCm V (cs' j) = cC V (cs j)) → goC cs k i V = goM cs' k i V
  | 0, _, _, _ => rfl
  | k + 1, i, V, h => by
    unfold goC goM
    rw [h i (Nat.le_refl _) (by omega) V]
    by_cases e : (cC V (cs i)).1 = 0
    · rw [if_pos e, if_pos e]
      exact go_same k (i + 1) _ (fun j a b => h j (by omega) (by omega))
    · rw [if_neg e, if_neg e]
/-- a program run is the same on both sides -/
theorem run_eq {u : Nat} {O : kO} (hw : WfO u O) : runO O = runM O := by
  have hn : oTn O ≤ 60 := hw.2.2.2.2.1
  obtain ⟨s1, s2⟩ := prog_same (tx := fun j => nI (oTx O j)) hn 12 (oTn O + 1) 0 0 (fun _ => (0, fun _ => 0)) (fun _ => (0, [])) rfl (by omega) (Nat.le_refl _) (Nat.zero_le _) (fun i hi => absurd hi (Nat.not_lt_zero i))
  have s1 : (oCm O).1 = true → (pmO O).1 = none ∧ (pmO O).2.1 = (oCm O).2.2.1 ∧ ∀ i, i < (oCm O).2.2.1 → ∀ V, dCm V ((pmO O).2.2 i) = cC V ((oCm O).2.2.2 i) := s1
  have s2 : (oCm O).1 = false → (pmO O).1 = some (oCm O).2.1 := s2
  by_cases hr : (oCm O).1 = true
  · obtain ⟨a1, a2, a3⟩ := s1 hr
    have hg := go_same (oCm O).2.2.1 0 O.1 (fun j _ hj => a3 j (by omega))
    cases hG : goC (oCm O).2.2.2 (oCm O).2.2.1 0 O.1 with
    | mk r V' =>
      have hG2 : goM (pmO O).2.2 (pmO O).2.1 0 O.1 = (r, V') := by rw [a2, ← hg, hG]
      cases r with
      | none =>
        rw [runM_y a1 hG2, a2]
        unfold runO
        rw [if_pos hr, hG]
      | some i =>
        rw [runM_n a1 hG2]
        unfold runO
        rw [if_pos hr, hG]
  · have hf : (oCm O).1 = false := Bool.eq_false_iff.mpr hr
    rw [runM_e (s2 hf)]
    unfold runO
    rw [if_neg hr]
