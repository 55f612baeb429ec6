/-! ===== the sky's changes, in numbers ===== -/
theorem RepS.hd {S : kS} {V : kV} (h : RepS S V) {j v : Nat} (hj : 1 ≤ j ∧ j < 7) : RepS (fun k => if k = j then nI v else S.1 k, S.2) (V.1, updH V.2.1 j v, V.2.2) := by
  obtain ⟨h0, h1, h2, h3, h4⟩ := h
  refine ⟨?_, fun k a b => ?_, h2, h3, h4⟩
  · show (if 0 = j then nI v else S.1 0) = _
    rw [if_neg (by omega)]; exact h0
  · show (if k = j then nI v else S.1 k) = nI (if k = j then v else V.2.1 k)
    split
    · rfl
    · exact h1 k a b
theorem RepS.hd' {S : kS} {V : kV} (h : RepS S V) {j v : Nat} (hj : 1 ≤ j ∧ j < 7) {x : Int32} (hx : x = nI v) : RepS (fun k => if k = j then x else S.1 k, S.2) (V.1, updH V.2.1 j v, V.2.2) := by
  rw [hx]; exact h.hd hj
theorem RepS.add {S : kS} {V : kV} (h : RepS S V) {n p d b : Nat} (hl : V.1.length = n) : RepS (addS S n (nI p) (nI d) (nI b)) (addV V p d b) := by
  obtain ⟨h0, h1, h2, h3, h4⟩ := h
  refine ⟨?_, fun k a c => ?_, fun i k hi hk => ?_, h3, h4⟩
  · show S.1 0 + 1 = nI (V.1 ++ [_]).length
    rw [h0, List.length_append, nI_1]
    rfl
  · show (if k = 0 then S.1 0 + 1 else if k = 1 then S.1 1 + 1 else S.1 k) = nI (if k = 1 then V.2.1 1 + 1 else V.2.1 k)
    rw [if_neg (by omega)]
    split
    · rw [h1 1 (by decide) (by decide), nI_1]
    · exact h1 k a c
  · show (if i = n then (if k = 0 then S.1 1 else if k = 1 then nI p else if k = 2 then nI b else if k = 3 then S.1 2 + nI d else if k = 4 then 0 else S.2.1 i k) else S.2.1 i k) = nI (cAt (V.1 ++ [coN (V.2.1 1) p b (V.2.1 2 + d) 0]) i k)
    have hi : i < (V.1 ++ [coN (V.2.1 1) p b (V.2.1 2 + d) 0]).length := hi
    rw [List.length_append] at hi
    have hi : i < V.1.length + 1 := hi
    rw [cAt_app]
    by_cases e : i = n
    · have hE : (if i < V.1.length then cAt V.1 i else cAt [coN (V.2.1 1) p b (V.2.1 2 + d) 0] (i - V.1.length)) = coN (V.2.1 1) p b (V.2.1 2 + d) 0 := by
        rw [if_neg (by omega), show i - V.1.length = 0 by omega, cAt_cons_0]
      rw [hE, if_pos e]
      obtain rfl | rfl | rfl | rfl | rfl : k = 0 ∨ k = 1 ∨ k = 2 ∨ k = 3 ∨ k = 4 := by omega
      · exact h1 1 (by decide) (by decide)
      · rfl
      · rfl
      · show S.1 2 + nI d = nI (V.2.1 2 + d)
        rw [h1 2 (by decide) (by decide), nI_add]
      · rfl
    · rw [if_neg e, if_pos (by omega)]
      exact h2 i k (by omega) hk
theorem RepS.take {S : kS} {V : kV} (h : RepS S V) {n i : Nat} (hl : V.1.length = n) (hi : i < n) : RepS (takeS S n i) (V.1.eraseIdx i, V.2) := by
  obtain ⟨h0, h1, h2, h3, h4⟩ := h
  have hle : (V.1.eraseIdx i).length = n - 1 := by rw [List.length_eraseIdx_of_lt (by omega), hl]
  refine ⟨?_, fun k a c => ?_, fun j k hj hk => ?_, h3, h4⟩
  · show S.1 0 - 1 = nI (V.1.eraseIdx i).length
    rw [h0, hle, hl]
    exact pk_sub (b := 1) (by omega)
  · show (if k = 0 then S.1 0 - 1 else S.1 k) = _
    rw [if_neg (by omega)]
    exact h1 k a c
  · show S.2.1 (rot n i j) k = nI (cAt (V.1.eraseIdx i) j k)
    have hj : j < (V.1.eraseIdx i).length := hj
    rw [hle] at hj
    rw [cAt_erase]
    unfold rot
    split
    · exact h2 j k (by omega) hk
    · rw [if_pos (by omega)]
      exact h2 (j + 1) k (by omega) hk
theorem RepS.sell {S : kS} {V : kV} (h : RepS S V) {n i : Nat} (hl : V.1.length = n) (hi : i < n) : RepS (sellS S n i) (dropV V i) := by
  have h1 : S.1 3 + S.2.1 i 2 = nI (V.2.1 3 + cAt V.1 i 2) := by rw [h.2.1 3 (by decide) (by decide), h.2.2.1 i 2 (by omega) (by decide), nI_add]
  exact (h.hd' (j := 3) (by decide) h1).take (V := (V.1, updH V.2.1 3 (V.2.1 3 + cAt V.1 i 2), V.2.2)) hl hi
theorem RepS.plc {S : kS} {V : kV} (h : RepS S V) (x : Int32) {n : Nat} (hn : V.1.length = n) : plc S n x = plV V.1 x := by
  subst hn
  exact slotF_congr _ 0 (fun j _ hj => h.2.2.1 j 0 (by omega) (by decide))
theorem RepS.gain {S : kS} {V : kV} (h : RepS S V) (a b : Nat) : gainS S a b = nI (ds V.2.2 a b) - nI (V.2.1 4 * b) := by
  unfold gainS
  rw [ds_nI h.2.2.2.1, h.2.1 4 (by decide) (by decide), pk_mul]
theorem i32_as (x y1 z : Int32) : x + (y1 - z) = x + y1 - z := by
  rw [Int32.sub_eq_add_neg, Int32.sub_eq_add_neg, Int32.add_assoc]
theorem RepS.gain_t {S : kS} {V : kV} (h : RepS S V) {a b : Nat} (hw : V.2.1 4 * b ≤ V.2.1 3 + ds V.2.2 a b) : S.1 3 + gainS S a b = nI (V.2.1 3 + ds V.2.2 a b - V.2.1 4 * b) := by
  rw [h.gain, h.2.1 3 (by decide) (by decide), i32_as, nI_add, pk_sub hw]
theorem RepS.gain_f {S : kS} {V : kV} (h : RepS S V) {a b : Nat} (hw : ¬ V.2.1 4 * b ≤ V.2.1 3 + ds V.2.2 a b) (hb : V.2.1 4 * b < 2 ^ 30) : S.1 3 + gainS S a b < 0 := by
  rw [h.gain, h.2.1 3 (by decide) (by decide), i32_as, nI_add]
  exact pk_sneg hb (by omega)
theorem RepS.sweep {S : kS} {V : kV} (h : RepS S V) {a b : Nat} (hb : b ≤ 12) (hw : V.2.1 4 * b ≤ V.2.1 3 + ds V.2.2 a b) : RepS (swpS S a b) (vacV V a b) := by
  obtain ⟨g0, g1, g2, g3, g4⟩ := h.hd' (j := 3) (by decide) (h.gain_t hw)
  refine ⟨g0, g1, g2, fun j hj => ?_, ?_⟩
  · show (if inArc a b j = true then 0 else S.2.2.1 j) = nI (if inArc a b j = true then 0 else V.2.2 j)
    split
    · rfl
    · exact h.2.2.2.1 j hj
  · show S.2.2.2.1 = S.2.2.2.2 + dSum S.2.2.1 a b + nI (ds (fun j => if inArc a b j = true then 0 else V.2.2 j) 0 12)
    rw [h.2.2.2.2, ds_nI h.2.2.2.1, Int32.add_assoc, nI_add, Nat.add_comm, ds_vac V.2.2 a b hb]
/-! a day -/
theorem RepS.pass1 {S : kS} {pre post : List (Nat → Nat)} {c : Nat → Nat} {H f : Nat → Nat} (h : RepS S (pre ++ c :: post, H, f)) (hc : 1 ≤ c 2) (dd : Nat) : RepS (passS S pre.length dd) (pre ++ pasC c :: post, updH H 5 (H 5 + 1), fun j => if j = dd % 12 then f j + c 2 else f j) := by
  obtain ⟨h0, h1, h2, h3, h4⟩ := h
  have hl : (pre ++ c :: post).length = (pre ++ pasC c :: post).length := by simp
  have hlt : pre.length < (pre ++ c :: post).length := by simp
  have hcc : cAt (pre ++ c :: post) pre.length = c := by rw [cAt_app, if_neg (Nat.lt_irrefl _), Nat.sub_self, cAt_cons_0]
  have hc2 : S.2.1 pre.length 2 = nI (c 2) := by rw [h2 _ 2 hlt (by decide)]; exact congrArg (fun z => nI (z 2)) hcc
  refine ⟨h0.trans (congrArg nI hl), fun k a b => ?_, fun i k hi hk => ?_, fun j hj => ?_, ?_⟩
  · show (if k = 5 then S.1 5 + 1 else S.1 k) = nI (if k = 5 then H 5 + 1 else H k)
    split
    · rw [h1 5 (by decide) (by decide), nI_1]
    · exact h1 k a b
  · show (if i = pre.length then _ else S.2.1 i k) = nI (cAt (pre ++ pasC c :: post) i k)
    have hi : i < (pre ++ pasC c :: post).length := hi
    rw [← hl] at hi
    have h9 := h2 i k hi hk
    have e : ∀ x, cAt (pre ++ x :: post) i = if i < pre.length then cAt pre i else cAt (x :: post) (i - pre.length) := fun x => cAt_app
    rw [e]
    by_cases ei : i = pre.length
    · subst ei
      rw [if_pos rfl, if_neg (Nat.lt_irrefl _), Nat.sub_self, cAt_cons_0]
      have h8 : ∀ k, k < 5 → S.2.1 pre.length k = nI (c k) := fun k hk => by rw [h2 _ k hlt hk]; exact congrArg (fun z => nI (z k)) hcc
      unfold pasC
      split
      · rw [hc2]; exact pk_sub (b := 1) hc
      · split
        · rw [h8 3 (by decide), h8 1 (by decide), nI_add]
        · split
          · rw [h8 4 (by decide), nI_1]
          · exact h8 k hk
    · rw [if_neg ei, h9]
      show nI (cAt (pre ++ c :: post) i k) = _
      rw [e]
      split
      · rfl
      · obtain ⟨q, hq⟩ : ∃ q, i - pre.length = q + 1 := ⟨i - pre.length - 1, by omega⟩
        rw [hq]
        rfl
  · show (if j = dd % 12 then S.2.2.1 j + S.2.1 pre.length 2 else S.2.2.1 j) = nI (if j = dd % 12 then f j + c 2 else f j)
    split
    · rw [h3 j hj, hc2, nI_add]
    · exact h3 j hj
  · show S.2.2.2.1 + S.2.1 pre.length 2 = S.2.2.2.2 + nI (ds (fun j => if j = dd % 12 then f j + c 2 else f j) 0 12)
    have h9 := ds_upd f (k := dd % 12) (Nat.mod_lt _ (by decide)) (f (dd % 12) + c 2)
    have e : (fun j => if j = dd % 12 then f (dd % 12) + c 2 else f j) = (fun j => if j = dd % 12 then f j + c 2 else f j) := by
      funext j
      by_cases e : j = dd % 12
      · rw [if_pos e, if_pos e, e]
      · rw [if_neg e, if_neg e]
    rw [e] at h9
    have h10 : ds (fun j => if j = dd % 12 then f j + c 2 else f j) 0 12 = ds f 0 12 + c 2 := by omega
    rw [h10, h4, hc2, ← nI_add, Int32.add_assoc]
theorem RepS.dust0 {S : kS} {L : List (Nat → Nat)} {H f f' : Nat → Nat} (h : RepS S (L, H, f)) (hf : ∀ j, j < 12 → f j = f' j) : RepS S (L, H, f') := by
  obtain ⟨h0, h1, h2, h3, h4⟩ := h
  exact ⟨h0, h1, h2, fun j hj => by rw [h3 j hj]; exact congrArg nI (hf j hj), by rw [h4]; exact congrArg (fun z => _ + nI z) (ds_congr 0 hf 12)⟩
theorem RepS.passF {dd : Nat} (hdd : dd < 2 ^ 31) : ∀ (post pre : List (Nat → Nat)) (H f : Nat → Nat) (S : kS), (∀ c ∈ post, 1 ≤ c 2 ∧ c 3 < 2 ^ 31) → RepS S (pre ++ post, H, f) → RepS (passFrom dd pre.length post.length S) (pre ++ passL dd post, updH H 5 (H 5 + pcnt dd post), fun j => if j = dd % 12 then f j + falls dd post else f j)
  | [], pre, H, f, S, _, h => by
    have e1 : updH H 5 (H 5 + pcnt dd []) = H := by
      funext k
      unfold updH
      split
      · rename_i e; rw [e]; rfl
      · rfl
    have e2 : (fun j => if j = dd % 12 then f j + falls dd [] else f j) = f := by
      funext j
      split <;> rfl
    rw [e1, e2]
    exact h
  | c :: post, pre, H, f, S, hp, h => by
    have hc := hp c List.mem_cons_self
    have hcc : cAt (pre ++ c :: post) pre.length = c := by rw [cAt_app, if_neg (Nat.lt_irrefl _), Nat.sub_self, cAt_cons_0]
    have hc3 : S.2.1 pre.length 3 = nI (c 3) := by
      rw [h.2.2.1 _ 3 (by simp) (by decide)]
      exact congrArg (fun z => nI (z 3)) hcc
    show RepS (passFrom dd (pre.length + 1) post.length (if S.2.1 pre.length 3 = nI dd then passS S pre.length dd else S)) _
    have hlen : pre.length + 1 = (pre ++ [pasD dd c]).length := by simp
    rw [hlen]
    have happ : pre ++ passL dd (c :: post) = (pre ++ [pasD dd c]) ++ passL dd post := by simp [passL]
    rw [happ]
    have hpost : ∀ c ∈ post, 1 ≤ c 2 ∧ c 3 < 2 ^ 31 := fun x hx => hp x (List.mem_cons_of_mem _ hx)
    rw [hc3]
    have hiff : nI (c 3) = nI dd ↔ c 3 = dd := nI_eq hc.2 hdd
    by_cases e : c 3 = dd
    · rw [if_pos (hiff.mpr e)]
      have h1 := h.pass1 hc.1 dd
      have h2 : pre ++ pasC c :: post = (pre ++ [pasD dd c]) ++ post := by simp [pasD, e]
      rw [h2] at h1
      have h3 := RepS.passF hdd post _ _ _ _ hpost h1
      have e1 : updH (updH H 5 (H 5 + 1)) 5 ((updH H 5 (H 5 + 1)) 5 + pcnt dd post) = updH H 5 (H 5 + pcnt dd (c :: post)) := by
        have hp1 : pcnt dd (c :: post) = 1 + pcnt dd post := by
          show (if c 3 = dd then 1 else 0) + _ = _
          rw [if_pos e]
        rw [hp1]
        funext k
        show (if k = 5 then (H 5 + 1) + pcnt dd post else (if k = 5 then H 5 + 1 else H k)) = (if k = 5 then H 5 + (1 + pcnt dd post) else H k)
        split
        · omega
        · rfl
      have e2 : (fun j => if j = dd % 12 then (fun j => if j = dd % 12 then f j + c 2 else f j) j + falls dd post else (fun j => if j = dd % 12 then f j + c 2 else f j) j) = (fun j => if j = dd % 12 then f j + falls dd (c :: post) else f j) := by
        have hp1 : falls dd (c :: post) = c 2 + falls dd post := by
          show (if c 3 = dd then c 2 else 0) + _ = _
          rw [if_pos e]
        rw [hp1]
        funext j
        show (if j = dd % 12 then (if j = dd % 12 then f j + c 2 else f j) + falls dd post else (if j = dd % 12 then f j + c 2 else f j)) = (if j = dd % 12 then f j + (c 2 + falls dd post) else f j)
        split
        · omega
        · rfl
      rw [e1, e2] at h3
      exact h3
    · rw [if_neg (fun h9 => e (hiff.mp h9))]
      have h2 : pre ++ c :: post = (pre ++ [pasD dd c]) ++ post := by simp [pasD, e]
      rw [h2] at h
      have h3 := RepS.passF hdd post _ _ _ _ hpost h
      have e1 : pcnt dd (c :: post) = pcnt dd post := by
        show (if c 3 = dd then 1 else 0) + _ = _
        rw [if_neg e, Nat.zero_add]
      have e2 : falls dd (c :: post) = falls dd post := by
        show (if c 3 = dd then c 2 else 0) + _ = _
        rw [if_neg e, Nat.zero_add]
      rw [e1, e2]
      exact h3
theorem RepS.cnE {S : kS} {V : kV} (h : RepS S V) (hl : V.1.length ≤ 6) : cn S = V.1.length := cn_of h.1 hl
theorem RepS.burn : ∀ (n : Nat) (pre post : List (Nat → Nat)) (H f : Nat → Nat) (S : kS), pre.length = n → (pre ++ post).length ≤ 6 → (∀ c ∈ pre, c 2 < 2 ^ 31) → RepS S (pre ++ post, H, f) → RepS (burnF n S) (liveL pre ++ post, updH H 6 (H 6 + (pre.length - (liveL pre).length)), f)
  | 0, pre, post, H, f, S, hn, _, _, h => by
    have : pre = [] := List.length_eq_zero_iff.mp hn
    subst this
    have e1 : updH H 6 (H 6 + (([] : List (Nat → Nat)).length - (liveL []).length)) = H := by
      funext k
      unfold updH
      split
      · rename_i e; rw [e]; rfl
      · rfl
    rw [e1]
    exact h
  | n + 1, pre, post, H, f, S, hn, h6, hp, h => by
    rcases List.eq_nil_or_concat pre with rfl | ⟨p0, c, rfl⟩
    · cases hn
    · rw [List.concat_eq_append] at *
      have hn : p0.length = n := by
        rw [List.length_append] at hn
        have : p0.length + 1 = n + 1 := hn
        omega
      subst hn
      rw [List.append_assoc] at h h6
      have hcc : cAt (p0 ++ ([c] ++ post)) p0.length = c := by rw [cAt_app, if_neg (Nat.lt_irrefl _), Nat.sub_self]; rfl
      have hlt : p0.length < (p0 ++ ([c] ++ post)).length := by simp
      have hc2 : S.2.1 p0.length 2 = nI (c 2) := by
        rw [h.2.2.1 _ 2 hlt (by decide)]
        exact congrArg (fun z => nI (z 2)) hcc
      have hp0 : ∀ c ∈ p0, c 2 < 2 ^ 31 := fun x hx => hp x (List.mem_append_left _ hx)
      have hcs := hp c (List.mem_append_right _ List.mem_cons_self)
      have hl2 : liveL (p0 ++ [c]) = liveL p0 ++ (if c 2 = 0 then [] else [c]) := by
        unfold liveL
        rw [List.filter_append]
        congr 1
        by_cases e : c 2 = 0
        · simp [e]
        · simp [e]
      have hll := liveL_le p0
      show RepS (burnF p0.length (if S.2.1 p0.length 2 = 0 then burn1 S p0.length else S)) _
      rw [hc2]
      by_cases e : c 2 = 0
      · rw [if_pos (by rw [e]; rfl)]
        have h1 := h.take rfl hlt
        have h2 : (p0 ++ ([c] ++ post)).eraseIdx p0.length = p0 ++ post := by
          rw [List.eraseIdx_append_of_length_le (Nat.le_refl _), Nat.sub_self]
          rfl
        have h3 : RepS (burn1 S p0.length) (p0 ++ post, updH H 6 (H 6 + 1), f) := by
          have h4 := RepS.hd' h1 (j := 6) (v := H 6 + 1) (by decide) (x := S.1 6 + 1) (by rw [h.2.1 6 (by decide) (by decide), nI_1])
          have hcn : cn S = (p0 ++ ([c] ++ post)).length := h.cnE h6
          unfold burn1
          rw [hcn]
          rw [show ((p0 ++ ([c] ++ post)).eraseIdx p0.length, H, f) = ((p0 ++ post, H, f) : kV) by rw [h2]] at h4
          exact h4
        have h5 := RepS.burn p0.length p0 post _ _ _ rfl (by rw [List.length_append]; rw [List.length_append, List.length_append] at h6; omega) hp0 h3
        have e1 : updH (updH H 6 (H 6 + 1)) 6 ((updH H 6 (H 6 + 1)) 6 + (p0.length - (liveL p0).length)) = updH H 6 (H 6 + ((p0 ++ [c]).length - (liveL (p0 ++ [c])).length)) := by
          funext k
          unfold updH
          rw [if_pos rfl, hl2, if_pos e, List.append_nil, List.length_append]
          split
          · show _ = H 6 + (p0.length + 1 - _); omega
          · rfl
        rw [e1] at h5
        rw [hl2, if_pos e, List.append_nil]
        rw [hl2, if_pos e, List.append_nil] at h5
        exact h5
      · rw [if_neg (show ¬ nI (c 2) = 0 from fun h9 => e ((nI_eq (b := 0) hcs (by decide)).mp h9))]
        have h5 := RepS.burn p0.length p0 ([c] ++ post) _ _ _ rfl h6 hp0 h
        rw [hl2, if_neg e, List.append_assoc]
        have e1 : (p0 ++ [c]).length - (liveL p0 ++ [c]).length = p0.length - (liveL p0).length := by
          rw [List.length_append, List.length_append]
          show p0.length + 1 - ((liveL p0).length + 1) = _
          omega
        rw [e1]
        exact h5
theorem RepS.day {S : kS} {V : kV} (h : RepS S V) {n d k p : Nat} (hw : WfW n d k p V) (hd : d < 2 ^ 30) : RepS (dayS S) (dayV V) := by
  have hcn := h.cnE hw.1
  have hday : (S.1 2).toNatClampNeg = V.2.1 2 := by
    rw [h.2.1 2 (by decide) (by decide)]
    exact nI_clamp (by have := hw.2.2.2.2.1; omega)
  have hdd : V.2.1 2 + 1 < 2 ^ 30 + 1 := by have := hw.2.2.2.2.1; omega
  have h1 : RepS (dyS S) ([] ++ V.1, updH V.2.1 2 (V.2.1 2 + 1), V.2.2) := h.hd' (j := 2) (by decide) (by rw [h.2.1 2 (by decide) (by decide), nI_1])
  have h2 := RepS.passF (dd := V.2.1 2 + 1) (by omega) V.1 [] _ _ _ (fun c hc => by obtain ⟨b1, b2, b3, b4, b5, b6, b7, b8⟩ := hw.2.1 c hc; have := hw.2.2.2.2.1; exact ⟨b3, by omega⟩) h1
  have hpl := passL_len (V.2.1 2 + 1) V.1
  have h3 := RepS.burn V.1.length (passL (V.2.1 2 + 1) V.1) [] _ _ _ hpl (by rw [List.append_nil, hpl]; exact hw.1) (fun c hc => by
    obtain ⟨c0, hc0, rfl⟩ := List.mem_map.mp hc
    obtain ⟨b1, b2, b3, b4, b5, b6, b7, b8⟩ := hw.2.1 c0 hc0
    unfold pasD
    split
    · show c0 2 - 1 < _; omega
    · omega) (by rw [List.append_nil]; exact h2)
  unfold dayS
  rw [hcn, hday]
  rw [List.append_nil] at h3
  exact h3
theorem RepS.days : ∀ (m : Nat) {S : kS} {V : kV} {n d k p : Nat}, RepS S V → WfW n d k p V → d + m < 2 ^ 30 → RepS (itS m S) (daysV m V)
  | 0, _, _, _, _, _, _, h, _, _ => h
  | m + 1, _, _, _, _, _, _, h, hw, hd => RepS.days m (h.day hw (by omega)) hw.day (by omega)
