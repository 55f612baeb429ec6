/-! ===== java.lang.String, of the first seven constants ===== -/
/-- the words' signs are their own low bytes -/
theorem wrd_ok {i j : Nat} {x : List Int32} (hq : qwrd[i]? = some x) (hj : j < x.length) : ((x.getD j 0 &&& 255).toUInt32 % 65536).toInt32 = x.getD j 0 := by
  have h : ∀ y ∈ qwrd, ∀ c ∈ y, ((c &&& 255).toUInt32 % 65536).toInt32 = c := by decide +kernel
  refine h x (List.mem_of_getElem? hq) _ ?_
  rw [List.getD_eq_getElem?_getD, List.getElem?_eq_getElem hj]
  exact List.getElem_mem hj
theorem wrd_sz {i : Nat} {x : List Int32} (hq : qwrd[i]? = some x) : x.length ≤ 6 := by
  have h : ∀ y ∈ qwrd, y.length ≤ 6 := by decide +kernel
  exact h x (List.mem_of_getElem? hq)
theorem wrd_nar {i j : Nat} {x : List Int32} (hq : qwrd[i]? = some x) (hj : j < x.length) : narrow .char (.int (x.getD j 0)) = .int (x.getD j 0) := by
  have h : ∀ y ∈ qwrd, ∀ c ∈ y, narrow .char (.int c) = .int c := by decide +kernel
  refine h x (List.mem_of_getElem? hq) _ ?_
  rw [List.getD_eq_getElem?_getD, List.getElem?_eq_getElem hj]
  exact List.getElem_mem hj
set_option maxRecDepth 20000 in
set_option maxHeartbeats 4000000 in
theorem s_J0_coder (E : qE) (g : qG) (m : qM) {i : Nat} {x : List Int32} (hq : qwrd[i]? = some x) : Sp E yJ0_coder_7d493 cJ0_coder_7d493 1 (some .byte) 0 0 0 [.ref (eS E i)] g m (fun v g' m' => v = some (.int 0) ∧ g' = g ∧ m' = m) := by
  refine Sp.ofF (by decide +kernel) [some (.ref (eS E i))] rfl rfl (Nat.le_of_ble_eq_true rfl) (fun X hX => ?_)
  refine r_getsC hX dJ0_coder_7d493_0 ⟨List.mem_of_getElem? (i := 755) (by decide +kernel), by decide +kernel⟩ ?_
  refine r_if_eq (tgt := 13) hX dJ0_coder_7d493_3 (by decide) (fun c3 => ?_) (fun c3 => ?_)
  · exact absurd c3 (by decide)
  · refine r_aload_n hX dJ0_coder_7d493_6 rfl ?_
    refine r_strC hX dJ0_coder_7d493_7 ⟨List.mem_of_getElem? (i := 873) (by decide +kernel), by decide +kernel⟩ hq ?_
    refine r_goto (tgt := 14) hX dJ0_coder_7d493_10 (by decide) ?_
    exact r_zret hX dJ0_coder_7d493_14 rfl ⟨rfl, rfl, rfl⟩ ⟨Nat.le_of_ble_eq_true rfl, Nat.le_of_ble_eq_true rfl⟩
set_option maxRecDepth 20000 in
set_option maxHeartbeats 4000000 in
theorem s_J0_isLatin1 (E : qE) (g : qG) (m : qM) {i : Nat} {x : List Int32} (hq : qwrd[i]? = some x) : Sp E yJ0_isLatin1_aae02 cJ0_isLatin1_aae02 1 (some .boolean) 0 0 0 [.ref (eS E i)] g m (fun v g' m' => v = some (.int 1) ∧ g' = g ∧ m' = m) := by
  refine Sp.ofF (by decide +kernel) [some (.ref (eS E i))] rfl rfl (Nat.le_of_ble_eq_true rfl) (fun X hX => ?_)
  refine r_getsC hX dJ0_isLatin1_aae02_0 ⟨List.mem_of_getElem? (i := 755) (by decide +kernel), by decide +kernel⟩ ?_
  refine r_if_eq (tgt := 17) hX dJ0_isLatin1_aae02_3 (by decide) (fun c3 => ?_) (fun c3 => ?_)
  · exact absurd c3 (by decide)
  · refine r_aload_n hX dJ0_isLatin1_aae02_6 rfl ?_
    refine r_strC hX dJ0_isLatin1_aae02_7 ⟨List.mem_of_getElem? (i := 873) (by decide +kernel), by decide +kernel⟩ hq ?_
    refine r_if_ne (tgt := 17) hX dJ0_isLatin1_aae02_10 (by decide) (fun c10 => ?_) (fun c10 => ?_)
    · exact absurd rfl c10
    · refine r_iconst (v := 1) hX dJ0_isLatin1_aae02_13 (by decide) ?_
      refine r_goto (tgt := 18) hX dJ0_isLatin1_aae02_14 (by decide) ?_
      exact r_zret hX dJ0_isLatin1_aae02_18 rfl ⟨rfl, rfl, rfl⟩ ⟨Nat.le_of_ble_eq_true rfl, Nat.le_of_ble_eq_true rfl⟩
set_option maxRecDepth 20000 in
set_option maxHeartbeats 4000000 in
theorem s_J0_length (E : qE) (g : qG) (m : qM) {i : Nat} {x : List Int32} (hq : qwrd[i]? = some x) : Sp E yJ0_length_8abf5 cJ0_length_8abf5 1 (some .int) 1 0 0 [.ref (eS E i)] g m (fun v g' m' => v = some (.int (nI x.length)) ∧ g' = g ∧ m' = m) := by
  refine Sp.ofF (by decide +kernel) [some (.ref (eS E i))] rfl rfl (Nat.le_of_ble_eq_true rfl) (fun X hX => ?_)
  refine r_aload_n hX dJ0_length_8abf5_0 rfl ?_
  refine r_strV hX dJ0_length_8abf5_1 ⟨List.mem_of_getElem? (i := 872) (by decide +kernel), by decide +kernel⟩ hq ?_
  refine r_strL hX dJ0_length_8abf5_4 hq ?_
  refine r_aload_n hX dJ0_length_8abf5_5 rfl ?_
  refine r_callStr hX dJ0_length_8abf5_6 hq (s_J0_coder E g m hq) ml_J0_335 rfl rfl rfl ⟨Nat.le_of_ble_eq_true rfl, Nat.le_of_ble_eq_true rfl⟩ ⟨Nat.le_of_ble_eq_true rfl, Nat.le_of_ble_eq_true rfl, rfl, Nat.le_of_ble_eq_true rfl⟩ (fun v6 g6 m6 hp => ?_)
  obtain ⟨hv, hg, hm⟩ := hp
  subst v6
  subst g6
  subst m6
  refine r_ishr hX dJ0_length_8abf5_9 ?_
  rw [show nI x.length >>> ((0 : Int32) &&& 31) = nI x.length from (pk_shrN (by have := wrd_sz hq; omega) (0 &&& 31) 0 (by decide)).trans (by simp)]
  exact r_iret hX dJ0_length_8abf5_10 ⟨rfl, rfl, rfl⟩ ⟨Nat.le_of_ble_eq_true rfl, Nat.le_of_ble_eq_true rfl⟩
set_option maxRecDepth 20000 in
set_option maxHeartbeats 4000000 in
theorem s_J3_checkIndex (E : qE) (g : qG) (m : qM) (j n : Nat) (hj : j < n) (hn : n < 2 ^ 31) (v : Value) (hv : v = .null ∨ ∃ t, v = .ref t) : Sp E yJ3_checkIndex_8e157 cJ3_checkIndex_8e157 3 (some .int) 0 0 0 [.int (nI j), .int (nI n), v] g m (fun v g' m' => v = some (.int (nI j)) ∧ g' = g ∧ m' = m) := by
  rcases hv with rfl | ⟨t, rfl⟩
  · refine Sp.ofF (by decide +kernel) [some (.int (nI j)), some (.int (nI n)), some .null] rfl rfl (Nat.le_of_ble_eq_true rfl) (fun X hX => ?_)
    refine r_iload_n hX dJ3_checkIndex_8e157_0 rfl ?_
    refine r_if_lt (tgt := 9) hX dJ3_checkIndex_8e157_1 (by decide) (fun c1 => ?_) (fun c1 => ?_)
    · exact absurd c1 (nI_pos (by omega))
    · refine r_iload_n hX dJ3_checkIndex_8e157_4 rfl ?_
      refine r_iload_n hX dJ3_checkIndex_8e157_5 rfl ?_
      refine r_icmp_lt (tgt := 16) hX dJ3_checkIndex_8e157_6 (by decide) (fun c6 => ?_) (fun c6 => ?_)
      · refine r_iload_n hX dJ3_checkIndex_8e157_16 rfl ?_
        exact r_iret hX dJ3_checkIndex_8e157_17 ⟨rfl, rfl, rfl⟩ ⟨Nat.le_of_ble_eq_true rfl, Nat.le_of_ble_eq_true rfl⟩
      · exact absurd (nI_lt hj hn) c6
  · refine Sp.ofF (by decide +kernel) [some (.int (nI j)), some (.int (nI n)), some (.ref t)] rfl rfl (Nat.le_of_ble_eq_true rfl) (fun X hX => ?_)
    refine r_iload_n hX dJ3_checkIndex_8e157_0 rfl ?_
    refine r_if_lt (tgt := 9) hX dJ3_checkIndex_8e157_1 (by decide) (fun c1 => ?_) (fun c1 => ?_)
    · exact absurd c1 (nI_pos (by omega))
    · refine r_iload_n hX dJ3_checkIndex_8e157_4 rfl ?_
      refine r_iload_n hX dJ3_checkIndex_8e157_5 rfl ?_
      refine r_icmp_lt (tgt := 16) hX dJ3_checkIndex_8e157_6 (by decide) (fun c6 => ?_) (fun c6 => ?_)
      · refine r_iload_n hX dJ3_checkIndex_8e157_16 rfl ?_
        exact r_iret hX dJ3_checkIndex_8e157_17 ⟨rfl, rfl, rfl⟩ ⟨Nat.le_of_ble_eq_true rfl, Nat.le_of_ble_eq_true rfl⟩
      · exact absurd (nI_lt hj hn) c6
set_option maxRecDepth 20000 in
set_option maxHeartbeats 4000000 in
theorem s_J0_checkIndex (E : qE) (g : qG) (m : qM) (j n : Nat) (hj : j < n) (hn : n < 2 ^ 31) : Sp E yJ0_checkIndex_df160 cJ0_checkIndex_df160 2 none 1 0 0 [.int (nI j), .int (nI n)] g m (fun v g' m' => v = none ∧ g' = g ∧ m' = m) := by
  refine Sp.ofF (by decide +kernel) [some (.int (nI j)), some (.int (nI n))] rfl rfl (Nat.le_of_ble_eq_true rfl) (fun X hX => ?_)
  refine r_iload_n hX dJ0_checkIndex_df160_0 rfl ?_
  refine r_iload_n hX dJ0_checkIndex_df160_1 rfl ?_
  refine r_getsF hX dJ0_checkIndex_df160_2 ⟨List.mem_of_getElem? (i := 733) (by decide +kernel), by decide +kernel⟩ (fun fv hfv => ?_)
  refine r_callS hX dJ0_checkIndex_df160_5 (s_J3_checkIndex E g m j n hj hn fv hfv) ml_J0_1059 rfl rfl ⟨Nat.le_of_ble_eq_true rfl, Nat.le_of_ble_eq_true rfl⟩ ⟨Nat.le_of_ble_eq_true rfl, Nat.le_of_ble_eq_true rfl, rfl, Nat.le_of_ble_eq_true rfl⟩ (fun v5 g5 m5 hp => ?_)
  obtain ⟨hv, hg, hm⟩ := hp
  subst v5
  subst g5
  subst m5
  refine r_pop hX dJ0_checkIndex_df160_8 rfl ?_
  exact r_vret hX dJ0_checkIndex_df160_9 ⟨rfl, rfl, rfl⟩ ⟨Nat.le_of_ble_eq_true rfl, Nat.le_of_ble_eq_true rfl⟩
set_option maxRecDepth 20000 in
set_option maxHeartbeats 4000000 in
theorem s_J1_charAt (E : qE) (g : qG) (m : qM) {i : Nat} {x : List Int32} (hq : qwrd[i]? = some x) (j : Nat) (hj : j < x.length) : Sp E yJ1_charAt_3b067 cJ1_charAt_3b067 2 (some .char) 2 0 0 [.ref (eV E i), .int (nI j)] g m (fun v g' m' => v = some (.int (x.getD j 0)) ∧ g' = g ∧ m' = m) := by
  refine Sp.ofF (by decide +kernel) [some (.ref (eV E i)), some (.int (nI j))] rfl rfl (Nat.le_of_ble_eq_true rfl) (fun X hX => ?_)
  have hsz := wrd_sz hq
  refine r_iload_n hX dJ1_charAt_3b067_0 rfl ?_
  refine r_aload_n hX dJ1_charAt_3b067_1 rfl ?_
  refine r_strL hX dJ1_charAt_3b067_2 hq ?_
  refine r_callS hX dJ1_charAt_3b067_3 (s_J0_checkIndex E g m j x.length hj (by omega)) ml_J1_9 rfl rfl ⟨Nat.le_of_ble_eq_true rfl, Nat.le_of_ble_eq_true rfl⟩ ⟨Nat.le_of_ble_eq_true rfl, Nat.le_of_ble_eq_true rfl, rfl, Nat.le_of_ble_eq_true rfl⟩ (fun v3 g3 m3 hp => ?_)
  obtain ⟨hv, hg, hm⟩ := hp
  subst v3
  subst g3
  subst m3
  refine r_aload_n hX dJ1_charAt_3b067_6 rfl ?_
  refine r_iload_n hX dJ1_charAt_3b067_7 rfl ?_
  refine r_strB hX dJ1_charAt_3b067_8 hq hj (by omega) ?_
  refine r_sipush (v := 255) hX dJ1_charAt_3b067_9 (by decide) ?_
  refine r_iand hX dJ1_charAt_3b067_12 ?_
  refine r_i2c hX dJ1_charAt_3b067_13 ?_
  rw [wrd_ok hq hj]
  exact r_zret hX dJ1_charAt_3b067_14 (wrd_nar hq hj) ⟨rfl, rfl, rfl⟩ ⟨Nat.le_of_ble_eq_true rfl, Nat.le_of_ble_eq_true rfl⟩
set_option maxRecDepth 20000 in
set_option maxHeartbeats 4000000 in
theorem s_J0_charAt (E : qE) (g : qG) (m : qM) {i : Nat} {x : List Int32} (hq : qwrd[i]? = some x) (j : Nat) (hj : j < x.length) : Sp E yJ0_charAt_5068e cJ0_charAt_5068e 2 (some .char) 3 0 0 [.ref (eS E i), .int (nI j)] g m (fun v g' m' => v = some (.int (x.getD j 0)) ∧ g' = g ∧ m' = m) := by
  refine Sp.ofF (by decide +kernel) [some (.ref (eS E i)), some (.int (nI j))] rfl rfl (Nat.le_of_ble_eq_true rfl) (fun X hX => ?_)
  refine r_aload_n hX dJ0_charAt_5068e_0 rfl ?_
  refine r_callStr hX dJ0_charAt_5068e_1 hq (s_J0_isLatin1 E g m hq) ml_J0_492 rfl rfl rfl ⟨Nat.le_of_ble_eq_true rfl, Nat.le_of_ble_eq_true rfl⟩ ⟨Nat.le_of_ble_eq_true rfl, Nat.le_of_ble_eq_true rfl, rfl, Nat.le_of_ble_eq_true rfl⟩ (fun v1 g1 m1 hp => ?_)
  obtain ⟨hv, hg, hm⟩ := hp
  subst v1
  subst g1
  subst m1
  refine r_if_eq (tgt := 16) hX dJ0_charAt_5068e_4 (by decide) (fun c4 => ?_) (fun c4 => ?_)
  · exact absurd c4 (by decide)
  · refine r_aload_n hX dJ0_charAt_5068e_7 rfl ?_
    refine r_strV hX dJ0_charAt_5068e_8 ⟨List.mem_of_getElem? (i := 872) (by decide +kernel), by decide +kernel⟩ hq ?_
    refine r_iload_n hX dJ0_charAt_5068e_11 rfl ?_
    refine r_callS hX dJ0_charAt_5068e_12 (s_J1_charAt E g m hq j hj) ml_J0_495 rfl rfl ⟨Nat.le_of_ble_eq_true rfl, Nat.le_of_ble_eq_true rfl⟩ ⟨Nat.le_of_ble_eq_true rfl, Nat.le_of_ble_eq_true rfl, rfl, Nat.le_of_ble_eq_true rfl⟩ (fun v12 g12 m12 hp => ?_)
    obtain ⟨hv, hg, hm⟩ := hp
    subst v12
    subst g12
    subst m12
    exact r_zret hX dJ0_charAt_5068e_15 (wrd_nar hq hj) ⟨rfl, rfl, rfl⟩ ⟨Nat.le_of_ble_eq_true rfl, Nat.le_of_ble_eq_true rfl⟩
