/-! ===== texts: what they are, their rows, their methods ===== -/
/-- the text ds at s, its bytes at v: a constant, or one that was made -/
def TxC (E : qE) (s v : Nat) (ds : List Nat) : Prop := ∃ (i : Nat) (x : List Int32), qwrd[i]? = some x ∧ s = eS E i ∧ v = eV E i ∧ x = ds.map nI
def TxR (g : qG) (m : qM) (s v : Nat) (ds : List Nat) : Prop := gAt g s (.inl 0) ∧ qR m s 0 = some v ∧ qI m s 1 = 0 ∧ gAt g v (.inr (2, ds.length)) ∧ ∀ j, j < ds.length → qI m v j = nI (ds.getD j 0)
def Txt (E : qE) (g : qG) (m : qM) (s v : Nat) (ds : List Nat) : Prop := (TxC E s v ds ∨ TxR g m s v ds) ∧ (∀ c ∈ ds, c < 128) ∧ ds.length ≤ 110
theorem map_nI {ds : List Nat} {j : Nat} (hj : j < ds.length) : (ds.map nI).getD j 0 = nI (ds.getD j 0) := by
  rw [List.getD_eq_getElem?_getD, List.getD_eq_getElem?_getD, List.getElem?_map, List.getElem?_eq_getElem hj]
  rfl
theorem getD_lt {ds : List Nat} (h : ∀ c ∈ ds, c < 128) {j : Nat} (hj : j < ds.length) : ds.getD j 0 < 128 := by
  rw [List.getD_eq_getElem?_getD, List.getElem?_eq_getElem hj]
  exact h _ (List.getElem_mem hj)
theorem TxR.sub {g G : qG} {m M : qM} {s v : Nat} {ds : List Nat} (h : TxR g m s v ds) (hs : Sub g m G M) : TxR G M s v ds := by
  obtain ⟨h1, h2, h3, h4, h5⟩ := h
  have e1 := hs s _ h1
  have e2 := hs v _ h4
  exact ⟨e1.1, (congrFun e1.2.2.1 0).trans h2, (congrFun e1.2.1 1).trans h3, e2.1, fun j hj => (congrFun e2.2.1 j).trans (h5 j hj)⟩
theorem Txt.sub {E : qE} {g G : qG} {m M : qM} {s v : Nat} {ds : List Nat} (h : Txt E g m s v ds) (hs : Sub g m G M) : Txt E G M s v ds := ⟨h.1.imp id (fun h => h.sub hs), h.2⟩
theorem SbR.sub {g G : qG} {m M : qM} {b v cap n : Nat} (h : SbR g m b v cap n) (hs : Sub g m G M) : SbR G M b v cap n := by
  obtain ⟨h1, h2, h3, h4, h5, h6, h7, h8⟩ := h
  have e1 := hs b _ h1
  have e2 := hs v _ h3
  exact ⟨e1.1, (congrFun e1.2.2.1 0).trans h2, e2.1, (congrFun e1.2.1 1).trans h4, (congrFun e1.2.1 3).trans h5, h6, h7, fun j hj => by
    rw [show qI M v j = qI m v j from congrFun e2.2.1 j]
    exact h8 j hj⟩
theorem SbIs.sub {g G : qG} {m M : qM} {b : Nat} {cs : List Nat} (h : SbIs g m b cs) (hs : Sub g m G M) : SbIs G M b cs := by
  obtain ⟨v, cap, h1, h2, h3⟩ := h
  exact ⟨v, cap, h1.sub hs, fun j hj => (congrFun (hs v _ h1.2.2.1).2.1 j).trans (h2 j hj), h3⟩
/-- ints are put into cells of the one memory -/
theorem Jn.putI {g h G : qG} {m n M : qM} (j : Jn g m h n G M) {f : Nat → Nat → Int32} {a : Nat} (ha : dom g a) (hf : ∀ b, b ≠ a → f b = M.1 b) : Jn g (f, m.2) h n G (f, M.2) ∧ True := by
  refine ⟨⟨j.1, j.2.1, fun b sh hb => ?_, fun b sh hb => ?_, j.2.2.2.2⟩, trivial⟩
  · obtain ⟨k1, k2⟩ := j.2.2.1 b sh hb
    exact ⟨k1, rfl, k2.2⟩
  · obtain ⟨k1, k2⟩ := j.2.2.2.1 b sh hb
    have hne : b ≠ a := fun e => j.2.2.2.2 a ha ⟨sh, by rw [← e]; exact hb⟩
    exact ⟨k1, (hf b hne).trans k2.1, k2.2⟩
section
variable {E : qE} {y : MethodName} {cc : ByteArray} {nL : Nat} {ret : Option FieldType} {k mc ms : Nat} {tab : List ExceptionTableEntry} {X : qX} {cN sN : Nat} {Q : State → Prop} {g : qG} {m : qM} {pc : Nat} {l : List (Option Value)} {st : List Value}
theorem r_txC (hX : MC E y cc nL ret k mc ms tab X) {s v idx : Nat} {ds : List Nat} (hT : Txt E g m s v ds) (d : decode cc pc = .ok (.getfield idx, 3)) (hw : InT (.fieldLink y.cls idx "java/lang/String" "coder" "B")) (hf : FL y.cls idx 0 1 false .byte true) (kk : WS E X cN sN Q g m (pc + 3) l (.int 0 :: st)) : WS E X cN sN Q g m pc l (.ref s :: st) := by
  rcases hT.1 with ⟨i, x, hq, rfl, -, -⟩ | hR
  · exact r_strC hX d hw hq kk
  · refine r_getI hX d hR.1 hf ?_
    rw [hR.2.2.1]
    exact kk
theorem r_txV (hX : MC E y cc nL ret k mc ms tab X) {s v idx : Nat} {ds : List Nat} (hT : Txt E g m s v ds) (d : decode cc pc = .ok (.getfield idx, 3)) (hw : InT (.fieldLink y.cls idx "java/lang/String" "value" "[B")) (hf : FL y.cls idx 0 0 true (.array .byte) true) (kk : WS E X cN sN Q g m (pc + 3) l (.ref v :: st)) : WS E X cN sN Q g m pc l (.ref s :: st) := by
  rcases hT.1 with ⟨i, x, hq, rfl, rfl, -⟩ | hR
  · exact r_strV hX d hw hq kk
  · exact r_getR hX d hR.1 hf hR.2.1 kk
theorem r_txL (hX : MC E y cc nL ret k mc ms tab X) {s v : Nat} {ds : List Nat} (hT : Txt E g m s v ds) (d : decode cc pc = .ok (.arraylength, 1)) (kk : WS E X cN sN Q g m (pc + 1) l (.int (nI ds.length) :: st)) : WS E X cN sN Q g m pc l (.ref v :: st) := by
  rcases hT.1 with ⟨i, x, hq, -, rfl, rfl⟩ | hR
  · exact r_strL hX d hq (by rw [List.length_map]; exact kk)
  · exact r_alen (v := nI ds.length) hX d hR.2.2.2.1 (by decide) rfl kk
theorem r_txB (hX : MC E y cc nL ret k mc ms tab X) {s v j : Nat} {ds : List Nat} (hT : Txt E g m s v ds) (d : decode cc pc = .ok (.baload, 1)) (hj : j < ds.length) (kk : WS E X cN sN Q g m (pc + 1) l (.int (nI (ds.getD j 0)) :: st)) : WS E X cN sN Q g m pc l (.int (nI j) :: .ref v :: st) := by
  have hz := hT.2.2
  rcases hT.1 with ⟨i, x, hq, -, rfl, rfl⟩ | hR
  · exact r_strB hX d hq (by rw [List.length_map]; exact hj) (by rw [List.length_map]; omega) (by rw [map_nI hj]; exact kk)
  · refine r_baload hX d hR.2.2.2.1 (vp_in_nI hj (by omega)) ?_
    rw [nI_clamp (by omega), hR.2.2.2.2 j hj]
    exact kk
theorem RowB.txt (hX : MC E y cc nL ret k mc ms tab X) {s v : Nat} {ds : List Nat} (hT : Txt E g m s v ds) : RowB E X g m v ds.length (fun j => nI (ds.getD j 0)) := by
  rcases hT.1 with ⟨i, x, hq, -, rfl, rfl⟩ | hR
  · intro H locs h1 h2
    obtain ⟨cs, c1, c2, c3, c4⟩ := RowB.const (g := g) (m := m) hX hq H locs h1 h2
    exact ⟨cs, c1, c2, c3, fun j hj => (c4 j (by rw [List.length_map]; exact hj)).trans (congrArg (fun z => some (Value.int z)) (map_nI hj))⟩
  · intro H locs h1 h2
    obtain ⟨cs, c1, c2, c3, c4⟩ := RowB.own (n := ds.length) hX hR.2.2.2.1 (Nat.le_refl _) H locs h1 h2
    exact ⟨cs, c1, c2, c3, fun j hj => (c4 j hj).trans (by rw [show m.1 v j = nI (ds.getD j 0) from hR.2.2.2.2 j hj])⟩
theorem r_callTx (hX : MC E y cc nL ret k mc ms tab X) {s v idx n k' mc' ms' nL' : Nat} {ds : List Nat} {y' : MethodName} {cc' : ByteArray} {ret' : Option FieldType} {As rest : List Value} {post : Option Value → qG → qM → Prop} (d : decode cc pc = .ok (.invokevirtual idx, 3)) (hT : Txt E g m s v ds)
    (hM : Sp E y' cc' nL' ret' k' mc' ms' (.ref s :: As) g m post) (hl : MLV y.cls idx y' cc' nL' ret' n) (hn : As.length = n) (hst : st = As.reverse ++ .ref s :: rest) (hc : y'.cls = "java/lang/String")
    (hk : k' + 1 ≤ k ∧ nL' ≤ 45) (hr : cN + mc' ≤ mc ∧ sN + ms' ≤ ms ∧ l.length = nL ∧ (rest.map fun v => v.category).sum ≤ 8)
    (kk : ∀ (v : Option Value) (g' : qG) (m' : qM), post v g' m' → WS E X (cN + mc') (sN + ms') Q g' m' (pc + 3) l (v.toList ++ rest)) : WS E X cN sN Q g m pc l st := by
  rcases hT.1 with ⟨i, x, hq, rfl, -, -⟩ | hR
  · exact r_callStr hX d hq hM hl hn hst hc hk hr kk
  · exact r_callV hX d hM hl hn hst hR.1 (by rw [hc]; rfl) hk hr kk
end
set_option maxRecDepth 20000 in
set_option maxHeartbeats 4000000 in
theorem t_J0_coder (E : qE) (g : qG) (m : qM) (s v : Nat) (ds : List Nat) (hT : Txt E g m s v ds) : Sp E yJ0_coder_7d493 cJ0_coder_7d493 1 (some .byte) 0 0 0 [.ref s] g m (fun v g' m' => v = some (.int 0) ∧ g' = g ∧ m' = m) := by
  refine Sp.ofF (by decide +kernel) [some (.ref s)] rfl rfl (Nat.le_of_ble_eq_true rfl) (fun X hX => ?_)
  refine r_getsC hX dJ0_coder_7d493_0 ⟨List.mem_of_getElem? (i := 755) (by decide +kernel), by decide +kernel⟩ ?_
  refine r_if_eq (tgt := 13) hX dJ0_coder_7d493_3 (by decide) (fun c3 => ?_) (fun c3 => ?_)
  · exact absurd c3 (by decide)
  · refine r_aload_n hX dJ0_coder_7d493_6 rfl ?_
    refine r_txC hX hT dJ0_coder_7d493_7 fw_J0_15 fl_J0_15 ?_
    refine r_goto (tgt := 14) hX dJ0_coder_7d493_10 (by decide) ?_
    exact r_zret hX dJ0_coder_7d493_14 rfl ⟨rfl, rfl, rfl⟩ ⟨Nat.le_of_ble_eq_true rfl, Nat.le_of_ble_eq_true rfl⟩
set_option maxRecDepth 20000 in
set_option maxHeartbeats 4000000 in
theorem t_J0_isLatin1 (E : qE) (g : qG) (m : qM) (s v : Nat) (ds : List Nat) (hT : Txt E g m s v ds) : Sp E yJ0_isLatin1_aae02 cJ0_isLatin1_aae02 1 (some .boolean) 0 0 0 [.ref s] g m (fun v g' m' => v = some (.int 1) ∧ g' = g ∧ m' = m) := by
  refine Sp.ofF (by decide +kernel) [some (.ref s)] rfl rfl (Nat.le_of_ble_eq_true rfl) (fun X hX => ?_)
  refine r_getsC hX dJ0_isLatin1_aae02_0 ⟨List.mem_of_getElem? (i := 755) (by decide +kernel), by decide +kernel⟩ ?_
  refine r_if_eq (tgt := 17) hX dJ0_isLatin1_aae02_3 (by decide) (fun c3 => ?_) (fun c3 => ?_)
  · exact absurd c3 (by decide)
  · refine r_aload_n hX dJ0_isLatin1_aae02_6 rfl ?_
    refine r_txC hX hT dJ0_isLatin1_aae02_7 fw_J0_15 fl_J0_15 ?_
    refine r_if_ne (tgt := 17) hX dJ0_isLatin1_aae02_10 (by decide) (fun c10 => ?_) (fun c10 => ?_)
    · exact absurd rfl c10
    · refine r_iconst (v := 1) hX dJ0_isLatin1_aae02_13 (by decide) ?_
      refine r_goto (tgt := 18) hX dJ0_isLatin1_aae02_14 (by decide) ?_
      exact r_zret hX dJ0_isLatin1_aae02_18 rfl ⟨rfl, rfl, rfl⟩ ⟨Nat.le_of_ble_eq_true rfl, Nat.le_of_ble_eq_true rfl⟩
set_option maxRecDepth 20000 in
set_option maxHeartbeats 4000000 in
theorem t_J0_length (E : qE) (g : qG) (m : qM) (s v : Nat) (ds : List Nat) (hT : Txt E g m s v ds) : Sp E yJ0_length_8abf5 cJ0_length_8abf5 1 (some .int) 1 0 0 [.ref s] g m (fun v g' m' => v = some (.int (nI ds.length)) ∧ g' = g ∧ m' = m) := by
  refine Sp.ofF (by decide +kernel) [some (.ref s)] rfl rfl (Nat.le_of_ble_eq_true rfl) (fun X hX => ?_)
  refine r_aload_n hX dJ0_length_8abf5_0 rfl ?_
  refine r_txV hX hT dJ0_length_8abf5_1 fw_J0_9 fl_J0_9 ?_
  refine r_txL hX hT dJ0_length_8abf5_4 ?_
  refine r_aload_n hX dJ0_length_8abf5_5 rfl ?_
  refine r_callTx hX dJ0_length_8abf5_6 hT (t_J0_coder E g m s v ds hT) ml_J0_335 rfl rfl rfl ⟨Nat.le_of_ble_eq_true rfl, Nat.le_of_ble_eq_true rfl⟩ ⟨Nat.le_of_ble_eq_true rfl, Nat.le_of_ble_eq_true rfl, rfl, Nat.le_of_ble_eq_true rfl⟩ (fun v6 g6 m6 hp => ?_)
  obtain ⟨hv, hg, hm⟩ := hp
  subst v6
  subst g6
  subst m6
  refine r_ishr hX dJ0_length_8abf5_9 ?_
  rw [shr0 (by have := hT.2.2; omega)]
  exact r_iret hX dJ0_length_8abf5_10 ⟨rfl, rfl, rfl⟩ ⟨Nat.le_of_ble_eq_true rfl, Nat.le_of_ble_eq_true rfl⟩
set_option maxRecDepth 20000 in
set_option maxHeartbeats 4000000 in
theorem t_J1_charAt (E : qE) (g : qG) (m : qM) (s v : Nat) (ds : List Nat) (hT : Txt E g m s v ds) (j : Nat) (hj : j < ds.length) : Sp E yJ1_charAt_3b067 cJ1_charAt_3b067 2 (some .char) 2 0 0 [.ref v, .int (nI j)] g m (fun v g' m' => v = some (.int (nI (ds.getD j 0))) ∧ g' = g ∧ m' = m) := by
  refine Sp.ofF (by decide +kernel) [some (.ref v), some (.int (nI j))] rfl rfl (Nat.le_of_ble_eq_true rfl) (fun X hX => ?_)
  have hsz := hT.2.2
  have hc := getD_lt hT.2.1 hj
  refine r_iload_n hX dJ1_charAt_3b067_0 rfl ?_
  refine r_aload_n hX dJ1_charAt_3b067_1 rfl ?_
  refine r_txL hX hT dJ1_charAt_3b067_2 ?_
  refine r_callS hX dJ1_charAt_3b067_3 (s_J0_checkIndex E g m j ds.length hj (by omega)) ml_J1_9 rfl rfl ⟨Nat.le_of_ble_eq_true rfl, Nat.le_of_ble_eq_true rfl⟩ ⟨Nat.le_of_ble_eq_true rfl, Nat.le_of_ble_eq_true rfl, rfl, Nat.le_of_ble_eq_true rfl⟩ (fun v3 g3 m3 hp => ?_)
  obtain ⟨hv, hg, hm⟩ := hp
  subst v3
  subst g3
  subst m3
  refine r_aload_n hX dJ1_charAt_3b067_6 rfl ?_
  refine r_iload_n hX dJ1_charAt_3b067_7 rfl ?_
  refine r_txB hX hT dJ1_charAt_3b067_8 hj ?_
  refine r_sipush (v := 255) hX dJ1_charAt_3b067_9 (by decide) ?_
  refine r_iand hX dJ1_charAt_3b067_12 ?_
  refine r_i2c hX dJ1_charAt_3b067_13 ?_
  rw [i2cN hc]
  exact r_zret hX dJ1_charAt_3b067_14 (narC hc) ⟨rfl, rfl, rfl⟩ ⟨Nat.le_of_ble_eq_true rfl, Nat.le_of_ble_eq_true rfl⟩
set_option maxRecDepth 20000 in
set_option maxHeartbeats 4000000 in
theorem t_J0_charAt (E : qE) (g : qG) (m : qM) (s v : Nat) (ds : List Nat) (hT : Txt E g m s v ds) (j : Nat) (hj : j < ds.length) : Sp E yJ0_charAt_5068e cJ0_charAt_5068e 2 (some .char) 3 0 0 [.ref s, .int (nI j)] g m (fun v g' m' => v = some (.int (nI (ds.getD j 0))) ∧ g' = g ∧ m' = m) := by
  refine Sp.ofF (by decide +kernel) [some (.ref s), some (.int (nI j))] rfl rfl (Nat.le_of_ble_eq_true rfl) (fun X hX => ?_)
  have hc := getD_lt hT.2.1 hj
  refine r_aload_n hX dJ0_charAt_5068e_0 rfl ?_
  refine r_callTx hX dJ0_charAt_5068e_1 hT (t_J0_isLatin1 E g m s v ds hT) ml_J0_492 rfl rfl rfl ⟨Nat.le_of_ble_eq_true rfl, Nat.le_of_ble_eq_true rfl⟩ ⟨Nat.le_of_ble_eq_true rfl, Nat.le_of_ble_eq_true rfl, rfl, Nat.le_of_ble_eq_true rfl⟩ (fun v1 g1 m1 hp => ?_)
  obtain ⟨hv, hg, hm⟩ := hp
  subst v1
  subst g1
  subst m1
  refine r_if_eq (tgt := 16) hX dJ0_charAt_5068e_4 (by decide) (fun c4 => ?_) (fun c4 => ?_)
  · exact absurd c4 (by decide)
  · refine r_aload_n hX dJ0_charAt_5068e_7 rfl ?_
    refine r_txV hX hT dJ0_charAt_5068e_8 fw_J0_9 fl_J0_9 ?_
    refine r_iload_n hX dJ0_charAt_5068e_11 rfl ?_
    refine r_callS hX dJ0_charAt_5068e_12 (t_J1_charAt E g m s v ds hT j hj) ml_J0_495 rfl rfl ⟨Nat.le_of_ble_eq_true rfl, Nat.le_of_ble_eq_true rfl⟩ ⟨Nat.le_of_ble_eq_true rfl, Nat.le_of_ble_eq_true rfl, rfl, Nat.le_of_ble_eq_true rfl⟩ (fun v12 g12 m12 hp => ?_)
    obtain ⟨hv, hg, hm⟩ := hp
    subst v12
    subst g12
    subst m12
    exact r_zret hX dJ0_charAt_5068e_15 (narC hc) ⟨rfl, rfl, rfl⟩ ⟨Nat.le_of_ble_eq_true rfl, Nat.le_of_ble_eq_true rfl⟩
set_option maxRecDepth 20000 in
set_option maxHeartbeats 4000000 in
theorem t_J0_getBytes (E : qE) (g : qG) (m : qM) (s v : Nat) (ds : List Nat) (hT : Txt E g m s v ds) (a k0 n1 : Nat) (ha : gAt g a (.inr (2, n1))) (hk : k0 + ds.length ≤ n1 ∧ n1 ≤ 300) : Sp E yJ0_getBytes_840e7 cJ0_getBytes_840e7 4 none 2 0 0 [.ref s, .ref a, .int (nI k0), .int 0] g m (fun v g' m' => v = none ∧ g' = g ∧ m' = ((fun b j => if b = a ∧ k0 ≤ j ∧ j < k0 + ds.length then nI (ds.getD (j - k0) 0) else m.1 b j, m.2) : qM)) := by
  refine Sp.ofF (by decide +kernel) [some (.ref s), some (.ref a), some (.int (nI k0)), some (.int 0)] rfl rfl (Nat.le_of_ble_eq_true rfl) (fun X hX => ?_)
  refine r_aload_n hX dJ0_getBytes_840e7_0 rfl ?_
  refine r_callTx hX dJ0_getBytes_840e7_1 hT (t_J0_coder E g m s v ds hT) ml_J0_335 rfl rfl rfl ⟨Nat.le_of_ble_eq_true rfl, Nat.le_of_ble_eq_true rfl⟩ ⟨Nat.le_of_ble_eq_true rfl, Nat.le_of_ble_eq_true rfl, rfl, Nat.le_of_ble_eq_true rfl⟩ (fun v1 g1 m1 hp => ?_)
  obtain ⟨hv, hg, hm⟩ := hp
  subst v1
  subst g1
  subst m1
  refine r_iload_n hX dJ0_getBytes_840e7_4 rfl ?_
  refine r_icmp_ne (tgt := 28) hX dJ0_getBytes_840e7_5 (by decide) (fun c5 => ?_) (fun c5 => ?_)
  · exact absurd rfl c5
  · refine r_aload_n hX dJ0_getBytes_840e7_8 rfl ?_
    refine r_txV hX hT dJ0_getBytes_840e7_9 fw_J0_9 fl_J0_9 ?_
    refine r_iconst (v := 0) hX dJ0_getBytes_840e7_12 (by decide) ?_
    refine r_aload_n hX dJ0_getBytes_840e7_13 rfl ?_
    refine r_iload_n hX dJ0_getBytes_840e7_14 rfl ?_
    refine r_iload_n hX dJ0_getBytes_840e7_15 rfl ?_
    refine r_ishl hX dJ0_getBytes_840e7_16 ?_
    rw [shl0 (by omega)]
    refine r_aload_n hX dJ0_getBytes_840e7_17 rfl ?_
    refine r_txV hX hT dJ0_getBytes_840e7_18 fw_J0_9 fl_J0_9 ?_
    refine r_txL hX hT dJ0_getBytes_840e7_21 ?_
    refine r_acopyG hX dJ0_getBytes_840e7_22 ⟨⟨List.mem_of_getElem? (i := 788) (by decide +kernel), by decide +kernel⟩, ⟨List.mem_of_getElem? (i := 715) (by decide +kernel), by decide +kernel⟩, ⟨List.mem_of_getElem? (i := 714) (by decide +kernel), by decide +kernel⟩, ⟨List.mem_of_getElem? (i := 35) (by decide +kernel), by decide +kernel⟩⟩ (RowB.txt hX hT) ha (by omega) (fun i hi => fitN (getD_lt hT.2.1 hi)) ⟨Nat.le_of_ble_eq_true rfl, rfl, Nat.le_of_ble_eq_true rfl⟩ ?_
    refine r_goto (tgt := 43) hX dJ0_getBytes_840e7_25 (by decide) ?_
    exact r_vret hX dJ0_getBytes_840e7_43 ⟨rfl, rfl, rfl⟩ ⟨Nat.le_of_ble_eq_true rfl, Nat.le_of_ble_eq_true rfl⟩
set_option maxRecDepth 20000 in
set_option maxHeartbeats 4000000 in
theorem t_J5_inflIf (E : qE) (g : qG) (m : qM) (b w cap n : Nat) (hS : SbR g m b w cap n) (s v : Nat) (ds : List Nat) (hT : Txt E g m s v ds) : Sp E yJ5_inflateIfNeededFor_a7421 cJ5_inflateIfNeededFor_a7421 2 none 1 0 0 [.ref b, .ref s] g m (fun v g' m' => v = none ∧ g' = g ∧ m' = m) := by
  refine Sp.ofF (by decide +kernel) [some (.ref b), some (.ref s)] rfl rfl (Nat.le_of_ble_eq_true rfl) (fun X hX => ?_)
  refine r_getsC hX dJ5_inflateIfNeededFor_a7421_0 ⟨List.mem_of_getElem? (i := 245) (by decide +kernel), by decide +kernel⟩ ?_
  refine r_if_eq (tgt := 21) hX dJ5_inflateIfNeededFor_a7421_3 (by decide) (fun c3 => ?_) (fun c3 => ?_)
  · exact absurd c3 (by decide)
  · refine r_aload_n hX dJ5_inflateIfNeededFor_a7421_6 rfl ?_
    refine r_getI hX dJ5_inflateIfNeededFor_a7421_7 hS.1 fl_J5_22 ?_
    rw [hS.2.2.2.1]
    refine r_aload_n hX dJ5_inflateIfNeededFor_a7421_10 rfl ?_
    refine r_callTx hX dJ5_inflateIfNeededFor_a7421_11 hT (t_J0_coder E g m s v ds hT) ml_J5_40 rfl rfl rfl ⟨Nat.le_of_ble_eq_true rfl, Nat.le_of_ble_eq_true rfl⟩ ⟨Nat.le_of_ble_eq_true rfl, Nat.le_of_ble_eq_true rfl, rfl, Nat.le_of_ble_eq_true rfl⟩ (fun v11 g11 m11 hp => ?_)
    obtain ⟨hv, hg, hm⟩ := hp
    subst v11
    subst g11
    subst m11
    refine r_icmp_eq (tgt := 21) hX dJ5_inflateIfNeededFor_a7421_14 (by decide) (fun c14 => ?_) (fun c14 => ?_)
    · exact r_vret hX dJ5_inflateIfNeededFor_a7421_21 ⟨rfl, rfl, rfl⟩ ⟨Nat.le_of_ble_eq_true rfl, Nat.le_of_ble_eq_true rfl⟩
    · exact absurd rfl c14
set_option maxRecDepth 20000 in
set_option maxHeartbeats 4000000 in
theorem t_J5_putS (E : qE) (g : qG) (m : qM) (b w cap n : Nat) (hS : SbR g m b w cap n) (s v : Nat) (ds : List Nat) (hT : Txt E g m s v ds) (k0 : Nat) (hk : k0 + ds.length ≤ cap) : Sp E yJ5_putStringAt_47b60 cJ5_putStringAt_47b60 3 none 3 0 0 [.ref b, .int (nI k0), .ref s] g m (fun v g' m' => v = none ∧ g' = g ∧ m' = ((fun b j => if b = w ∧ k0 ≤ j ∧ j < k0 + ds.length then nI (ds.getD (j - k0) 0) else m.1 b j, m.2) : qM)) := by
  refine Sp.ofF (by decide +kernel) [some (.ref b), some (.int (nI k0)), some (.ref s)] rfl rfl (Nat.le_of_ble_eq_true rfl) (fun X hX => ?_)
  have hcp := hS.2.2.2.2.2.2.1
  refine r_aload_n hX dJ5_putStringAt_47b60_0 rfl ?_
  refine r_aload_n hX dJ5_putStringAt_47b60_1 rfl ?_
  refine r_callU hX dJ5_putStringAt_47b60_2 (t_J5_inflIf E g m b w cap n hS s v ds hT) mlu_J5_397 rfl rfl hS.1 rfl ⟨Nat.le_of_ble_eq_true rfl, Nat.le_of_ble_eq_true rfl⟩ ⟨Nat.le_of_ble_eq_true rfl, Nat.le_of_ble_eq_true rfl, rfl, Nat.le_of_ble_eq_true rfl⟩ (fun v2 g2 m2 hp => ?_)
  obtain ⟨hv, hg, hm⟩ := hp
  subst v2
  subst g2
  subst m2
  refine r_aload_n hX dJ5_putStringAt_47b60_5 rfl ?_
  refine r_aload_n hX dJ5_putStringAt_47b60_6 rfl ?_
  refine r_getR hX dJ5_putStringAt_47b60_7 hS.1 fl_J5_15 hS.2.1 ?_
  refine r_iload_n hX dJ5_putStringAt_47b60_10 rfl ?_
  refine r_aload_n hX dJ5_putStringAt_47b60_11 rfl ?_
  refine r_getI hX dJ5_putStringAt_47b60_12 hS.1 fl_J5_22 ?_
  rw [hS.2.2.2.1]
  refine r_callTx hX dJ5_putStringAt_47b60_15 hT (t_J0_getBytes E g m s v ds hT w k0 cap hS.2.2.1 ⟨hk, hcp⟩) ml_J5_399 rfl rfl rfl ⟨Nat.le_of_ble_eq_true rfl, Nat.le_of_ble_eq_true rfl⟩ ⟨Nat.le_of_ble_eq_true rfl, Nat.le_of_ble_eq_true rfl, rfl, Nat.le_of_ble_eq_true rfl⟩ (fun v15 g15 m15 hp => ?_)
  obtain ⟨hv, hg, hm⟩ := hp
  subst v15
  subst g15
  subst m15
  exact r_vret hX dJ5_putStringAt_47b60_18 ⟨rfl, rfl, rfl⟩ ⟨Nat.le_of_ble_eq_true rfl, Nat.le_of_ble_eq_true rfl⟩
set_option maxRecDepth 20000 in
set_option maxHeartbeats 4000000 in
theorem t_J5_appS (E : qE) {g h G : qG} {m n M : qM} (j : Jn g m h n G M) (b : Nat) (cs : List Nat) (hB : SbIs g m b cs) (s v : Nat) (ds : List Nat) (hT : Txt E h n s v ds) (hz : cs.length + ds.length ≤ 110) : Sp E yJ5_append_cf1ce cJ5_append_cf1ce 3 (some (.object "java/lang/AbstractStringBuilder")) 4 1 300 [.ref b, .ref s] G M (fun x' G' M' => x' = some (.ref b) ∧ ∃ g' m', SbIs g' m' b (cs ++ ds) ∧ Jn g' m' (h.1, g'.2) n G' M') := by
  refine Sp.ofF (by decide +kernel) [some (.ref b), some (.ref s), none] rfl rfl (Nat.le_of_ble_eq_true rfl) (fun X hX => ?_)
  obtain ⟨w, cap, hS, hf, hl⟩ := hB
  have hSG0 := hS.sub j.2.2.1
  have hTG0 := hT.sub j.2.2.2.1
  refine r_aload_n hX dJ5_append_cf1ce_0 rfl ?_
  refine r_ifnonnull (tgt := 9) hX dJ5_append_cf1ce_1 (by decide) ?_
  refine r_aload_n hX dJ5_append_cf1ce_9 rfl ?_
  refine r_callTx hX dJ5_append_cf1ce_10 hTG0 (t_J0_length E G M s v ds hTG0) ml_J5_32 rfl rfl rfl ⟨Nat.le_of_ble_eq_true rfl, Nat.le_of_ble_eq_true rfl⟩ ⟨Nat.le_of_ble_eq_true rfl, Nat.le_of_ble_eq_true rfl, rfl, Nat.le_of_ble_eq_true rfl⟩ (fun v10 g10 m10 hp => ?_)
  obtain ⟨hv, hg, hm⟩ := hp
  subst v10
  subst g10
  subst m10
  refine r_istore_n hX dJ5_append_cf1ce_13 (Nat.le_of_ble_eq_true rfl) rfl ?_
  refine r_aload_n hX dJ5_append_cf1ce_14 rfl ?_
  refine r_aload_n hX dJ5_append_cf1ce_15 rfl ?_
  refine r_getI hX dJ5_append_cf1ce_16 hSG0.1 fl_J5_79 ?_
  rw [hSG0.2.2.2.2.1]
  refine r_iload_n hX dJ5_append_cf1ce_19 rfl ?_
  refine r_iadd hX dJ5_append_cf1ce_20 ?_
  rw [nI_add]
  refine r_callU hX dJ5_append_cf1ce_21 (Sp.join j (s_J5_ensure (eP E (dom h)) g m b w cap cs.length hS (cs.length + ds.length) hz)) mlu_J5_100 rfl rfl hSG0.1 rfl ⟨Nat.le_of_ble_eq_true rfl, Nat.le_of_ble_eq_true rfl⟩ ⟨Nat.le_of_ble_eq_true rfl, Nat.le_of_ble_eq_true rfl, rfl, Nat.le_of_ble_eq_true rfl⟩ (fun v21 g21 m21 hp => ?_)
  obtain ⟨g21', m21', ⟨hv, v1, cap1, hS2, he2, hj2, -⟩, j2⟩ := hp
  subst v21
  have hcap := hS.2.2.2.2.2.1
  have hcap1 := hS2.2.2.2.2.2.2.1
  have hf2 : ∀ i, i < cs.length → qI m21' v1 i = nI (cs.getD i 0) := fun i hi => (hj2 i (by omega)).trans (hf i hi)
  have hSG := hS2.sub j2.2.2.1
  have hTG : Txt E g21 m21 s v ds := Txt.sub (g := (h.1, g21'.2)) (h := hT) j2.2.2.2.1
  refine r_aload_n hX dJ5_append_cf1ce_24 rfl ?_
  refine r_aload_n hX dJ5_append_cf1ce_25 rfl ?_
  refine r_getI hX dJ5_append_cf1ce_26 hSG.1 fl_J5_79 ?_
  rw [hSG.2.2.2.2.1]
  refine r_aload_n hX dJ5_append_cf1ce_29 rfl ?_
  refine r_callU hX dJ5_append_cf1ce_30 (t_J5_putS E g21 m21 b v1 cap1 cs.length hSG s v ds hTG cs.length he2) mlu_J5_208 rfl rfl hSG.1 rfl ⟨Nat.le_of_ble_eq_true rfl, Nat.le_of_ble_eq_true rfl⟩ ⟨Nat.le_of_ble_eq_true rfl, Nat.le_of_ble_eq_true rfl, rfl, Nat.le_of_ble_eq_true rfl⟩ (fun v30 g30 m30 hp => ?_)
  obtain ⟨hv, hg, hm⟩ := hp
  subst v30
  subst g30
  subst m30
  have e3 : qI ((fun a i => if a = v1 ∧ cs.length ≤ i ∧ i < cs.length + ds.length then nI (ds.getD (i - cs.length) 0) else m21.1 a i, m21.2) : qM) b 3 = nI cs.length := (if_neg (fun q => hSG.ne q.1)).trans hSG.2.2.2.2.1
  refine r_aload_n hX dJ5_append_cf1ce_33 rfl ?_
  refine r_dup hX dJ5_append_cf1ce_34 rfl ?_
  refine r_getI hX dJ5_append_cf1ce_35 hSG.1 fl_J5_79 ?_
  rw [e3]
  refine r_iload_n hX dJ5_append_cf1ce_38 rfl ?_
  refine r_iadd hX dJ5_append_cf1ce_39 ?_
  rw [nI_add]
  refine r_putI hX dJ5_append_cf1ce_40 hSG.1 fl_J5_79 ?_
  refine r_aload_n hX dJ5_append_cf1ce_43 rfl ?_
  have jf : Jn g21' ((fun a i' => if a = b ∧ i' = 3 then nI (cs.length + ds.length) else if a = v1 ∧ cs.length ≤ i' ∧ i' < cs.length + ds.length then nI (ds.getD (i' - cs.length) 0) else m21.1 a i'), m21'.2) (h.1, g21'.2) n g21 ((fun a i' => if a = b ∧ i' = 3 then nI (cs.length + ds.length) else if a = v1 ∧ cs.length ≤ i' ∧ i' < cs.length + ds.length then nI (ds.getD (i' - cs.length) 0) else m21.1 a i'), m21.2) :=
    ((j2.putI (f := (fun a i' => if a = v1 ∧ cs.length ≤ i' ∧ i' < cs.length + ds.length then nI (ds.getD (i' - cs.length) 0) else m21.1 a i')) (a := v1) ⟨_, hS2.2.2.1⟩ (fun a ha => funext fun i' => if_neg (fun q => ha q.1))).1.putI (f := (fun a i' => if a = b ∧ i' = 3 then nI (cs.length + ds.length) else if a = v1 ∧ cs.length ≤ i' ∧ i' < cs.length + ds.length then nI (ds.getD (i' - cs.length) 0) else m21.1 a i')) (a := b) ⟨_, hS2.1⟩ (fun a ha => funext fun i' => if_neg (fun q => ha q.1))).1
  refine r_aret hX dJ5_append_cf1ce_44 (Or.inl ⟨_, rfl⟩) (Or.inr ⟨_, rfl⟩) ⟨rfl, g21', ((fun a i' => if a = b ∧ i' = 3 then nI (cs.length + ds.length) else if a = v1 ∧ cs.length ≤ i' ∧ i' < cs.length + ds.length then nI (ds.getD (i' - cs.length) 0) else m21.1 a i'), m21'.2), ⟨v1, cap1, ⟨hS2.1, hS2.2.1, hS2.2.2.1, ?_, ?_, ?_, hcap1, fun i hi => ?_⟩, fun i hi => ?_, ?_⟩, jf⟩ ⟨Nat.le_of_ble_eq_true rfl, Nat.le_of_ble_eq_true rfl⟩
  · exact (if_neg (fun q => absurd q.2 (by decide))).trans ((if_neg (fun q => hS2.ne q.1)).trans hSG.2.2.2.1)
  · rw [List.length_append]
    exact if_pos ⟨rfl, rfl⟩
  · rw [List.length_append]
    exact he2
  · show fits .byte (.int (if v1 = b ∧ i = 3 then _ else if v1 = v1 ∧ cs.length ≤ i ∧ i < cs.length + ds.length then _ else _)) = true
    rw [if_neg (fun q => hS2.ne q.1.symm)]
    split
    · exact fitN (getD_lt hT.2.1 (by omega))
    · exact hSG.2.2.2.2.2.2.2 i hi
  · rw [List.length_append] at hi
    show (if v1 = b ∧ i = 3 then _ else if v1 = v1 ∧ cs.length ≤ i ∧ i < cs.length + ds.length then _ else _) = _
    rw [if_neg (fun q => hS2.ne q.1.symm), getD_app]
    by_cases e : i < cs.length
    · rw [if_neg (fun q => absurd q.2.1 (by omega)), if_pos e]
      exact (congrFun (j2.2.2.1 v1 _ hS2.2.2.1).2.1 i).trans (hf2 i e)
    · rw [if_pos ⟨rfl, by omega, hi⟩, if_neg e]
  · intro c hc
    rcases List.mem_append.mp hc with q | q
    · exact hl c q
    · exact hT.2.1 c q
set_option maxRecDepth 20000 in
set_option maxHeartbeats 4000000 in
theorem t_J4_appS (E : qE) {g h G : qG} {m n M : qM} (j : Jn g m h n G M) (b : Nat) (cs : List Nat) (hB : SbIs g m b cs) (s v : Nat) (ds : List Nat) (hT : Txt E h n s v ds) (hz : cs.length + ds.length ≤ 110) : Sp E yJ4_append_15ec4 cJ4_append_15ec4 2 (some (.object "java/lang/StringBuilder")) 5 1 300 [.ref b, .ref s] G M (fun x' G' M' => x' = some (.ref b) ∧ ∃ g' m', SbIs g' m' b (cs ++ ds) ∧ Jn g' m' (h.1, g'.2) n G' M') := by
  refine Sp.ofF (by decide +kernel) [some (.ref b), some (.ref s)] rfl rfl (Nat.le_of_ble_eq_true rfl) (fun X hX => ?_)
  have hbG : gAt G b (.inl 1) := (j.2.2.1 b _ hB.choose_spec.choose_spec.1.1).1
  refine r_aload_n hX dJ4_append_15ec4_0 rfl ?_
  refine r_aload_n hX dJ4_append_15ec4_1 rfl ?_
  refine r_callP hX dJ4_append_15ec4_2 (t_J5_appS E j b cs hB s v ds hT hz) mlp_J4_29 sb_ins rfl rfl hbG rfl ⟨Nat.le_of_ble_eq_true rfl, Nat.le_of_ble_eq_true rfl⟩ ⟨Nat.le_of_ble_eq_true rfl, Nat.le_of_ble_eq_true rfl, rfl, Nat.le_of_ble_eq_true rfl⟩ (fun v2 g2 m2 hp => ?_)
  obtain ⟨hv, hp⟩ := hp
  subst v2
  refine r_pop hX dJ4_append_15ec4_5 rfl ?_
  refine r_aload_n hX dJ4_append_15ec4_6 rfl ?_
  exact r_aret hX dJ4_append_15ec4_7 (Or.inl ⟨_, rfl⟩) (Or.inr ⟨_, rfl⟩) ⟨rfl, hp⟩ ⟨Nat.le_of_ble_eq_true rfl, Nat.le_of_ble_eq_true rfl⟩
set_option maxRecDepth 20000 in
set_option maxHeartbeats 4000000 in
theorem t_J5_getValue (E : qE) (g : qG) (m : qM) (b w cap n : Nat) (hS : SbR g m b w cap n)  : Sp E yJ5_getValue_6d5f1 cJ5_getValue_6d5f1 1 (some (.array .byte)) 0 0 0 [.ref b] g m (fun x' g' m' => x' = some (.ref w) ∧ g' = g ∧ m' = m) := by
  refine Sp.ofF (by decide +kernel) [some (.ref b)] rfl rfl (Nat.le_of_ble_eq_true rfl) (fun X hX => ?_)
  refine r_aload_n hX dJ5_getValue_6d5f1_0 rfl ?_
  refine r_getR hX dJ5_getValue_6d5f1_1 hS.1 fl_J5_15 hS.2.1 ?_
  exact r_aret hX dJ5_getValue_6d5f1_4 (Or.inr ⟨_, rfl⟩) (Or.inr ⟨_, rfl⟩) ⟨rfl, rfl, rfl⟩ ⟨Nat.le_of_ble_eq_true rfl, Nat.le_of_ble_eq_true rfl⟩
set_option maxRecDepth 20000 in
set_option maxHeartbeats 4000000 in
theorem t_J7_checkLength (E : qE) (g : qG) (m : qM) (z : Nat) (hz : z ≤ 300) : Sp E yJ7_checkLength_df160 cJ7_checkLength_df160 2 none 0 0 0 [.int 0, .int (nI z)] g m (fun x' g' m' => x' = none ∧ g' = g ∧ m' = m) := by
  refine Sp.ofF (by decide +kernel) [some (.int 0), some (.int (nI z))] rfl rfl (Nat.le_of_ble_eq_true rfl) (fun X hX => ?_)
  refine r_iload_n hX dJ7_checkLength_df160_0 rfl ?_
  refine r_iload_n hX dJ7_checkLength_df160_1 rfl ?_
  refine r_icmp_ge (tgt := 37) hX dJ7_checkLength_df160_2 (by decide) (fun c2 => ?_) (fun c2 => ?_)
  · exact r_vret hX dJ7_checkLength_df160_37 ⟨rfl, rfl, rfl⟩ ⟨Nat.le_of_ble_eq_true rfl, Nat.le_of_ble_eq_true rfl⟩
  · exact absurd (nI_pos' (by omega)) c2
set_option maxRecDepth 20000 in
set_option maxHeartbeats 4000000 in
theorem t_J7_cpyB (E : qE) (g : qG) (m : qM) (w cap z : Nat) (hw : gAt g w (.inr (2, cap))) (hf : fitB m w cap) (hz : z ≤ cap ∧ cap ≤ 300) : Sp E yJ7_copyOfRangeByte_39247 cJ7_copyOfRangeByte_39247 5 (some (.array .byte)) 2 1 z [.ref w, .int 0, .int (nI z)] g m (fun x' g' m' => x' = some (.ref g.2) ∧ g' = gNew g (.inr (2, z)) ∧ (∀ i, i < z → qI m' g.2 i = qI m w i) ∧ ∀ a, a < g.2 → SameA m m' a) := by
  refine Sp.ofF (by decide +kernel) [some (.ref w), some (.int 0), some (.int (nI z)), none, none] rfl rfl (Nat.le_of_ble_eq_true rfl) (fun X hX => ?_)
  refine r_known (fun hk => ?_)
  have hwl := hk _ _ hw
  have hwn : w ≠ g.2 := Nat.ne_of_lt hwl
  refine r_iload_n hX dJ7_copyOfRangeByte_39247_0 rfl ?_
  refine r_iload_n hX dJ7_copyOfRangeByte_39247_1 rfl ?_
  refine r_callS hX dJ7_copyOfRangeByte_39247_2 (t_J7_checkLength E g m z (by omega)) ml_J7_343 rfl rfl ⟨Nat.le_of_ble_eq_true rfl, Nat.le_of_ble_eq_true rfl⟩ ⟨Nat.le_of_ble_eq_true rfl, Nat.le_of_ble_eq_true rfl, rfl, Nat.le_of_ble_eq_true rfl⟩ (fun v2 g2 m2 hp => ?_)
  obtain ⟨hv, hg, hm⟩ := hp
  subst v2
  subst g2
  subst m2
  refine r_iload_n hX dJ7_copyOfRangeByte_39247_5 rfl ?_
  refine r_iload_n hX dJ7_copyOfRangeByte_39247_6 rfl ?_
  refine r_isub hX dJ7_copyOfRangeByte_39247_7 ?_
  rw [show nI z - 0 = nI z from Int32.sub_zero _]
  refine r_istore_n hX dJ7_copyOfRangeByte_39247_8 (Nat.le_of_ble_eq_true rfl) rfl ?_
  refine r_iload_n hX dJ7_copyOfRangeByte_39247_9 rfl ?_
  refine r_newa (t := 2) (n := z) hX dJ7_copyOfRangeByte_39247_10 ⟨List.mem_of_getElem? (i := 268) (by decide +kernel), by decide +kernel⟩ ⟨by decide, rfl⟩ ⟨nI_pos (by omega), nI_clamp (by omega), by omega⟩ (Nat.le_refl _) (by omega) ?_
  refine r_astore hX dJ7_copyOfRangeByte_39247_12 (Nat.le_of_ble_eq_true rfl) rfl ?_
  refine r_aload_n hX dJ7_copyOfRangeByte_39247_14 rfl ?_
  refine r_iload_n hX dJ7_copyOfRangeByte_39247_15 rfl ?_
  refine r_aload hX dJ7_copyOfRangeByte_39247_16 rfl ?_
  refine r_iconst (v := 0) hX dJ7_copyOfRangeByte_39247_18 (by decide) ?_
  refine r_aload_n hX dJ7_copyOfRangeByte_39247_19 rfl ?_
  refine r_alen (v := (nI cap)) hX dJ7_copyOfRangeByte_39247_20 (gNew_old hw hwl) (by decide) rfl ?_
  refine r_iload_n hX dJ7_copyOfRangeByte_39247_21 rfl ?_
  refine r_isub hX dJ7_copyOfRangeByte_39247_22 ?_
  rw [show nI cap - 0 = nI cap from Int32.sub_zero _]
  refine r_iload_n hX dJ7_copyOfRangeByte_39247_23 rfl ?_
  refine r_mmin hX dJ7_copyOfRangeByte_39247_24 mm_J7_304 ⟨Nat.le_of_ble_eq_true rfl, rfl, Nat.le_of_ble_eq_true rfl⟩ ⟨Nat.le_of_ble_eq_true rfl, by omega⟩ ?_
  rw [mnN (by omega) (by omega), Nat.min_eq_right (by omega)]
  refine r_acopy hX dJ7_copyOfRangeByte_39247_27 ⟨⟨List.mem_of_getElem? (i := 713) (by decide +kernel), by decide +kernel⟩, ⟨List.mem_of_getElem? (i := 715) (by decide +kernel), by decide +kernel⟩, ⟨List.mem_of_getElem? (i := 714) (by decide +kernel), by decide +kernel⟩, ⟨List.mem_of_getElem? (i := 35) (by decide +kernel), by decide +kernel⟩⟩ (n0 := cap) (n1 := z) (gNew_old hw hwl) (gNew_at g _) ⟨by omega, Nat.le_refl _, by omega⟩ (fun i hi => by show fits .byte (.int (qI (wZ m g.2) w i)) = true; rw [qI_wZ_a _ _ hwn]; exact hf i (by omega)) ⟨Nat.le_of_ble_eq_true rfl, rfl, Nat.le_of_ble_eq_true rfl⟩ ?_
  refine r_aload hX dJ7_copyOfRangeByte_39247_30 rfl ?_
  refine r_aret hX dJ7_copyOfRangeByte_39247_32 (Or.inr ⟨_, rfl⟩) (Or.inr ⟨_, rfl⟩) ⟨rfl, rfl, fun i hi => ?_, fun a ha => ?_⟩ ⟨Nat.le_of_ble_eq_true rfl, by omega⟩
  · show (if g.2 = g.2 ∧ i < z then (wZ m g.2).1 w i else _) = _
    rw [if_pos ⟨rfl, hi⟩]
    exact qI_wZ_a m i hwn
  · have h9 := (SameA.rf m a).wZ (b := g.2) (by omega)
    exact ⟨(funext fun i => if_neg (fun q => absurd q.1 (by omega))).trans h9.1, h9.2⟩
set_option maxRecDepth 20000 in
set_option maxHeartbeats 4000000 in
theorem t_J7_cpyR (E : qE) (g : qG) (m : qM) (w cap z : Nat) (hw : gAt g w (.inr (2, cap))) (hf : fitB m w cap) (hz : z ≤ cap ∧ cap ≤ 300) : Sp E yJ7_copyOfRange_39247 cJ7_copyOfRange_39247 3 (some (.array .byte)) 3 1 z [.ref w, .int 0, .int (nI z)] g m (fun x' g' m' => x' = some (.ref g.2) ∧ g' = gNew g (.inr (2, z)) ∧ (∀ i, i < z → qI m' g.2 i = qI m w i) ∧ ∀ a, a < g.2 → SameA m m' a) := by
  refine Sp.ofF (by decide +kernel) [some (.ref w), some (.int 0), some (.int (nI z))] rfl rfl (Nat.le_of_ble_eq_true rfl) (fun X hX => ?_)
  refine r_known (fun hk => ?_)
  have hwl := hk _ _ hw
  have hwn : w ≠ g.2 := Nat.ne_of_lt hwl
  refine r_iload_n hX dJ7_copyOfRange_39247_0 rfl ?_
  refine r_if_ne (tgt := 10) hX dJ7_copyOfRange_39247_1 (by decide) (fun c1 => ?_) (fun c1 => ?_)
  · exact absurd rfl c1
  · refine r_iload_n hX dJ7_copyOfRange_39247_4 rfl ?_
    refine r_aload_n hX dJ7_copyOfRange_39247_5 rfl ?_
    refine r_alen (v := (nI cap)) hX dJ7_copyOfRange_39247_6 hw (by decide) rfl ?_
    refine r_icmp_eq (tgt := 17) hX dJ7_copyOfRange_39247_7 (by decide) (fun c7 => ?_) (fun c7 => ?_)
    · have hzc : z = cap := (nI_eq (by omega) (by omega)).mp c7
      subst hzc
      refine r_aload_n hX dJ7_copyOfRange_39247_17 rfl ?_
      refine r_cloneB hX dJ7_copyOfRange_39247_18 cl_J7 hw hf ⟨Nat.le_of_ble_eq_true rfl, rfl, Nat.le_of_ble_eq_true rfl⟩ (Nat.le_refl _) (by omega) ?_
      refine r_castB hX dJ7_copyOfRange_39247_21 cb_J7 (gNew_at g _) ?_
      refine r_aret hX dJ7_copyOfRange_39247_24 (Or.inr ⟨_, rfl⟩) (Or.inr ⟨_, rfl⟩) ⟨rfl, rfl, fun i hi => if_pos rfl, fun a ha => ⟨funext fun i => if_neg (by omega), rfl, rfl, rfl⟩⟩ ⟨Nat.le_of_ble_eq_true rfl, by omega⟩
    · refine r_aload_n hX dJ7_copyOfRange_39247_10 rfl ?_
      refine r_iload_n hX dJ7_copyOfRange_39247_11 rfl ?_
      refine r_iload_n hX dJ7_copyOfRange_39247_12 rfl ?_
      refine r_callS hX dJ7_copyOfRange_39247_13 (t_J7_cpyB E g m w cap z hw hf hz) ml_J7_339 rfl rfl ⟨Nat.le_of_ble_eq_true rfl, Nat.le_of_ble_eq_true rfl⟩ ⟨Nat.le_of_ble_eq_true rfl, by omega, rfl, Nat.le_of_ble_eq_true rfl⟩ (fun v13 g13 m13 hp => ?_)
      obtain ⟨hv, hp⟩ := hp
      subst v13
      exact r_aret hX dJ7_copyOfRange_39247_16 (Or.inr ⟨_, rfl⟩) (Or.inr ⟨_, rfl⟩) ⟨rfl, hp⟩ ⟨Nat.le_of_ble_eq_true rfl, by omega⟩
set_option maxRecDepth 20000 in
set_option maxHeartbeats 4000000 in
theorem t_J0_initA (E : qE) (g : qG) (m : qM) (a b : Nat) (cs : List Nat) (ha : gAt g a (.inl 0)) (hB : SbIs g m b cs) : Sp E yJ0_init_db425 cJ0_init_db425 5 none 4 1 300 [.ref a, .ref b, .null] g m (fun x' g' m' => x' = none ∧ g' = gNew g (.inr (2, cs.length)) ∧ TxR g' m' a g.2 cs ∧ ∀ a', a' < g.2 → a' ≠ a → SameA m m' a') := by
  refine Sp.ofF (by decide +kernel) [some (.ref a), some (.ref b), some .null, none, none] rfl rfl (Nat.le_of_ble_eq_true rfl) (fun X hX => ?_)
  obtain ⟨w, cap, hS, hf, hl⟩ := hB
  refine r_known (fun hk => ?_)
  have hbl := hk _ _ hS.1
  have hal := hk _ _ ha
  have hwl := hk _ _ hS.2.2.1
  have hcap := hS.2.2.2.2.2.2.1
  have hcs := hS.2.2.2.2.2.1
  have hwa : w ≠ a := gAt_ne hS.2.2.1 ha (by simp)
  refine r_aload_n hX dJ0_init_db425_0 rfl ?_
  refine r_objInit hX dJ0_init_db425_1 mo_J0_1 ⟨Nat.le_of_ble_eq_true rfl, rfl, Nat.le_of_ble_eq_true rfl⟩ ?_
  refine r_aload_n hX dJ0_init_db425_4 rfl ?_
  refine r_callU hX dJ0_init_db425_5 (t_J5_getValue E g m b w cap cs.length hS) mlu_J0_552 rfl rfl hS.1 rfl ⟨Nat.le_of_ble_eq_true rfl, Nat.le_of_ble_eq_true rfl⟩ ⟨Nat.le_of_ble_eq_true rfl, Nat.le_of_ble_eq_true rfl, rfl, Nat.le_of_ble_eq_true rfl⟩ (fun v5 g5 m5 hp => ?_)
  obtain ⟨hv, hg, hm⟩ := hp
  subst v5
  subst g5
  subst m5
  refine r_astore_n hX dJ0_init_db425_8 (Nat.le_of_ble_eq_true rfl) rfl ?_
  refine r_aload_n hX dJ0_init_db425_9 rfl ?_
  refine r_callO hX dJ0_init_db425_10 (s_J4_length E g m b cs ⟨w, cap, hS, hf, hl⟩) mlo_J0_549 rfl rfl hS.1 rfl ⟨Nat.le_of_ble_eq_true rfl, Nat.le_of_ble_eq_true rfl⟩ ⟨Nat.le_of_ble_eq_true rfl, Nat.le_of_ble_eq_true rfl, rfl, Nat.le_of_ble_eq_true rfl⟩ (fun v10 g10 m10 hp => ?_)
  obtain ⟨hv, hg, hm⟩ := hp
  subst v10
  subst g10
  subst m10
  refine r_istore hX dJ0_init_db425_13 (Nat.le_of_ble_eq_true rfl) rfl ?_
  refine r_aload_n hX dJ0_init_db425_15 rfl ?_
  refine r_callU hX dJ0_init_db425_16 (s_J5_isLatin1 E g m b w cap cs.length hS) mlu_J0_1047 rfl rfl hS.1 rfl ⟨Nat.le_of_ble_eq_true rfl, Nat.le_of_ble_eq_true rfl⟩ ⟨Nat.le_of_ble_eq_true rfl, Nat.le_of_ble_eq_true rfl, rfl, Nat.le_of_ble_eq_true rfl⟩ (fun v16 g16 m16 hp => ?_)
  obtain ⟨hv, hg, hm⟩ := hp
  subst v16
  subst g16
  subst m16
  refine r_if_eq (tgt := 41) hX dJ0_init_db425_19 (by decide) (fun c19 => ?_) (fun c19 => ?_)
  · exact absurd c19 (by decide)
  · refine r_aload_n hX dJ0_init_db425_22 rfl ?_
    refine r_iconst (v := 0) hX dJ0_init_db425_23 (by decide) ?_
    refine r_putFB hX dJ0_init_db425_24 ha ff_J0_15 rfl rfl rfl ?_
    refine r_aload_n hX dJ0_init_db425_27 rfl ?_
    refine r_aload_n hX dJ0_init_db425_28 rfl ?_
    refine r_iconst (v := 0) hX dJ0_init_db425_29 (by decide) ?_
    refine r_iload hX dJ0_init_db425_30 rfl ?_
    refine r_callS hX dJ0_init_db425_32 (t_J7_cpyR E g (wI m a 1 0) w cap cs.length hS.2.2.1 (fun i hi => by rw [qI_wI_a _ _ _ _ hwa]; exact hS.2.2.2.2.2.2.2 i hi) ⟨hcs, hcap⟩) ml_J0_54 rfl rfl ⟨Nat.le_of_ble_eq_true rfl, Nat.le_of_ble_eq_true rfl⟩ ⟨Nat.le_of_ble_eq_true rfl, by omega, rfl, Nat.le_of_ble_eq_true rfl⟩ (fun v32 g32 m32 hp => ?_)
    obtain ⟨hv, hg, h6, h7⟩ := hp
    subst v32
    subst g32
    refine r_putFR hX dJ0_init_db425_35 (gNew_old ha hal) ff_J0_9 rfl rfl rfl ?_
    refine r_goto (tgt := 97) hX dJ0_init_db425_38 (by decide) ?_
    refine r_vret hX dJ0_init_db425_97 ⟨rfl, rfl, ⟨gNew_old ha hal, qR_wR_s _ _ _ _, ?_, gNew_at g _, fun i hi => ?_⟩, fun a1 h1 h2 => ?_⟩ ⟨Nat.le_of_ble_eq_true rfl, by omega⟩
    · exact (congrFun (h7 a hal).1 1).trans (qI_wI_s _ _ _ _)
    · exact (h6 i hi).trans ((qI_wI_a _ _ _ _ hwa).trans (hf i hi))
    · exact (((SameA.rf m a1).wI (b := a) (k := 1) (v := 0) h2).tr (h7 a1 h1)).wR h2
set_option maxRecDepth 20000 in
set_option maxHeartbeats 4000000 in
theorem t_J0_initB (E : qE) (g : qG) (m : qM) (a b : Nat) (cs : List Nat) (ha : gAt g a (.inl 0)) (hB : SbIs g m b cs) : Sp E yJ0_init_81219 cJ0_init_81219 2 none 5 1 300 [.ref a, .ref b] g m (fun x' g' m' => x' = none ∧ g' = gNew g (.inr (2, cs.length)) ∧ TxR g' m' a g.2 cs ∧ ∀ a', a' < g.2 → a' ≠ a → SameA m m' a') := by
  refine Sp.ofF (by decide +kernel) [some (.ref a), some (.ref b)] rfl rfl (Nat.le_of_ble_eq_true rfl) (fun X hX => ?_)
  refine r_aload_n hX dJ0_init_81219_0 rfl ?_
  refine r_aload_n hX dJ0_init_81219_1 rfl ?_
  refine r_null hX dJ0_init_81219_2 ?_
  refine r_callI hX dJ0_init_81219_3 (t_J0_initA E g m a b cs ha hB) ml_J0_489 rfl rfl ⟨Nat.le_of_ble_eq_true rfl, Nat.le_of_ble_eq_true rfl⟩ ⟨Nat.le_of_ble_eq_true rfl, Nat.le_of_ble_eq_true rfl, rfl, Nat.le_of_ble_eq_true rfl⟩ (fun v3 g3 m3 hp => ?_)
  obtain ⟨hv, hp⟩ := hp
  subst v3
  exact r_vret hX dJ0_init_81219_6 ⟨rfl, hp⟩ ⟨Nat.le_of_ble_eq_true rfl, Nat.le_of_ble_eq_true rfl⟩
set_option maxRecDepth 20000 in
set_option maxHeartbeats 4000000 in
theorem t_J4_toString (E : qE) (g : qG) (m : qM) (b : Nat) (cs : List Nat) (hB : SbIs g m b cs) : Sp E yJ4_toString_0e30d cJ4_toString_0e30d 1 (some (.object "java/lang/String")) 6 2 304 [.ref b] g m (fun x' g' m' => x' = some (.ref g.2) ∧ g'.2 = g.2 + 2 ∧ TxR g' m' g.2 (g.2 + 1) cs ∧ ∀ a, a < g.2 → g'.1 a = g.1 a ∧ SameA m m' a) := by
  refine Sp.ofF (by decide +kernel) [some (.ref b)] rfl rfl (Nat.le_of_ble_eq_true rfl) (fun X hX => ?_)
  refine r_known (fun hk => ?_)
  have hBn : SbIs (gNew g (.inl 0)) (wZ m g.2) b cs := hB.sub (fun a sh h => ⟨gNew_old h (hk _ _ h), (SameA.rf m a).wZ (Nat.ne_of_lt (hk _ _ h))⟩)
  refine r_new hX dJ4_toString_0e30d_0 nl_J4_18 (Nat.le_of_ble_eq_true rfl) (Nat.le_of_ble_eq_true rfl) ?_
  refine r_dup hX dJ4_toString_0e30d_3 rfl ?_
  refine r_aload_n hX dJ4_toString_0e30d_4 rfl ?_
  refine r_callI hX dJ4_toString_0e30d_5 (t_J0_initB E (gNew g (.inl 0)) (wZ m g.2) g.2 b cs (gNew_at g _) hBn) ml_J4_137 rfl rfl ⟨Nat.le_of_ble_eq_true rfl, Nat.le_of_ble_eq_true rfl⟩ ⟨Nat.le_of_ble_eq_true rfl, Nat.le_of_ble_eq_true rfl, rfl, Nat.le_of_ble_eq_true rfl⟩ (fun v5 g5 m5 hp => ?_)
  obtain ⟨hv, hg, h6, h7⟩ := hp
  subst v5
  subst g5
  refine r_aret hX dJ4_toString_0e30d_8 (Or.inl ⟨_, rfl⟩) (Or.inr ⟨_, rfl⟩) ⟨rfl, rfl, h6, fun a ha => ⟨?_, ?_⟩⟩ ⟨Nat.le_of_ble_eq_true rfl, Nat.le_of_ble_eq_true rfl⟩
  · show (if a = g.2 + 1 then _ else if a = g.2 then _ else g.1 a) = g.1 a
    rw [if_neg (by omega), if_neg (by omega)]
  · exact ((SameA.rf m a).wZ (b := g.2) (by omega)).tr (h7 a (by show a < g.2 + 1; omega) (by omega))
