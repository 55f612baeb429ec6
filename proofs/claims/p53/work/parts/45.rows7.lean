/-! ===== more rows: shifts, floats, a copy to a place, a clone, texts ===== -/
/-- what stands at a0 is a row of bytes that begins so -/
def RowB (E : qE) (X : qX) (g : qG) (m : qM) (a0 n : Nat) (f : Nat → Int32) : Prop := ∀ (H : Heap) (locs : List Loc), Pict E g m H → va_S (qA E) (xS X).heap H locs → ∃ cs : Cell, H[a0]? = some cs ∧ (xS X).isArrayOf cs .byte ∧ cs.vm ≠ .unknown ∧ ∀ i, i < n → cs.slots[i]? = some (.int (f i))
section WE
variable {E : qE} {y : MethodName} {cc : ByteArray} {nL : Nat} {ret : Option FieldType} {k mc ms : Nat} {tab : List ExceptionTableEntry} {X : qX} {cN sN : Nat} {Q : State → Prop} {g : qG} {m : qM} {pc : Nat} {l : List (Option Value)} {st : List Value}
theorem r_iushr (hX : MC E y cc nL ret k mc ms tab X) {x y1 : Int32} (d : decode cc pc = .ok (.iushr, 1)) (kk : WS E X cN sN Q g m (pc + 1) l (.int (x.toUInt32 >>> (y1.toUInt32 &&& Int32.toUInt32 31)).toInt32 :: st)) : WS E X cN sN Q g m pc l (.int y1 :: .int x :: st) :=
  fun H locs ls h1 h2 h3 => lv_iushr hX.x hX.b d rfl (kk H locs ls h1 h2 h3)
theorem r_fcmp (hX : MC E y cc nL ret k mc ms tab X) {x y1 : UInt32} {op : CmpOp} (d : decode cc pc = .ok (.fcmp op, 1)) (kk : WS E X cN sN Q g m (pc + 1) l (.int (Op.cmpValue (FP.fcmp x y1) op) :: st)) : WS E X cN sN Q g m pc l (.float y1 :: .float x :: st) :=
  fun H locs ls h1 h2 h3 => lv_fcmp hX.x hX.b d (kk H locs ls h1 h2 h3)
theorem r_ldcF (hX : MC E y cc nL ret k mc ms tab X) {idx : Nat} {v : UInt32} (d : decode cc pc = .ok (.ldc idx, 2)) (hw : InT (.constantFloat y.cls idx v)) (kk : WS E X cN sN Q g m (pc + 2) l (.float v :: st)) : WS E X cN sN Q g m pc l st :=
  fun H locs ls h1 h2 h3 => lv_ldcf hX.x hX.b hX.own (hX.w hw _) d (kk H locs ls h1 h2 h3)
/-- a final small number in a constructor -/
theorem r_putFB (hX : MC E y cc nL ret k mc ms tab X) {a c j idx : Nat} {v : Int32} (d : decode cc pc = .ok (.putfield idx, 3)) (ha : gAt g a (.inl c)) (hf : FLF y.cls idx c j false .byte) (hy : y.name = "<init>") (hn : narrow .byte (.int v) = .int v) (hfit : fits .byte (.int v) = true) (kk : WS E X cN sN Q g (wI m a j v) (pc + 3) l st) : WS E X cN sN Q g m pc l (.int v :: .ref a :: st) := r_putF hX d ha hf hy hn hfit (puts_I ha) kk
theorem RowB.own (hX : MC E y cc nL ret k mc ms tab X) {a0 n0 n : Nat} (ha : gAt g a0 (.inr (2, n0))) (hn : n ≤ n0) : RowB E X g m a0 n (m.1 a0) := fun H locs h1 h2 => by
  have e0 : H[a0]? = some (vp_cell (eC E 2) (n0, .inl (m.1 a0))) := (h1.2 a0 _ ha).2
  exact ⟨_, e0, (hX.K.2 2 _ (qtys_get (eC E) (t := 2) (by decide))).1 n0 (fun j => .int (m.1 a0 j)), (fun h => by cases h), fun i hi => arrV_read _ _ (by omega)⟩
theorem RowB.const (hX : MC E y cc nL ret k mc ms tab X) {i : Nat} {x : List Int32} (hq : qwrd[i]? = some x) : RowB E X g m (eV E i) x.length (fun j => x.getD j 0) := fun H locs h1 h2 => by
  obtain ⟨cell, c1, c2, c3, c4, -, c6, c7⟩ := ((q_str hX hq).1 0 (by decide)).2.2.2
  exact ⟨cell, (h2.2.1 _ (Array.getElem?_eq_some_iff.mp c1).1 c7).trans c1, c2, c3, c6⟩
theorem r_acopyG (hX : MC E y cc nL ret k mc ms tab X) {idx a0 a n1 n dp : Nat} {f : Nat → Int32} {rest : List Value} (d : decode cc pc = .ok (.invokestatic idx, 3)) (hw : InT (.methodLink y.cls idx arraycopyName) ∧ InT (.native arraycopyName) ∧ InT (.static arraycopyName) ∧ InT (.initialized "java/lang/System"))
    (hsrc : RowB E X g m a0 n f) (ha : gAt g a (.inr (2, n1))) (hn : dp + n ≤ n1 ∧ dp + n < 2 ^ 31) (hfit : ∀ i, i < n → fits .byte (.int (f i)) = true) (hk : 1 ≤ k ∧ l.length = nL ∧ (rest.map fun v => v.category).sum + (nativeFrameWords "java/lang/System" "arraycopy" 5 + 11) ≤ 64 * k)
    (kk : WS E X cN sN Q g (fun b j => if b = a ∧ dp ≤ j ∧ j < dp + n then f (j - dp) else m.1 b j, m.2) (pc + 3) l rest) : WS E X cN sN Q g m pc l (.int (nI n) :: .int (nI dp) :: .ref a :: .int 0 :: .ref a0 :: rest) := by
  intro H locs ls h1 h2 h3
  have hR := hX.rm
  obtain ⟨b1, e1⟩ := h1.2 a _ ha
  have e1 : H[a]? = some (vp_cell (eC E 2) (n1, .inl (m.1 a))) := e1
  obtain ⟨cs, e0, hs2, hs3, hs5⟩ := hsrc H locs h1 h2
  obtain ⟨hs6, k0, hk0, cm0, hkk0⟩ := hs2
  intro T hT Z
  obtain ⟨-, k1, hk1, cm1, hkk1⟩ := (hX.K.2 2 _ (qtys_get (eC E) (t := 2) (by decide))).1 n1 (fun j => .int (m.1 a j))
  have hc : (nI n).toNatClampNeg = n := nI_clamp (by omega)
  have hcd : (nI dp).toNatClampNeg = dp := nI_clamp (by omega)
  have z0 : (0 : Int32).toNatClampNeg = 0 := by decide
  have hsz : n ≤ cs.slots.size := by
    rcases Nat.eq_zero_or_pos n with h | h
    · omega
    · have := (Array.getElem?_eq_some_iff.mp (hs5 (n - 1) (by omega))).1
      omega
  obtain ⟨vm', X', step⟩ := Z.arraycopy hX.x hX.own (hX.w hw.1 _) (hX.w hw.2.1 _) (hX.w hw.2.2.1 _) (hX.w hw.2.2.2 _) (src := a0) (dst := a) (cs := cs) (cd := vp_cell (eC E 2) (n1, .inl (m.1 a))) (srcPos := 0) (destPos := nI dp) (n := nI n) (by rw [hT]; exact e0) (by rw [hT]; exact e1)
    hs6 (fun _ h => by cases h) hs3 (fun h => by cases h) hk0 hk1 hkk0 hkk1 (by show ((refKind .byte != refKind .byte) || (!refKind .byte && ((FieldType.byte) != .byte))) = false; decide) (by decide) (nI_pos (by omega)) (nI_pos (by omega))
    (by rw [nI_toInt (by omega)]; show ¬ (0 : Int) + _ > (cs.slots.size : Int); omega)
    (by rw [nI_toInt (by omega), nI_toInt (by omega)]; show ¬ _ > ((arrV (eC E 2) n1 (fun j => .int (m.1 a j))).slots.size : Int); rw [arrV_size]; omega)
    (fun vm1 _ i hi => by
      rw [hc] at hi
      have e : cs.slots.getD ((0 : Int32).toNatClampNeg + i) .null = .int (f i) := by
        rw [z0, Nat.zero_add, Array.getD_eq_getD_getElem?, hs5 i hi]
        rfl
      rw [e]
      exact ⟨hfit i hi, trivial⟩)
    (g := F0 (xM X) pc ls (.int (nI n) :: .int (nI dp) :: .ref a :: .int 0 :: .ref a0 :: rest)) rfl (by show ls.size = _; rw [hX.ml, ← hk.2.1]; exact h3.1) (rest := rest) rfl (by rw [hX.b]; exact d) (by rw [hR]; exact hk.1) (by rw [hR]; show 2 * 0 + _ + _ ≤ 64 * k; have := hk.2.2; omega)
  have e2 : copied cs (vp_cell (eC E 2) (n1, .inl (m.1 a))) 0 (nI dp) (nI n) = vp_cell (eC E 2) (n1, .inl (va_cpy f (m.1 a) 0 dp n)) := by
    show (arrV (eC E 2) n1 (fun j => .int (m.1 a j))).storeRun (nI dp).toNatClampNeg (cs.stretch (0 : Int32).toNatClampNeg (nI n).toNatClampNeg) = _
    rw [z0, hc, hcd]
    exact va_copiedX (fun z => .int z) cs (eC E 2) f (m.1 a) hs5 (by omega)
  rw [e2] at X' step
  have hl : a < H.size := (Array.getElem?_eq_some_iff.mp e1).1
  have hheap : ((T.setVm vm').setCell a (vp_cell (eC E 2) (n1, .inl (va_cpy f (m.1 a) 0 dp n)))).heap = H.setIfInBounds a (vp_cell (eC E 2) (n1, .inl (va_cpy f (m.1 a) 0 dp n))) := by rw [← hT]; rfl
  have oq : ∀ q : Nat, q ≠ a → (H.setIfInBounds a (vp_cell (eC E 2) (n1, .inl (va_cpy f (m.1 a) 0 dp n))))[q]? = H[q]? := fun q hq => by simp [Array.getElem?_setIfInBounds, Ne.symm hq]
  have e7 : va_cpy f (m.1 a) 0 dp n = fun j => if a = a ∧ dp ≤ j ∧ j < dp + n then f (j - dp) else m.1 a j := by
    funext j
    unfold va_cpy
    simp
  have e8 : (H.setIfInBounds a (vp_cell (eC E 2) (n1, .inl (va_cpy f (m.1 a) 0 dp n))))[a]? = some (vp_cell (eC E 2) (n1, qrow 2 ((fun b j => if b = a ∧ dp ≤ j ∧ j < dp + n then f (j - dp) else m.1 b j, m.2) : qM) a)) := by
    rw [e7]
    rw [Array.getElem?_setIfInBounds, if_pos rfl, if_pos hl]
    rfl
  obtain ⟨t, a1, b2⟩ := kk (H.setIfInBounds a (vp_cell (eC E 2) (n1, .inl (va_cpy f (m.1 a) 0 dp n)))) _ ls (h1.A ha (by simp) oq e8 (fun q sh e => by
      have e5 : (fun j => if q = a ∧ dp ≤ j ∧ j < dp + n then f (j - dp) else m.1 q j) = m.1 q := by funext i; simp [e]
      rcases sh with s1 | s1 <;> simp only [qe, qrow, e5]))
    ⟨by simp; exact h2.1, fun q g1 g2 => by
      rw [oq q (fun e => g2 (by rw [e]; exact b1))]
      exact h2.2.1 q g1 g2, fun q hq => by
      rcases List.mem_append.mp hq with h | h
      · exact h2.2.2 q h
      · obtain ⟨z, -, hz⟩ := List.mem_map.mp h
        rw [← hz]
        exact b1⟩ h3 _ hheap X'
  exact ⟨t, step t a1, b2⟩
theorem r_cloneB (hX : MC E y cc nL ret k mc ms tab X) {idx a n : Nat} (d : decode cc pc = .ok (.invokevirtual idx, 3))
    (hw : InT (.methodLink y.cls idx ⟨"[B", "clone", "()Ljava/lang/Object;"⟩) ∧ InT (.sameMethod "[B" "java/lang/Object" "clone" "()Ljava/lang/Object;") ∧ InT (.native ⟨"java/lang/Object", "clone", "()Ljava/lang/Object;"⟩) ∧ InT (.instanceMethod ⟨"java/lang/Object", "clone", "()Ljava/lang/Object;"⟩) ∧ InT (.selects "[B" ⟨"[B", "clone", "()Ljava/lang/Object;"⟩ ⟨"java/lang/Object", "clone", "()Ljava/lang/Object;"⟩) ∧ InT (.castable "[B" "java/lang/Cloneable"))
    (ha : gAt g a (.inr (2, n))) (hf : fitB m a n) (hk : 1 ≤ k ∧ l.length = nL ∧ (st.map fun v => v.category).sum + 14 ≤ 64 * k) (hc : cN + 1 ≤ mc) (hs : sN + n ≤ ms)
    (kk : WS E X (cN + 1) (sN + n) Q (gNew g (.inr (2, n))) (fun b j => if b = g.2 then m.1 a j else m.1 b j, m.2) (pc + 3) l (.ref g.2 :: st)) : WS E X cN sN Q g m pc l (.ref a :: st) := by
  intro H locs ls h1 h2 h3
  have hR := hX.rm
  obtain ⟨b1, e1⟩ := h1.2 a _ ha
  have e1 : H[a]? = some (vp_cell (eC E 2) (n, .inl (m.1 a))) := e1
  have hb := qBase hX h1 h2
  have hz : H.size = g.2 := h1.1
  obtain ⟨c0, t0', f1, f2, f3⟩ := Cond.castable_spec (hX.w hw.2.2.2.2.2 (xA X))
  have hnm : (xS X).vm.findClass "[B" = some (eC E 2) := (hX.K.2 2 _ (qtys_get (eC E) (t := 2) (by decide))).2
  cases hnm.symm.trans f1
  intro T hT Z
  have hcellT : T.heap[a]? = some (vp_cell (eC E 2) (n, .inl (m.1 a))) := by rw [hT]; exact e1
  obtain ⟨-, kA, hkA, comp, hkind⟩ := State.isArrayOf_alike Z.warmed.alike ((hX.K.2 2 _ (qtys_get (eC E) (t := 2) (by decide))).1 0 (fun _ => .null))
  obtain ⟨-, kS, hkS, compS, hkindS⟩ := (hX.K.2 2 _ (qtys_get (eC E) (t := 2) (by decide))).1 0 (fun _ => .null)
  have hsz : (vp_cell (eC E 2) (n, .inl (m.1 a))).slots.size = n := arrV_size _ _ _
  obtain ⟨vm', X', step⟩ := Z.cloneArray hX.x hX.own (hX.w hw.1 _) (hX.w hw.2.1 _) (hX.w hw.2.2.1 _) (hX.w hw.2.2.2.1 _) (hX.w hw.2.2.2.2.1 _) (a := a) (cell := vp_cell (eC E 2) (n, .inl (m.1 a))) hcellT (fun k h => by cases h) (fun h => by cases h) hnm f2 f3
    (fun i v hv => by
      have hk' : T.vm.classes[eC E 2]? = some kA := hkA
      have hi : i < n := by rw [← hsz]; exact (Array.getElem?_eq_some_iff.mp hv).1
      have e : v = .int (m.1 a i) := by
        have h9 : (arrV (eC E 2) n (fun j => .int (m.1 a j))).slots[i]? = some v := hv
        rw [arrV_read _ _ hi] at h9
        exact (Option.some.inj h9).symm
      subst e
      have h9 : fits (qTy 2) (.int (m.1 a i)) = true := hf i hi
      show T.fitsSlot (eC E 2) .none i (.int (m.1 a i)) = true
      simpa [State.fitsSlot, State.slotType?, hk', hkind] using h9)
    (g := F0 (xM X) pc ls (.ref a :: st)) rfl (by show ls.size = _; rw [hX.ml, ← hk.2.1]; exact h3.1) rfl (by rw [hX.b]; exact d) (by rw [hR]; exact hk.1) (by rw [hR]; show 2 * 0 + _ + 14 ≤ 64 * k; have := hk.2.2; omega) (by rw [hR]; exact hc) (by rw [hR, hsz]; exact hs) (hloader := Vm.clonesLoader_of_array hkS hkindS)
  have hcellE : ({ cls := (vp_cell (eC E 2) (n, .inl (m.1 a))).cls, slots := (vp_cell (eC E 2) (n, .inl (m.1 a))).slots } : Cell) = vp_cell (eC E 2) (n, .inl (m.1 a)) := rfl
  rw [hcellE, hsz] at X'
  generalize hH1 : H.push (vp_cell (eC E 2) (n, .inl (m.1 a))) = H1
  have z1 : H1.size = H.size + 1 := by rw [← hH1, Array.size_push]
  have e9 : H1[H.size]? = some (vp_cell (eC E 2) (n, .inl (m.1 a))) := by rw [← hH1, Array.getElem?_push_size]
  have o1 : ∀ q : Nat, q < H.size → H1[q]? = H[q]? := fun q hq => by rw [← hH1, Array.getElem?_push, if_neg (Nat.ne_of_lt hq)]
  have hP2 : Pict E (gNew g (.inr (2, n))) (fun b j => if b = g.2 then m.1 a j else m.1 b j, m.2) H1 := by
    refine ⟨by rw [z1, hz]; rfl, fun q sh' hq => ?_⟩
    by_cases e : q = g.2
    · subst e
      have : sh' = .inr (2, n) := Option.some.inj (hq.symm.trans (if_pos rfl))
      subst this
      refine ⟨hb, ?_⟩
      show H1[g.2]? = some (vp_cell (eC E 2) (n, .inl (fun j => if g.2 = g.2 then m.1 a j else m.1 g.2 j)))
      rw [← hz, e9]
      simp
    · have hq' : g.1 q = some sh' := (if_neg e).symm.trans hq
      obtain ⟨k1, k2⟩ := h1.2 q sh' hq'
      refine ⟨k1, ?_⟩
      have e5 : (fun j => if q = g.2 then m.1 a j else m.1 q j) = m.1 q := by funext i; simp [e]
      have e6 : qe (eC E) sh' ((fun b j => if b = g.2 then m.1 a j else m.1 b j, m.2) : qM) q = qe (eC E) sh' m q := by
        rcases sh' with s1 | s1 <;> simp only [qe, qrow, e5]
      rw [e6]
      exact k2.kept (o1 q k2.lt)
  obtain ⟨t, b2, b3⟩ := kk H1 locs ls hP2 ⟨Nat.le_trans h2.1 (by omega), fun x a1 a2 => (o1 x (Nat.lt_of_lt_of_le a1 h2.1)).trans (h2.2.1 x a1 a2), h2.2.2⟩ h3 ((T.setVm vm').pushCell (vp_cell (eC E 2) (n, .inl (m.1 a)))) (by rw [← hH1, ← hT]; rfl) X'
  refine ⟨t, step t ?_, b3⟩
  rw [hcellE, hT, hz]
  exact b2
theorem r_castB (hX : MC E y cc nL ret k mc ms tab X) {idx a n : Nat} (d : decode cc pc = .ok (.checkcast idx, 3)) (hw : InT (.classLink y.cls idx "[B")) (ha : gAt g a (.inr (2, n))) (kk : WS E X cN sN Q g m (pc + 3) l (.ref a :: st)) : WS E X cN sN Q g m pc l (.ref a :: st) :=
  fun H locs ls h1 h2 h3 => va_castA (ws := [(a, qe (eC E) (.inr (2, n)) m a)]) hX.x hX.b hX.own (hX.w hw _) (h1.one ha) 0 rfl ((hX.K.2 2 _ (qtys_get (eC E) (t := 2) (by decide))).2) d (kk H locs ls h1 h2 h3)
end WE
