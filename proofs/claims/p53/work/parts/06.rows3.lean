/-! ===== rows that read and write the memory ===== -/
theorem qfs_V (I : Nat → Int32) (R : Nat → Option Nat) (l : List Bool) (k j : Nat) (b : Bool) (h : l[j]? = some b) : vp_V (qfs I R l k) j = if b = true then va_rf (R (k + j)) else .int (I (k + j)) := by
  show (qfs I R l k).getD j .null = _
  rw [List.getD_eq_getElem?_getD, qfs_get I R l k j b h]
  rfl
/-- the static facts of a field that the code of 'own' names at 'idx' -/
def FL (own : String) (idx c k : Nat) (b : Bool) (ty : FieldType) (fin : Bool) : Prop := ∃ (r : vw_C) (ref : String) (ty0 : Nat → FieldType), vwCl[c]? = some r ∧ k < r.2.2 ∧ (qF c)[k]? = some b ∧ (qF c).length = r.2.2 ∧ (∀ w ∈ u_ws r.1 r.2.1 r.2.2, InT w) ∧
  (InT (.fieldLink own idx ref (r.2.1 k).2.1 (r.2.1 k).2.2.1) ∨ ∃ host, InT (.fieldLinkNest own idx ref (r.2.1 k).2.1 (r.2.1 k).2.2.1 host)) ∧ ref = (r.2.1 k).1 ∧ (∀ j, j < r.2.2 → parseFieldDescriptor (r.2.1 j).2.2.1 = some (ty0 j)) ∧ (∀ i, i < r.2.2 → ∀ j, j < r.2.2 → i ≠ j → (r.2.1 i).2.1 ≠ (r.2.1 j).2.1) ∧ ty0 k = ty ∧ (r.2.1 k).2.2.2 = fin
theorem Pict.I {E : qE} {g : qG} {m : qM} {H H1 : Heap} {a j c : Nat} {v : Int32} {r : vw_C} (hP : Pict E g m H) (ha : gAt g a (.inl c)) (hc : vwCl[c]? = some r) (hl : (qF c).length = r.2.2) (hb : (qF c)[j]? = some false) (hz : H1.size = H.size) (oq : ∀ q : Nat, q ≠ a → H1[q]? = H[q]?)
    (hn : t_OB a ((eK E).1 c) r.2.2 ((eK E).2 c) H1 (updV (vp_V (qfs (m.1 a) (m.2.1 a) (qF c) 0)) j (.int v))) : Pict E g (wI m a j v) H1 := by
  refine ⟨hz.trans hP.1, fun q sh hq => ?_⟩
  obtain ⟨h1, h2⟩ := hP.2 q sh hq
  refine ⟨h1, ?_⟩
  by_cases e : q = a
  · subst e
    cases Option.some.inj (hq.symm.trans ha)
    refine ⟨r, hc, hn.to (fun i hi => ?_)⟩
    have hi2 : i < (qF c).length := by rw [hl]; exact hi
    have hbi : (qF c)[i]? = some (qF c)[i] := List.getElem?_eq_getElem hi2
    show updV (vp_V (qfs (m.1 q) (m.2.1 q) (qF c) 0)) j (.int v) i = vp_V (qfs ((wI m q j v).1 q) ((wI m q j v).2.1 q) (qF c) 0) i
    rw [qfs_V _ _ _ _ i _ hbi]
    by_cases ei : i = j
    · subst ei
      have : (qF c)[i] = false := by rw [hbi] at hb; exact Option.some.inj hb
      rw [this]
      simp [updV, wI]
    · have h9 : updV (vp_V (qfs (m.1 q) (m.2.1 q) (qF c) 0)) j (.int v) i = vp_V (qfs (m.1 q) (m.2.1 q) (qF c) 0) i := by simp [updV, ei]
      rw [h9, qfs_V _ _ _ _ i _ hbi]
      simp [wI, ei]
  · have h9 : va_at (eK E) vwCl (q, qe (eC E) sh m q) H1 := h2.kept (oq q e)
    have h8 : qe (eC E) sh (wI m a j v) q = qe (eC E) sh m q := by
      have e1 : (wI m a j v).1 q = m.1 q := by funext i; simp [wI, e]
      rcases sh with s1 | s1 <;> simp only [qe, qrow, e1] <;> rfl
    rw [h8]
    exact h9
theorem Pict.R {E : qE} {g : qG} {m : qM} {H H1 : Heap} {a j c : Nat} {v : Option Nat} {r : vw_C} (hP : Pict E g m H) (ha : gAt g a (.inl c)) (hc : vwCl[c]? = some r) (hl : (qF c).length = r.2.2) (hb : (qF c)[j]? = some true) (hz : H1.size = H.size) (oq : ∀ q : Nat, q ≠ a → H1[q]? = H[q]?)
    (hn : t_OB a ((eK E).1 c) r.2.2 ((eK E).2 c) H1 (updV (vp_V (qfs (m.1 a) (m.2.1 a) (qF c) 0)) j (va_rf v))) : Pict E g (wR m a j v) H1 := by
  refine ⟨hz.trans hP.1, fun q sh hq => ?_⟩
  obtain ⟨h1, h2⟩ := hP.2 q sh hq
  refine ⟨h1, ?_⟩
  by_cases e : q = a
  · subst e
    cases Option.some.inj (hq.symm.trans ha)
    refine ⟨r, hc, hn.to (fun i hi => ?_)⟩
    have hi2 : i < (qF c).length := by rw [hl]; exact hi
    have hbi : (qF c)[i]? = some (qF c)[i] := List.getElem?_eq_getElem hi2
    show updV (vp_V (qfs (m.1 q) (m.2.1 q) (qF c) 0)) j (va_rf v) i = vp_V (qfs ((wR m q j v).1 q) ((wR m q j v).2.1 q) (qF c) 0) i
    rw [qfs_V _ _ _ _ i _ hbi]
    by_cases ei : i = j
    · subst ei
      have : (qF c)[i] = true := by rw [hbi] at hb; exact Option.some.inj hb
      rw [this]
      simp [updV, wR]
    · have h9 : updV (vp_V (qfs (m.1 q) (m.2.1 q) (qF c) 0)) j (va_rf v) i = vp_V (qfs (m.1 q) (m.2.1 q) (qF c) 0) i := by simp [updV, ei]
      rw [h9, qfs_V _ _ _ _ i _ hbi]
      simp [wR, ei]
  · have h9 : va_at (eK E) vwCl (q, qe (eC E) sh m q) H1 := h2.kept (oq q e)
    have h8 : qe (eC E) sh (wR m a j v) q = qe (eC E) sh m q := by
      have e1 : (wR m a j v).2.1 q = m.2.1 q := by funext i; simp [wR, e]
      rcases sh with s1 | s1 <;> simp only [qe, qrow, e1] <;> rfl
    rw [h8]
    exact h9
/-- a cell of an array is written -/
theorem Pict.A {E : qE} {g : qG} {m m' : qM} {H H1 : Heap} {a t n : Nat} (hP : Pict E g m H) (ha : gAt g a (.inr (t, n))) (hz : H1.size = H.size) (oq : ∀ q : Nat, q ≠ a → H1[q]? = H[q]?) (he : H1[a]? = some (vp_cell (eC E t) (n, qrow t m' a)))
    (hm : ∀ (q : Nat) (sh : qSh), q ≠ a → qe (eC E) sh m' q = qe (eC E) sh m q) : Pict E g m' H1 := by
  refine ⟨hz.trans hP.1, fun q sh hq => ?_⟩
  obtain ⟨h1, h2⟩ := hP.2 q sh hq
  refine ⟨h1, ?_⟩
  by_cases e : q = a
  · subst e
    cases Option.some.inj (hq.symm.trans ha)
    exact he
  · rw [hm q sh e]
    exact h2.kept (oq q e)
theorem qe_wI {cy : Nat → ClassId} {m : qM} {a j : Nat} {v : Int32} {q : Nat} {sh : qSh} (e : q ≠ a) : qe cy sh (wI m a j v) q = qe cy sh m q := by
  have e1 : (wI m a j v).1 q = m.1 q := by funext i; simp [wI, e]
  rcases sh with s1 | s1 <;> simp only [qe, qrow, e1] <;> rfl
theorem qe_wR {cy : Nat → ClassId} {m : qM} {a j : Nat} {v : Option Nat} {q : Nat} {sh : qSh} (e : q ≠ a) : qe cy sh (wR m a j v) q = qe cy sh m q := by
  have e1 : (wR m a j v).2.1 q = m.2.1 q := by funext i; simp [wR, e]
  rcases sh with s1 | s1 <;> simp only [qe, qrow, e1] <;> rfl
theorem qe_wJ {cy : Nat → ClassId} {m : qM} {a j : Nat} {v : Int64} {q : Nat} {sh : qSh} (e : q ≠ a) : qe cy sh (wJ m a j v) q = qe cy sh m q := by
  have e1 : (wJ m a j v).2.2.1 q = m.2.2.1 q := by funext i; simp [wJ, e]
  rcases sh with s1 | s1 <;> simp only [qe, qrow, e1] <;> rfl
theorem qe_wD {cy : Nat → ClassId} {m : qM} {a j : Nat} {v : UInt64} {q : Nat} {sh : qSh} (e : q ≠ a) : qe cy sh (wD m a j v) q = qe cy sh m q := by
  have e1 : (wD m a j v).2.2.2 q = m.2.2.2 q := by funext i; simp [wD, e]
  rcases sh with s1 | s1 <;> simp only [qe, qrow, e1] <;> rfl
theorem qS_put {E : qE} {s : State} {H H1 : Heap} {locs : List Loc} {a k : Nat} (h : va_S (qA E) s.heap H locs) (z : H1.size = H.size) (oq : ∀ q : Nat, q ≠ a → H1[q]? = H[q]?) (ha : qA E a) : va_S (qA E) s.heap H1 (locs ++ [⟨a, k⟩]) := va_S.put h z oq ha
section WM
variable {E : qE} {y : MethodName} {cc : ByteArray} {nL : Nat} {ret : Option FieldType} {k mc ms : Nat} {tab : List ExceptionTableEntry} {X : qX} {cN sN : Nat} {Q : State → Prop} {g : qG} {m : qM} {pc : Nat} {l : List (Option Value)} {st : List Value}
theorem r_getV (hX : MC E y cc nL ret k mc ms tab X) {a c j idx : Nat} {b fin : Bool} {ty : FieldType} (d : decode cc pc = .ok (.getfield idx, 3)) (ha : gAt g a (.inl c)) (hf : FL y.cls idx c j b ty fin) (kk : WS E X cN sN Q g m (pc + 3) l ((if b = true then va_rf (qR m a j) else .int (qI m a j)) :: st)) : WS E X cN sN Q g m pc l (.ref a :: st) := by
  intro H locs ls h1 h2 h3
  obtain ⟨⟨C, T, N⟩, ref, ty0, hc, hj, hb, hlen, hws, hlink, rfl, -⟩ := hf
  have hv : (qfs (m.1 a) (m.2.1 a) (qF c) 0)[j]? = some (if b = true then va_rf (qR m a j) else .int (qI m a j)) := by
    rw [qfs_get _ _ _ _ j b hb, Nat.zero_add]
  rcases hlink with hlink | ⟨host, hlink⟩
  · exact va_get (Ts := u_ws C T N) (fs := qfs (m.1 a) (m.2.1 a) (qF c) 0) hX.x hX.b (fun w hw => hX.w (hws w hw) _) (fun w hw => hw) hX.own hX.K (h1.one ha) 0 rfl hc j hj (hX.w hlink _) (fun _ h => h) hv d (kk H locs ls h1 h2 h3)
  · exact va_getN (Ts := u_ws C T N) (fs := qfs (m.1 a) (m.2.1 a) (qF c) 0) hX.x hX.b (fun w hw => hX.w (hws w hw) _) (fun w hw => hw) hX.own hX.K (h1.one ha) 0 rfl hc j hj (hX.w hlink _) (fun _ h => h) hv d (kk H locs ls h1 h2 h3)
theorem r_getI (hX : MC E y cc nL ret k mc ms tab X) {a c j idx : Nat} {fin : Bool} {ty : FieldType} (d : decode cc pc = .ok (.getfield idx, 3)) (ha : gAt g a (.inl c)) (hf : FL y.cls idx c j false ty fin) (kk : WS E X cN sN Q g m (pc + 3) l (.int (qI m a j) :: st)) : WS E X cN sN Q g m pc l (.ref a :: st) := r_getV hX d ha hf kk
theorem r_getR (hX : MC E y cc nL ret k mc ms tab X) {a c j idx b : Nat} {fin : Bool} {ty : FieldType} (d : decode cc pc = .ok (.getfield idx, 3)) (ha : gAt g a (.inl c)) (hf : FL y.cls idx c j true ty fin) (hr : qR m a j = some b) (kk : WS E X cN sN Q g m (pc + 3) l (.ref b :: st)) : WS E X cN sN Q g m pc l (.ref a :: st) := r_getV hX d ha hf (by rw [hr]; exact kk)
/-- what a put owes the memory -/
def Puts (E : qE) (g : qG) (m m' : qM) (a c j : Nat) (b : Bool) (v : Value) : Prop := ∀ (H H1 : Heap) (r : vw_C), Pict E g m H → vwCl[c]? = some r → (qF c).length = r.2.2 → (qF c)[j]? = some b → H1.size = H.size → (∀ q : Nat, q ≠ a → H1[q]? = H[q]?) → t_OB a ((eK E).1 c) r.2.2 ((eK E).2 c) H1 (updV (vp_V (qfs (m.1 a) (m.2.1 a) (qF c) 0)) j v) → Pict E g m' H1
theorem r_putV (hX : MC E y cc nL ret k mc ms tab X) {a c j idx : Nat} {ty : FieldType} {v : Value} {m' : qM} {b : Bool} (d : decode cc pc = .ok (.putfield idx, 3)) (ha : gAt g a (.inl c)) (hf : FL y.cls idx c j b ty false) (hn : narrow ty v = v) (hfit : fits ty v = true) (hm : Puts E g m m' a c j b v)
    (kk : WS E X cN sN Q g m' (pc + 3) l st) : WS E X cN sN Q g m pc l (v :: .ref a :: st) := by
  intro H locs ls p1 p2 p3
  obtain ⟨⟨C, T, N⟩, ref, ty0, hc, hj, hb, hlen, hws, hlink, rfl, hty, hnm, rfl, hfi⟩ := hf
  have hap := va_apart (Ts := u_ws C T N) (own := C) (fun w hw => hX.w (hws w hw) #[]) (fun w hw => hw) ty0 hty hnm hX.K hc
  obtain ⟨r, h1, cell, q1, q2, q3, q4⟩ := (p1.2 a _ ha).2
  cases Option.some.inj (h1.symm.trans hc)
  obtain ⟨hS, hfc, kC, hkC, hkind⟩ := hX.K.1 c _ hc
  obtain ⟨cf, kf, fi, f, hi, hsl⟩ := hS j hj
  have hlay := hX.w (hws _ (u_in_lay hj)) (xA X)
  have hlays := u_lays (ws := u_ws C T N) (fun w hw => hX.w (hws w hw) (xA X)) (fun w hw => hw) hj
  have hst := (u_facts hfc hkC hlays hi).1
  have hd := hty j hj
  have fin9 : ∀ (H' : Heap), H'[a]? = some (cell.setSlot ((eK E).2 c j) v) → H'.size = H.size → (∀ q, q ≠ a → H'[q]? = H[q]?) → W (xP X) (eL E) (xE X) (xR X) (xS X) (xM X) (xA X) (xB X) (xH X) (xC X) H' (locs ++ [⟨a, (eK E).2 c j⟩]) cN sN Q (F0 (xM X) (pc + 3) ls st) := fun H' e1 e2 e3 =>
    kk H' _ ls (hm H H' _ p1 hc hlen hb e2 e3 ⟨_, e1, q2, q3, t_set q4 hap hj v⟩) (qS_put p2 e2 e3 (p1.2 a _ ha).1) p3
  unfold u_lay at hlay
  have hff : (T j).2.2.2 = false := hfi
  rw [if_neg (by show ¬ (T j).2.2.2 = true; rw [hff]; decide)] at hlay
  have h6 := u_store hfc hkC hkind hlay hi hd hn hfit
  rcases hlink with hlink | ⟨host, hlink⟩
  · refine W.putK hX.x hX.b (f := f) ⟨hX.own, hX.w hlink _, ⟨_, _, _, hi⟩, hst⟩ (by rw [q2]; exact h6) q1 q3 (by rw [hsl]; exact k2_hasslot (q4 j hj)) rfl rfl d fun H' e1 e2 e3 => ?_
    rw [hsl] at e1 ⊢
    exact fin9 H' e1 e2 e3
  · refine va_WputK hX.x hX.b (f := f) hX.own (hX.w hlink _) hi hst (by rw [q2]; exact h6) q1 q3 (by rw [hsl]; exact k2_hasslot (q4 j hj)) rfl rfl d fun H' e1 e2 e3 => ?_
    rw [hsl] at e1 ⊢
    exact fin9 H' e1 e2 e3
/-- a final field, in its class's own constructor -/
def FLF (own : String) (idx c k : Nat) (b : Bool) (ty : FieldType) : Prop := ∃ (r : vw_C) (ty0 : Nat → FieldType), vwCl[c]? = some r ∧ k < r.2.2 ∧ (qF c)[k]? = some b ∧ (qF c).length = r.2.2 ∧ (∀ w ∈ u_ws r.1 r.2.1 r.2.2, InT w) ∧
  InT (.fieldLink own idx own (r.2.1 k).2.1 (r.2.1 k).2.2.1) ∧ own = (r.2.1 k).1 ∧ (∀ j, j < r.2.2 → parseFieldDescriptor (r.2.1 j).2.2.1 = some (ty0 j)) ∧ (∀ i, i < r.2.2 → ∀ j, j < r.2.2 → i ≠ j → (r.2.1 i).2.1 ≠ (r.2.1 j).2.1) ∧ ty0 k = ty ∧ (r.2.1 k).2.2.2 = true
theorem r_putF (hX : MC E y cc nL ret k mc ms tab X) {a c j idx : Nat} {ty : FieldType} {v : Value} {m' : qM} {b : Bool} (d : decode cc pc = .ok (.putfield idx, 3)) (ha : gAt g a (.inl c)) (hf : FLF y.cls idx c j b ty) (hy : y.name = "<init>") (hn : narrow ty v = v) (hfit : fits ty v = true) (hm : Puts E g m m' a c j b v)
    (kk : WS E X cN sN Q g m' (pc + 3) l st) : WS E X cN sN Q g m pc l (v :: .ref a :: st) := by
  intro H locs ls p1 p2 p3
  obtain ⟨⟨C, T, N⟩, ty0, hc, hj, hb, hlen, hws, hlink, hown9, hty, hnm, rfl, hfi⟩ := hf
  have hap := va_apart (Ts := u_ws C T N) (own := C) (fun w hw => hX.w (hws w hw) #[]) (fun w hw => hw) ty0 hty hnm hX.K hc
  obtain ⟨r, h1, cell, q1, q2, q3, q4⟩ := (p1.2 a _ ha).2
  cases Option.some.inj (h1.symm.trans hc)
  obtain ⟨hS, hfc, kC, hkC, hkind⟩ := hX.K.1 c _ hc
  obtain ⟨cf, kf, fi, f, hi, hsl⟩ := hS j hj
  have hlay := hX.w (hws _ (u_in_lay hj)) (xA X)
  have hlays := u_lays (ws := u_ws C T N) (fun w hw => hX.w (hws w hw) (xA X)) (fun w hw => hw) hj
  have hst := (u_facts hfc hkC hlays hi).1
  have hd := hty j hj
  unfold u_lay at hlay
  rw [if_pos hfi] at hlay
  have hcf : (xM X).cls = cf := by
    obtain ⟨_, _, c', _, _, _, -, -, hf', -, -, -, hown2, -⟩ := Cond.laysFinal_spec hlay
    have e1 : c' = cf := by have := hi.symm.trans hf'; simp at this; exact this.1.symm
    have hown := hX.own
    rw [hown9] at hown
    rw [← e1]; exact Option.some.inj (hown.symm.trans hown2)
  have h6 := u_fits hfc hkC hkind (Or.inr hlay) hi hd hn hfit
  have hi2 := hi
  rw [show ((C, T, N).2.1 j).1 = y.cls from hown9.symm] at hi2
  refine W.putFinK hX.x hX.b hX.own (hX.w hlink _) hi2 hst hcf (hX.nm.trans hy) (by rw [q2]; exact h6) q1 q3 (by rw [hsl]; exact k2_hasslot (q4 j hj)) rfl rfl d fun H' e1 e2 e3 => ?_
  rw [hsl] at e1 ⊢
  exact kk H' _ ls (hm H H' _ p1 hc hlen hb e2 e3 ⟨_, e1, q2, q3, t_set q4 hap hj v⟩) (qS_put p2 e2 e3 (p1.2 a _ ha).1) p3
theorem puts_I {a c j : Nat} {v : Int32} (ha : gAt g a (.inl c)) : Puts E g m (wI m a j v) a c j false (.int v) := fun _ _ _ hP hc hl hb hz oq hn => hP.I ha hc hl hb hz oq hn
theorem puts_R {a c j : Nat} {v : Option Nat} (ha : gAt g a (.inl c)) : Puts E g m (wR m a j v) a c j true (va_rf v) := fun _ _ _ hP hc hl hb hz oq hn => hP.R ha hc hl hb hz oq hn
theorem r_putI (hX : MC E y cc nL ret k mc ms tab X) {a c j idx : Nat} {v : Int32} (d : decode cc pc = .ok (.putfield idx, 3)) (ha : gAt g a (.inl c)) (hf : FL y.cls idx c j false .int false) (kk : WS E X cN sN Q g (wI m a j v) (pc + 3) l st) : WS E X cN sN Q g m pc l (.int v :: .ref a :: st) := r_putV hX d ha hf rfl rfl (puts_I ha) kk
theorem r_putR (hX : MC E y cc nL ret k mc ms tab X) {a c j idx b : Nat} {ty : FieldType} (d : decode cc pc = .ok (.putfield idx, 3)) (ha : gAt g a (.inl c)) (hf : FL y.cls idx c j true ty false) (hn : narrow ty (.ref b) = .ref b) (hfit : fits ty (.ref b) = true) (kk : WS E X cN sN Q g (wR m a j (some b)) (pc + 3) l st) : WS E X cN sN Q g m pc l (.ref b :: .ref a :: st) := r_putV hX d ha hf hn hfit (puts_R (v := some b) ha) kk
theorem r_putFR (hX : MC E y cc nL ret k mc ms tab X) {a c j idx b : Nat} {ty : FieldType} (d : decode cc pc = .ok (.putfield idx, 3)) (ha : gAt g a (.inl c)) (hf : FLF y.cls idx c j true ty) (hy : y.name = "<init>") (hn : narrow ty (.ref b) = .ref b) (hfit : fits ty (.ref b) = true) (kk : WS E X cN sN Q g (wR m a j (some b)) (pc + 3) l st) : WS E X cN sN Q g m pc l (.ref b :: .ref a :: st) := r_putF hX d ha hf hy hn hfit (puts_R (v := some b) ha) kk
/-! arrays -/
theorem r_arr (hX : MC E y cc nL ret k mc ms tab X) {H : Heap} {a t n : Nat} (h : Pict E g m H) (ha : gAt g a (.inr (t, n))) : H[a]? = some (vp_cell (eC E t) (n, qrow t m a)) := (h.2 a _ ha).2
theorem r_iaload (hX : MC E y cc nL ret k mc ms tab X) {a n : Nat} {i : Int32} (d : decode cc pc = .ok (.iaload, 1)) (ha : gAt g a (.inr (0, n))) (hi : vp_in i n) (kk : WS E X cN sN Q g m (pc + 1) l (.int (qI m a i.toNatClampNeg) :: st)) : WS E X cN sN Q g m pc l (.int i :: .ref a :: st) :=
  fun H locs ls h1 h2 h3 => va_iald (ws := [(a, qe (eC E) (.inr (0, n)) m a)]) hX.x hX.b hX.K (h1.one ha) 0 0 rfl rfl hi d (kk H locs ls h1 h2 h3)
theorem r_caload (hX : MC E y cc nL ret k mc ms tab X) {a n : Nat} {i : Int32} (d : decode cc pc = .ok (.caload, 1)) (ha : gAt g a (.inr (1, n))) (hi : vp_in i n) (kk : WS E X cN sN Q g m (pc + 1) l (.int (qI m a i.toNatClampNeg) :: st)) : WS E X cN sN Q g m pc l (.int i :: .ref a :: st) :=
  fun H locs ls h1 h2 h3 => va_cald (ws := [(a, qe (eC E) (.inr (1, n)) m a)]) hX.x hX.b hX.K (h1.one ha) 0 1 rfl rfl hi d (kk H locs ls h1 h2 h3)
theorem r_baload (hX : MC E y cc nL ret k mc ms tab X) {a n : Nat} {i : Int32} (d : decode cc pc = .ok (.baload, 1)) (ha : gAt g a (.inr (2, n))) (hi : vp_in i n) (kk : WS E X cN sN Q g m (pc + 1) l (.int (qI m a i.toNatClampNeg) :: st)) : WS E X cN sN Q g m pc l (.int i :: .ref a :: st) :=
  fun H locs ls h1 h2 h3 => va_bald (ws := [(a, qe (eC E) (.inr (2, n)) m a)]) hX.x hX.b hX.K (h1.one ha) 0 2 rfl rfl hi d (kk H locs ls h1 h2 h3)
theorem r_aaload5 (hX : MC E y cc nL ret k mc ms tab X) {a n b : Nat} {i : Int32} (d : decode cc pc = .ok (.aaload, 1)) (ha : gAt g a (.inr (5, n))) (hi : vp_in i n) (hb : qR m a i.toNatClampNeg = some b) (kk : WS E X cN sN Q g m (pc + 1) l (.ref b :: st)) : WS E X cN sN Q g m pc l (.int i :: .ref a :: st) :=
  fun H locs ls h1 h2 h3 => va_aldq (ws := [(a, qe (eC E) (.inr (5, n)) m a)]) (C := "CometObservatory$Comet") hX.x hX.b hX.K (h1.one ha) 0 5 rfl rfl hi d (by show W _ _ _ _ _ _ _ _ _ _ _ _ _ _ _ (F0 _ _ _ (va_rf (qR m a i.toNatClampNeg) :: st)); rw [hb]; exact kk H locs ls h1 h2 h3)
theorem r_aaload6 (hX : MC E y cc nL ret k mc ms tab X) {a n b : Nat} {i : Int32} (d : decode cc pc = .ok (.aaload, 1)) (ha : gAt g a (.inr (6, n))) (hi : vp_in i n) (hb : qR m a i.toNatClampNeg = some b) (kk : WS E X cN sN Q g m (pc + 1) l (.ref b :: st)) : WS E X cN sN Q g m pc l (.int i :: .ref a :: st) :=
  fun H locs ls h1 h2 h3 => va_aldq (ws := [(a, qe (eC E) (.inr (6, n)) m a)]) (C := "CometObservatory$Sky") hX.x hX.b hX.K (h1.one ha) 0 6 rfl rfl hi d (by show W _ _ _ _ _ _ _ _ _ _ _ _ _ _ _ (F0 _ _ _ (va_rf (qR m a i.toNatClampNeg) :: st)); rw [hb]; exact kk H locs ls h1 h2 h3)
theorem r_alen (hX : MC E y cc nL ret k mc ms tab X) {a t n : Nat} {v : Int32} (d : decode cc pc = .ok (.arraylength, 1)) (ha : gAt g a (.inr (t, n))) (ht : t < 8) (hv : Int32.ofNat n = v) (kk : WS E X cN sN Q g m (pc + 1) l (.int v :: st)) : WS E X cN sN Q g m pc l (.ref a :: st) :=
  fun H locs ls h1 h2 h3 => va_alen (ws := [(a, qe (eC E) (.inr (t, n)) m a)]) hX.x hX.b hX.K (h1.one ha) 0 t rfl (qtys_get (eC E) ht) hv d (kk H locs ls h1 h2 h3)
theorem r_iastore (hX : MC E y cc nL ret k mc ms tab X) {a n : Nat} {i : Int32} {x : Int32} (d : decode cc pc = .ok (.iastore, 1)) (ha : gAt g a (.inr (0, n))) (hi : vp_in i n) (kk : WS E X cN sN Q g (wI m a i.toNatClampNeg (x)) (pc + 1) l st) : WS E X cN sN Q g m pc l (.int x :: .int i :: .ref a :: st) := by
  intro H locs ls h1 h2 h3
  have ha2 := r_arr hX h1 ha
  refine W.iast hX.x hX.b ha2 ((hX.K.2 0 _ (qtys_get (eC E) (by decide))).1 n _) (fun q => by cases q) (by show ¬ (i < 0 ∨ (arrV _ _ _).slots.size ≤ _); rw [arrV_size]; exact hi) rfl rfl d fun H1 e z oq => ?_
  refine kk H1 _ ls (h1.A ha z oq ?_ (fun q sh e => qe_wI e)) (qS_put h2 z oq (h1.2 a _ ha).1) h3
  rw [e]
  show some ((vp_cell (eC E 0) (n, .inl (m.1 a))).setSlot _ _) = some (vp_cell (eC E 0) (n, .inl (((wI m a i.toNatClampNeg x)).1 a)))
  rw [vp_cell_i, vp_cell_i, arrV_store]
  congr 2
  funext q
  by_cases hq : q = i.toNatClampNeg
  · subst hq
    simp [updV, wI]
    try rfl
  · simp [updV, wI, hq]
theorem r_castore (hX : MC E y cc nL ret k mc ms tab X) {a n : Nat} {i : Int32} {x : Int32} (d : decode cc pc = .ok (.castore, 1)) (ha : gAt g a (.inr (1, n))) (hi : vp_in i n) (kk : WS E X cN sN Q g (wI m a i.toNatClampNeg (vp_nar .char x)) (pc + 1) l st) : WS E X cN sN Q g m pc l (.int x :: .int i :: .ref a :: st) := by
  intro H locs ls h1 h2 h3
  have ha2 := r_arr hX h1 ha
  refine W.cast hX.x hX.b ha2 ((hX.K.2 1 _ (qtys_get (eC E) (by decide))).1 n _) (fun q => by cases q) (by show ¬ (i < 0 ∨ (arrV _ _ _).slots.size ≤ _); rw [arrV_size]; exact hi) rfl rfl d fun H1 e z oq => ?_
  refine kk H1 _ ls (h1.A ha z oq ?_ (fun q sh e => qe_wI e)) (qS_put h2 z oq (h1.2 a _ ha).1) h3
  rw [e]
  show some ((vp_cell (eC E 1) (n, .inl (m.1 a))).setSlot _ _) = some (vp_cell (eC E 1) (n, .inl (((wI m a i.toNatClampNeg (vp_nar .char x))).1 a)))
  rw [vp_cell_i, vp_cell_i, arrV_store]
  congr 2
  funext q
  by_cases hq : q = i.toNatClampNeg
  · subst hq
    simp [updV, wI, vp_nar]
    try rfl
  · simp [updV, wI, hq]
theorem r_bastore (hX : MC E y cc nL ret k mc ms tab X) {a n : Nat} {i : Int32} {x : Int32} (d : decode cc pc = .ok (.bastore, 1)) (ha : gAt g a (.inr (2, n))) (hi : vp_in i n) (kk : WS E X cN sN Q g (wI m a i.toNatClampNeg (vp_nar .byte x)) (pc + 1) l st) : WS E X cN sN Q g m pc l (.int x :: .int i :: .ref a :: st) := by
  intro H locs ls h1 h2 h3
  have ha2 := r_arr hX h1 ha
  refine W.bast hX.x hX.b ha2 ((hX.K.2 2 _ (qtys_get (eC E) (by decide))).1 n _) (fun q => by cases q) (by show ¬ (i < 0 ∨ (arrV _ _ _).slots.size ≤ _); rw [arrV_size]; exact hi) rfl rfl d fun H1 e z oq => ?_
  refine kk H1 _ ls (h1.A ha z oq ?_ (fun q sh e => qe_wI e)) (qS_put h2 z oq (h1.2 a _ ha).1) h3
  rw [e]
  show some ((vp_cell (eC E 2) (n, .inl (m.1 a))).setSlot _ _) = some (vp_cell (eC E 2) (n, .inl (((wI m a i.toNatClampNeg (vp_nar .byte x))).1 a)))
  rw [vp_cell_i, vp_cell_i, arrV_store]
  congr 2
  funext q
  by_cases hq : q = i.toNatClampNeg
  · subst hq
    simp [updV, wI, vp_nar]
    try rfl
  · simp [updV, wI, hq]
theorem r_aastore5 (hX : MC E y cc nL ret k mc ms tab X) {a n v : Nat} {i : Int32} (d : decode cc pc = .ok (.aastore, 1)) (ha : gAt g a (.inr (5, n))) (hi : vp_in i n) (hv : gAt g v (.inl 4)) (kk : WS E X cN sN Q g (wR m a i.toNatClampNeg (some v)) (pc + 1) l st) : WS E X cN sN Q g m pc l (.ref v :: .int i :: .ref a :: st) := by
  intro H locs ls h1 h2 h3
  have ha2 := r_arr hX h1 ha
  have hlt : i.toNatClampNeg < n := Nat.not_le.mp fun q => hi (Or.inr q)
  have h0 : ¬ i < 0 := fun q => hi (Or.inl q)
  obtain ⟨r', hr', cellV, g1, g2, g3, -⟩ := (h1.2 v _ hv).2
  have hcls := (hX.K.1 4 _ rfl).2
  obtain ⟨kA, comp, k1, k2, k3, -⟩ := (hX.K.2 5 _ (qtys_get (eC E) (t := 5) (by decide))).2
  have hcomp : comp = (eK E).1 4 := Option.some.inj (k3.symm.trans hcls.1)
  subst hcomp
  obtain ⟨kC, hkC, -⟩ := hcls.2
  refine W.aast hX.x hX.b ha2 (fun q h => by cases h) (fun h => by cases h) k1 k2 rfl hkC ⟨h0, by show _ < (arrV _ _ _).slots.size; rw [arrV_size]; exact hlt⟩ g1 (fun q h => by rw [g3] at h; cases h) (by rw [g2]; exact hkC) (by rw [g2]; exact va_assign hcls) rfl rfl d fun H1 e z oq => ?_
  refine kk H1 _ ls (h1.A ha z oq ?_ (fun q sh e => qe_wR e)) (qS_put h2 z oq (h1.2 a _ ha).1) h3
  rw [e]
  show some ((vp_cell (eC E 5) (n, .inr (.inr (.inr (.inr (m.2.1 a)))))).setSlot _ _) = some (vp_cell (eC E 5) (n, .inr (.inr (.inr (.inr (((wR m a i.toNatClampNeg (some v))).2.1 a))))))
  rw [vp_cell_q, vp_cell_q, arrV_store]
  congr 2
  funext q
  by_cases hq : q = i.toNatClampNeg
  · subst hq
    simp [updV, wR, va_rf]
  · simp [updV, wR, hq]
theorem r_aastore6 (hX : MC E y cc nL ret k mc ms tab X) {a n v : Nat} {i : Int32} (d : decode cc pc = .ok (.aastore, 1)) (ha : gAt g a (.inr (6, n))) (hi : vp_in i n) (hv : gAt g v (.inl 8)) (kk : WS E X cN sN Q g (wR m a i.toNatClampNeg (some v)) (pc + 1) l st) : WS E X cN sN Q g m pc l (.ref v :: .int i :: .ref a :: st) := by
  intro H locs ls h1 h2 h3
  have ha2 := r_arr hX h1 ha
  have hlt : i.toNatClampNeg < n := Nat.not_le.mp fun q => hi (Or.inr q)
  have h0 : ¬ i < 0 := fun q => hi (Or.inl q)
  obtain ⟨r', hr', cellV, g1, g2, g3, -⟩ := (h1.2 v _ hv).2
  have hcls := (hX.K.1 8 _ rfl).2
  obtain ⟨kA, comp, k1, k2, k3, -⟩ := (hX.K.2 6 _ (qtys_get (eC E) (t := 6) (by decide))).2
  have hcomp : comp = (eK E).1 8 := Option.some.inj (k3.symm.trans hcls.1)
  subst hcomp
  obtain ⟨kC, hkC, -⟩ := hcls.2
  refine W.aast hX.x hX.b ha2 (fun q h => by cases h) (fun h => by cases h) k1 k2 rfl hkC ⟨h0, by show _ < (arrV _ _ _).slots.size; rw [arrV_size]; exact hlt⟩ g1 (fun q h => by rw [g3] at h; cases h) (by rw [g2]; exact hkC) (by rw [g2]; exact va_assign hcls) rfl rfl d fun H1 e z oq => ?_
  refine kk H1 _ ls (h1.A ha z oq ?_ (fun q sh e => qe_wR e)) (qS_put h2 z oq (h1.2 a _ ha).1) h3
  rw [e]
  show some ((vp_cell (eC E 6) (n, .inr (.inr (.inr (.inr (m.2.1 a)))))).setSlot _ _) = some (vp_cell (eC E 6) (n, .inr (.inr (.inr (.inr (((wR m a i.toNatClampNeg (some v))).2.1 a))))))
  rw [vp_cell_q, vp_cell_q, arrV_store]
  congr 2
  funext q
  by_cases hq : q = i.toNatClampNeg
  · subst hq
    simp [updV, wR, va_rf]
  · simp [updV, wR, hq]
end WM
