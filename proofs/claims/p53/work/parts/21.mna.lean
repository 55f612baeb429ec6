/-! ===== new int[12][3]: the outer row, then the inner ones, each put into it as it is made ===== -/
section MNA
/-- the outer row when i inner ones stand in it -/
def mnO (c : ClassId) (a i : Nat) : Cell := { cls := c, slots := ((List.range 12).map fun j => if j < i then Value.ref (a + 1 + j) else .null).toArray, vm := .none }
def mnI (c : ClassId) : Cell := { cls := c, slots := Array.replicate 3 (.int 0), vm := .none }
theorem mnO_0 (c : ClassId) (a : Nat) : mnO c a 0 = { cls := c, slots := Array.replicate 12 .null, vm := .none } := rfl
theorem mnO_get (c : ClassId) (a i j : Nat) : (mnO c a i).slots[j]? = if j < 12 then some (if j < i then Value.ref (a + 1 + j) else .null) else none := by
  unfold mnO
  rw [List.getElem?_toArray, List.getElem?_map]
  by_cases h : j < 12
  · rw [List.getElem?_range h, if_pos h]; rfl
  · rw [List.getElem?_eq_none (by rw [List.length_range]; omega), if_neg h]; rfl
theorem mnO_sz (c : ClassId) (a i : Nat) : (mnO c a i).slots.size = 12 := by simp [mnO]
theorem mnO_set (c : ClassId) (a i : Nat) (hi : i < 12) : (mnO c a i).setSlot i (.ref (a + 1 + i)) = mnO c a (i + 1) := by
  have h : ((mnO c a i).setSlot i (.ref (a + 1 + i))).slots = (mnO c a (i + 1)).slots := by
    apply Array.ext_getElem?
    intro j
    show ((mnO c a i).slots.setIfInBounds i _)[j]? = _
    rw [Array.getElem?_setIfInBounds, mnO_get, mnO_get, mnO_sz]
    grind
  show ({ cls := c, slots := ((mnO c a i).setSlot i (.ref (a + 1 + i))).slots, vm := .none } : Cell) = _
  rw [h]; rfl
/-- the machine when i inner rows stand -/
def mnF (U : State) (cA cI : ClassId) : Nat → State
  | 0 => U.pushCell (mnO cA U.heap.size 0)
  | i + 1 => ((mnF U cA cI i).pushCell (mnI cI)).setCell U.heap.size (mnO cA U.heap.size (i + 1))
theorem mnF_at (U : State) (cA cI : ClassId) : ∀ i, (mnF U cA cI i).vm = U.vm ∧ (mnF U cA cI i).heap.size = U.heap.size + 1 + i ∧ (mnF U cA cI i).slotsUsed = U.slotsUsed + 12 + 3 * i ∧ (∀ q : Nat, q < U.heap.size → (mnF U cA cI i).heap[q]? = U.heap[q]?) ∧ (mnF U cA cI i).heap[U.heap.size]? = some (mnO cA U.heap.size i) ∧ ∀ j : Nat, j < i → (mnF U cA cI i).heap[U.heap.size + 1 + j]? = some (mnI cI)
  | 0 => ⟨rfl, by simp [mnF], by simp [mnF, mnO_sz], fun q hq => State.heap_pushCell_of_lt _ _ hq, by simp [mnF], fun j hj => absurd hj (Nat.not_lt_zero j)⟩
  | i + 1 => by
    obtain ⟨h1, h2, h3, h4, h5, h6⟩ := mnF_at U cA cI i
    have e : ∀ q : Nat, (mnF U cA cI (i + 1)).heap[q]? = if q = U.heap.size then some (mnO cA U.heap.size (i + 1)) else if q = U.heap.size + 1 + i then some (mnI cI) else (mnF U cA cI i).heap[q]? := fun q => by
      show ((((mnF U cA cI i).heap.push (mnI cI)).setIfInBounds U.heap.size (mnO cA U.heap.size (i + 1))))[q]? = _
      rw [Array.getElem?_setIfInBounds, Array.size_push, Array.getElem?_push, h2]
      grind
    refine ⟨h1, ?_, ?_, fun q hq => ?_, ?_, fun j hj => ?_⟩
    · show ((((mnF U cA cI i).heap.push (mnI cI)).setIfInBounds U.heap.size _)).size = _
      rw [Array.size_setIfInBounds, Array.size_push, h2]; omega
    · show (((mnF U cA cI i).pushCell (mnI cI)).setCell _ _).slotsUsed = _
      simp only [State.slotsUsed_setCell, State.slotsUsed_pushCell, h3]
      show _ + (Array.replicate 3 (Value.int 0)).size = _
      simp; omega
    · rw [e, if_neg (by omega), if_neg (by omega)]; exact h4 q hq
    · rw [e, if_pos rfl]
    · rw [e, if_neg (by omega)]
      by_cases ej : j = i
      · rw [if_pos (by omega)]
      · rw [if_neg (by omega)]; exact h6 j (by omega)
theorem mnF_top (U : State) (f : JFrame) (cA cI : ClassId) : ∀ i, mnF (U.setTop f) cA cI i = (mnF U cA cI i).setTop f
  | 0 => rfl
  | i + 1 => by simp only [mnF, mnF_top U f cA cI i, State.heap_setTop, State.pushCell_setTop, State.setCell_setTop]
variable {p : Program} {l : Launch} {e : Jvm.Env} {R : Room} {s : State} {m : MethodId} {args : Array Value} {below : List Frame} {meth : Method} {c : Code} {T : State} {locs : List Loc} {cells slots : Nat}
theorem mnF_stand (X : Stand p l e R s m args below meth c T locs cells slots) (cA cI : ClassId) : ∀ i, i ≤ 12 → ∃ J : List Loc, (∀ x ∈ J, s.heap.size ≤ x.base) ∧ Stand p l e R s m args below meth c (mnF T cA cI i) (locs ++ J) (cells + 1 + i) (slots + 12 + 3 * i)
  | 0, _ => by
    refine ⟨[], fun x hx => absurd hx List.not_mem_nil, ?_⟩
    have h := X.pushed (mnO cA T.heap.size 0)
    rw [mnO_sz] at h
    rw [List.append_nil]
    exact h
  | i + 1, hi => by
    obtain ⟨J, hJ, Xi⟩ := mnF_stand X cA cI i (by omega)
    obtain ⟨h1, h2, h3, h4, h5, h6⟩ := mnF_at T cA cI i
    have hc : ((mnF T cA cI i).pushCell (mnI cI)).heap[T.heap.size]? = some (mnO cA T.heap.size i) := by rw [State.heap_pushCell_of_lt (h := (by rw [h2]; omega : T.heap.size < (mnF T cA cI i).heap.size))]; exact h5
    have h := (Xi.pushed (mnI cI)).stored hc i (.ref (T.heap.size + 1 + i))
    rw [mnO_set _ _ _ (by omega)] at h
    refine ⟨J ++ [⟨T.heap.size, i⟩], fun x hx => ?_, ?_⟩
    · rcases List.mem_append.mp hx with h | h
      · exact hJ x h
      · rw [List.mem_singleton.mp h]; exact X.heapGrown
    · have e2 : slots + 12 + 3 * i + (mnI cI).slots.size = slots + 12 + 3 * (i + 1) := by show _ + (Array.replicate 3 (Value.int 0)).size = _; simp; omega
      rw [e2, List.append_assoc] at h
      exact h
theorem mn_new {Z : CtlPost} {d : Bool} {acts : List Action} {U : State} {cA comp : ClassId} {kA : Class} {ty : FieldType} {n : Nat} {v : Value} (hk : U.vm.classes[cA]? = some kA) (hkind : kA.kind = .array comp ty) (hl : ¬ n > e.platform.arrayLengthLimit) (hh : ¬ n * componentBytes ty > e.platform.maxHeapBytes)
    (hv : fits ty v = true ∧ v.isDefault = true) (h1 : U.heap.size < e.platform.maxCells) (h2 : U.slotsUsed + n ≤ e.platform.maxSlots) {Q : Addr → Pre} (hq : Q U.heap.size d acts (U.pushCell { cls := cA, slots := Array.replicate n v, vm := .none })) : wp (Jvm.newArray cA n v) Q Z e d acts U := by
  have ha : allocActs (Array.replicate n v) U.heap.size acts = acts := if_pos (by rw [Array.all_replicate]; split <;> simp [hv.2])
  have hf : ∀ i w, (Array.replicate n v)[i]? = some w → U.fitsSlot cA .none i w = true := fun i w hw => by
    rw [Array.getElem?_replicate] at hw
    split at hw
    · cases hw; simp [State.fitsSlot, State.slotType?, hk, hkind, hv.1]
    · cases hw
  simp only [Jvm.newArray, Jvm.arrayFits, wp_bind', W.ask, W.ite, hl, if_false, wp_pure', W.theClass, hk, hkind, hh, W.alloc, W.stop, Option.some.injEq, exists_eq_left', Array.size_replicate, ha]
  rw [if_neg (by omega)]
  exact ⟨h1, h2, hf, hq⟩
theorem mn_make {Z : CtlPost} {d : Bool} {acts : List Action} {U : State} {cA cI cc9 : ClassId} {kA kI : Class} (hkA : U.vm.classes[cA]? = some kA) (hkindA : kA.kind = .array cI (.array .int)) (hkI : U.vm.classes[cI]? = some kI) (hkindI : kI.kind = .array cc9 .int)
    (hl : 12 ≤ e.platform.arrayLengthLimit) (hh : 48 ≤ e.platform.maxHeapBytes) (hc : U.heap.size + 13 ≤ e.platform.maxCells) (hs : U.slotsUsed + 48 ≤ e.platform.maxSlots) {Q : Addr → Pre} (hq : ∀ d' acts', Q U.heap.size d' acts' (mnF U cA cI 12)) : wp (Op.multianewarray.make cA [12, 3]) Q Z e d acts U := by
  have c12 : (12 : Int32).toNatClampNeg = 12 := by decide
  have c3 : (3 : Int32).toNatClampNeg = 3 := by decide
  have b1 : ¬ (12 : Int32) < 0 := by decide
  have b2 : ¬ (3 : Int32) < 0 := by decide
  rw [Op.multianewarray.make]
  simp only [wp_bind', W.ite, b1, if_false, wp_pure', W.theClass, hkA, hkindA, Option.some.injEq, exists_eq_left', c12]
  refine mn_new hkA hkindA (by omega) (by show ¬ 12 * 4 > _; omega) ⟨rfl, rfl⟩ (by omega) (by omega) ?_
  have hfind : ([(3 : Int32)].find? (· < 0)) = none := by decide
  simp only [hfind]
  rw [ite_self, wp_bind', Std.Legacy.Range.forIn_eq_forIn_range']
  show wp (forIn (List.range' 0 12 1) PUnit.unit _) _ Z e d acts _
  refine wp_forIn_inv (fun r s' => ∃ i, i + r.length = 12 ∧ r = List.range' i r.length ∧ s' = mnF U cA cI i) _ _ ⟨0, by rw [List.length_range'], by rw [List.length_range'], rfl⟩ ?_ ?_
  · rintro x r s' d' acts' Q' ⟨i, hi, hr, rfl⟩ hnext
    have hi12 : i < 12 := by rw [List.length_cons] at hi; omega
    rw [List.length_cons, List.range'_succ] at hr
    obtain ⟨rfl, hr⟩ := List.cons.inj hr
    obtain ⟨h1, h2, h3, h4, h5, h6⟩ := mnF_at U cA cI x
    have hlt : U.heap.size < (mnF U cA cI x).heap.size := by omega
    simp only [wp_bind']
    rw [Op.multianewarray.make]
    simp only [wp_bind', W.ite, b2, if_false, wp_pure', W.theClass, h1, hkI, hkindI, Option.some.injEq, exists_eq_left', c3]
    refine mn_new (by rw [h1]; exact hkI) hkindI (by omega) (by show ¬ 3 * 4 > _; omega) ⟨rfl, rfl⟩ (by omega) (by omega) ?_
    simp only [wp_bind', W.writeLoc, wp_pure']
    refine ⟨mnO cA U.heap.size x, by rw [State.heap_pushCell_of_lt (h := hlt)]; exact h5, by simp [mnO], by rw [mnO_sz]; exact hi12, ?_, hnext _ _ _ ⟨x + 1, by rw [List.length_cons] at hi; omega, hr, ?_⟩⟩
    · simp [State.fitsSlot, State.slotType?, mnO, h1, hkA, hkindA, fits]
    · rw [h2, mnO_set _ _ _ hi12]; rfl
  · rintro s' d' acts' ⟨i, hi, -, rfl⟩
    have hi : i = 12 := hi
    subst hi
    simp only [wp_pure']
    exact hq _ _
theorem mn_step (X : Stand p l e R s m args below meth c T locs cells slots) (hexec : p.tables.exec = Jvm.exec) {own : String} {idx : Nat} (hown : s.vm.findClass own = some m.cls) (hlk : (Cond.classLink own idx "[[I").before args s = true) (hov : (Cond.arrayOver (.array .int)).before args s = true) (har : (Cond.arrayClass .int).before args s = true)
    {f : JFrame} (hf : f.method = m) (hd : decode c.code f.pc = .ok (.multianewarray idx 2, 4)) {rest : List Value} (hst : f.stack = .int 3 :: .int 12 :: rest) (hc : cells + 13 ≤ R.cells) (hs : slots + 48 ≤ R.slots) :
    ∃ (vm1 : Vm) (cA cI : ClassId), s.vm.findClass "[[I" = some cA ∧ s.vm.findClass "[I" = some cI ∧ Stand p l e R s m args below meth c (mnF (T.setVm vm1) cA cI 12) locs (cells + 13) (slots + 48) ∧
      ∀ t, Steps p.tables e below ((mnF (T.setVm vm1) cA cI 12).setTop { f with pc := f.pc + 4, stack := .ref T.heap.size :: rest }) t → Steps p.tables e below (T.setTop f) t := by
  subst hf
  obtain ⟨cI, cA, kA, hcI, -, hkA, hkindA, hcA⟩ := arrayOverA_spec hov
  obtain ⟨cI2, kI, cc9, hcI2, hkI, hkindI⟩ := Cond.arrayClass_spec har
  cases Option.some.inj (hcI2.symm.trans hcI)
  obtain ⟨cA2, hcA2, hlinks⟩ := Cond.classLink_spec hown hlk e.platform (by rw [X.admits.platform])
  cases Option.some.inj (hcA2.symm.trans hcA)
  obtain ⟨hg1, hW1, -⟩ := State.classEntry (e := e) X.warmed hlinks
  generalize T.vm.noted f.method.cls idx (.cls cA) = vm1 at hg1 hW1
  obtain ⟨kA1, hkA1, eA⟩ := hW1.alike.2.2 _ _ hkA
  obtain ⟨kI1, hkI1, eI⟩ := hW1.alike.2.2 _ _ hkI
  obtain ⟨J, hJ, XF⟩ := mnF_stand (X.noted hW1) cA cI 12 (Nat.le_refl 12)
  obtain ⟨r1, r2⟩ := X.roomAbove hc hs
  refine ⟨vm1, cA, cI, hcA, hcI, XF.dropFresh hJ, fun t ht => ?_⟩
  jvm_step X.here [hexec, hd]
  simp only [Op.multianewarray.sem, wp_bind', W.resolveClassAt_links (State.method?_setTop f X.here.top) hg1]
  rw [W.popN, if_neg (by decide)]
  refine ⟨f, State.topJava?_setTop' (s := T.setVm vm1) f X.here.top, [.int 12, .int 3], rest, rfl, hst, ?_⟩
  simp only [List.mapM_cons, List.mapM_nil, wp_bind', wp_pure']
  refine mn_make (U := ((T.setTop f).setVm vm1).setTop { f with stack := rest }) (kA := kA1) (kI := kI1) (cI := cI) (cc9 := cc9) hkA1 (by rw [eA]; exact hkindA) hkI1 (by rw [eI]; exact hkindI) (by rw [Launch.admits_arrayLengthLimit X.admits]; decide) (by rw [Launch.admits_maxHeapBytes X.admits]; decide) r1 r2 (fun d' acts' => ?_)
  have eS : ((T.setTop f).setVm vm1).setTop { f with stack := rest } = (T.setVm vm1).setTop { f with stack := rest } := by
    show ((T.setVm vm1).setTop f).setTop _ = _
    rw [State.setTop_setTop]
  rw [eS, mnF_top]
  simp only [wp_bind', W.mark, W.pushRef, State.topJava?_setTop' _ XF.here.top, Option.some.injEq, exists_eq_left', State.setTop_setTop, State.heap_setTop]
  intro acts
  simp [jvm, XF.here.top]
  exact ht
end MNA
def gNm (g : qG) : qG := (fun q => if q = g.2 then some (.inr (7, 12)) else if g.2 < q ∧ q < g.2 + 13 then some (.inr (0, 3)) else g.1 q, g.2 + 13)
def mNm (m : qM) (a : Nat) : qM := (fun b j => if a ≤ b ∧ b < a + 13 then 0 else m.1 b j, fun b j => if b = a ∧ j < 12 then some (a + 1 + j) else if a ≤ b ∧ b < a + 13 then none else m.2.1 b j, fun b j => if a ≤ b ∧ b < a + 13 then 0 else m.2.2.1 b j, fun b j => if a ≤ b ∧ b < a + 13 then 0 else m.2.2.2 b j)
theorem mnO_arr (c : ClassId) (a : Nat) : mnO c a 12 = arrV c 12 (fun j => .ref (a + 1 + j)) := by
  have h : (mnO c a 12).slots = (arrV c 12 (fun j => .ref (a + 1 + j))).slots := by
    apply Array.ext_getElem?
    intro j
    rw [mnO_get]
    by_cases hj : j < 12
    · rw [if_pos hj, if_pos hj, arrV_read _ _ hj]
    · rw [if_neg hj, Array.getElem?_eq_none (by rw [arrV_size]; omega)]
  show ({ cls := c, slots := (mnO c a 12).slots, vm := .none } : Cell) = _
  rw [h]; rfl
section WM
variable {E : qE} {y : MethodName} {cc : ByteArray} {nL : Nat} {ret : Option FieldType} {k mc ms : Nat} {tab : List ExceptionTableEntry} {X : qX} {cN sN : Nat} {Q : State → Prop} {g : qG} {m : qM} {pc : Nat} {l : List (Option Value)} {st : List Value}
theorem r_mna (hX : MC E y cc nL ret k mc ms tab X) {idx : Nat} (d : decode cc pc = .ok (.multianewarray idx 2, 4)) (hw : InT (.classLink y.cls idx "[[I") ∧ InT (.arrayOver (.array .int)) ∧ InT (.arrayClass .int)) (hc : cN + 13 ≤ mc) (hs : sN + 48 ≤ ms)
    (kk : WS E X (cN + 13) (sN + 48) Q (gNm g) (mNm m g.2) (pc + 4) l (.ref g.2 :: st)) : WS E X cN sN Q g m pc l (.int 3 :: .int 12 :: st) := by
  intro H locs ls h1 h2 h3
  have hR := hX.rm
  have hb := qBase hX h1 h2
  have hsz : H.size = g.2 := h1.1
  have k0 : (xS X).vm.findClass "[I" = some (eC E 0) := (hX.K.2 0 _ (qtys_get (eC E) (t := 0) (by decide))).2
  have k7 : (xS X).vm.findClass "[[I" = some (eC E 7) := (hX.K.2 7 _ (qtys_get (eC E) (t := 7) (by decide))).2
  intro T hT Xs
  obtain ⟨vm1, cA, cI, f1, f2, XF, st9⟩ := mn_step Xs hX.x hX.own (hX.w hw.1 _) (hX.w hw.2.1 _) (hX.w hw.2.2 _) (f := F0 (xM X) pc ls (.int 3 :: .int 12 :: st)) rfl (by rw [hX.b]; exact d) rfl (by rw [hR]; exact hc) (by rw [hR]; exact hs)
  cases Option.some.inj (f1.symm.trans k7)
  cases Option.some.inj (f2.symm.trans k0)
  obtain ⟨a1, a2, a3, a4, a5, a6⟩ := mnF_at (T.setVm vm1) (eC E 7) (eC E 0) 12
  have hTh : (T.setVm vm1).heap = H := hT
  rw [hTh] at a2 a4 a5 a6
  generalize hF : mnF (T.setVm vm1) (eC E 7) (eC E 0) 12 = F at XF st9 a1 a2 a3 a4 a5 a6
  have hP : Pict E (gNm g) (mNm m g.2) F.heap := by
    refine ⟨by rw [a2, hsz]; rfl, fun q sh hq => ?_⟩
    by_cases e1 : q = g.2
    · subst e1
      have : sh = .inr (7, 12) := Option.some.inj (hq.symm.trans (if_pos rfl))
      subst this
      refine ⟨hb, ?_⟩
      show F.heap[g.2]? = some (vp_cell (eC E 7) (12, .inr (.inr (.inr (.inr ((mNm m g.2).2.1 g.2))))))
      rw [← hsz, a5, mnO_arr, vp_cell_q]
      congr 1
      unfold arrV
      congr 1
      apply Array.ext_getElem?
      intro j
      by_cases hj : j < 12
      · simp [hj, mNm, va_rf]
      · simp [hj]
    · by_cases e2 : g.2 < q ∧ q < g.2 + 13
      · have : sh = .inr (0, 3) := Option.some.inj (hq.symm.trans ((if_neg e1).trans (if_pos e2)))
        subst this
        refine ⟨hX.eh.1 q (Nat.le_trans h2.1 (by omega)), ?_⟩
        show F.heap[q]? = some (vp_cell (eC E 0) (3, .inl ((mNm m g.2).1 q)))
        have := a6 (q - g.2 - 1) (by omega)
        rw [show H.size + 1 + (q - g.2 - 1) = q by omega] at this
        rw [this, vp_cell_i]
        show some ({ cls := _, slots := Array.replicate 3 (Value.int 0), vm := .none } : Cell) = _
        rw [arrV_new]
        have e9 : (mNm m g.2).1 q = fun _ => 0 := funext fun j => if_pos (by omega)
        rw [e9]
      · have hq' : g.1 q = some sh := ((if_neg e1).trans (if_neg e2)).symm.trans hq
        obtain ⟨b1, b2⟩ := h1.2 q sh hq'
        have hne : ¬ (g.2 ≤ q ∧ q < g.2 + 13) := by omega
        have c1 : (mNm m g.2).1 q = m.1 q := funext fun j => if_neg hne
        have c2 : (mNm m g.2).2.1 q = m.2.1 q := funext fun j => (if_neg (fun h => e1 h.1)).trans (if_neg hne)
        have c3 : (mNm m g.2).2.2.1 q = m.2.2.1 q := funext fun j => if_neg hne
        have c4 : (mNm m g.2).2.2.2 q = m.2.2.2 q := funext fun j => if_neg hne
        refine ⟨b1, ?_⟩
        have c5 : qe (eC E) sh (mNm m g.2) q = qe (eC E) sh m q := by
          rcases sh with s1 | s1 <;> simp only [qe, qrow, c1, c2, c3, c4]
        rw [c5]
        exact b2.kept (a4 q b2.lt)
  have hS : va_S (qA E) (xS X).heap F.heap locs := ⟨Nat.le_trans h2.1 (by omega), fun x u1 u2 => (a4 x (Nat.lt_of_lt_of_le u1 h2.1)).trans (h2.2.1 x u1 u2), h2.2.2⟩
  have e9 : T.heap.size = g.2 := by rw [← hsz, ← hT]
  rw [e9] at st9
  obtain ⟨t, b1, b2⟩ := kk F.heap locs ls hP hS h3 F rfl XF
  exact ⟨t, st9 t b1, b2⟩
end WM
