/-! ===== the environment of every method; the judgement; contracts ===== -/
/-- the String constants: where they stand, and what they say -/
def qstr : List (String × Nat × String) := [
  ("CometObservatoryLaw", 142, "*"), ("CometObservatoryLaw", 147, "/"), ("CometObservatoryLaw", 149, "@"), ("CometObservatoryLaw", 184, ""), ("CometObservatoryLaw", 186, ","), ("CometObservatoryLaw", 186, ","), ("CometObservatoryLaw", 186, ","),
  ("CometObservatory", 67, "period, delay or brightness out of range"), ("CometObservatory", 78, "there are 6 comets"), ("CometObservatory", 108, "period out of range"), ("CometObservatory", 116, "amount out of range"), ("CometObservatory", 121, "brightness would be greater than 20"), ("CometObservatory", 128, "too few coins"), ("CometObservatory", 141, "days out of range"), ("CometObservatory", 152, "no such place"), ("CometObservatory", 158, "number of places out of range"), ("CometObservatory", 171, "rate out of range"), ("CometObservatory", 179, "no comet at this position"), ("CometObservatory", 197, "no comet at this rank"), ("CometObservatory", 208, "both ids are the same"), ("CometObservatory", 216, "they never meet"), ("CometObservatory", 223, "there are no comets"), ("CometObservatory", 393, "no such comet"), ("CometObservatory", 393, "no such comet"), ("CometObservatory", 393, "no such comet"), ("CometObservatory", 393, "no such comet"), ("CometObservatory", 393, "no such comet"), ("CometObservatory", 374, "no character at this index"), ("CometObservatory", 393, "no such comet"), ("CometObservatory", 393, "no such comet"), ("CometObservatory", 393, "no such comet")]
/-- the bytes of the first seven of them -/
def qwrd : List (List Int32) := [[42], [47], [64], [], [44], [44], [44]]
/-- classes whose objects are no objects of the other -/
def qnc : List (String × String) := [("java/lang/IllegalStateException", "java/lang/IllegalArgumentException"), ("java/lang/IllegalArgumentException", "java/util/NoSuchElementException"), ("java/lang/IllegalStateException", "java/util/NoSuchElementException"), ("java/lang/UnsupportedOperationException", "java/util/NoSuchElementException"), ("java/lang/UnsupportedOperationException", "java/lang/IllegalArgumentException"), ("java/lang/UnsupportedOperationException", "java/lang/IllegalStateException"), ("java/lang/IllegalArgumentException", "java/lang/IndexOutOfBoundsException"), ("java/lang/IllegalStateException", "java/lang/IndexOutOfBoundsException")]
/-- what the words say of a StringBuilder's private methods, derived at the law's entry -/
def q_sels : List Cond := [.selects RJ4 yJ5_putStringAt_47b60 yJ5_putStringAt_47b60, .selects RJ4 yJ5_inflateIfNeededFor_a7421 yJ5_inflateIfNeededFor_a7421, .selects RJ4 yJ5_ensureCapacityInternal_d00df yJ5_ensureCapacityInternal_d00df, .selects RJ4 yJ5_newCapacity_0f7a4 yJ5_newCapacity_0f7a4]
theorem q_sels_good : ∀ w ∈ q_sels, qgood w = true := by decide +kernel
def EnvV (E : qE) (s : State) : Prop := (eL E).stackTraces = false ∧ (∀ w, InT w ∨ w ∈ q_sels → ∀ a, w.before a s = true) ∧ va_K (eK E) vwCl (qtys (eC E)) s ∧ (∀ (i : Nat) (q : String × Nat × String), qstr[i]? = some q → vk_R q.1 q.2.1 q.2.2 (eS E i) s) ∧ ∀ q ∈ qnc, va_Nc q.1 q.2 s
theorem EnvV.warm {E : qE} {s U : State} (h : EnvV E s) (hW : s.WarmedH U.vm) : EnvV E U :=
  ⟨h.1, fun w hw a => good2_at hW (hw.elim (fun h => h.2) (fun h => q_sels_good w h)) (h.2.1 w hw #[]), va_K.moved hW.alike h.2.2.1, fun i q hq => vk_R.warm hW (h.2.2.2.1 i q hq), fun q hq => va_Nc.moved hW.alike (h.2.2.2.2 q hq)⟩
def qTens : Nat → Value := fun j => .int (nI (48 + j / 10))
def qOnes : Nat → Value := fun j => .int (nI (48 + j % 10))
def EnvH (E : qE) (s : State) (H : Heap) : Prop := (∀ q : Nat, H.size ≤ q → qA E q) ∧ vx_Zq Bundle.tN "UNASSIGNED_STACK" Bundle.steD (qA E) s H ∧ vx_Zq Bundle.tN "SUPPRESSED_SENTINEL" Bundle.listD (qA E) s H ∧
  (∀ (i : Nat) (x : List Int32), qwrd[i]? = some x → vk_S 1 [x.length] [x] (fun _ => eS E i) (fun _ => eV E i) (qA E) s H) ∧
  va_Z "java/lang/String" "COMPACT_STRINGS" "Z" (.int 1) (qA E) s H ∧
  va_Z "java/lang/Integer" "DigitTens" "[B" (.ref (eT E 0)) (qA E) s H ∧ va_T .byte (eT E 0) 100 qTens (qA E) s H ∧
  va_Z "java/lang/Integer" "DigitOnes" "[B" (.ref (eT E 1)) (qA E) s H ∧ va_T .byte (eT E 1) 100 qOnes (qA E) s H ∧
  va_Zq "jdk/internal/util/Preconditions" "SIOOBE_FORMATTER" "Ljava/util/function/BiFunction;" (qA E) s H ∧
  (∃ xs : Nat → Int32, va_X (eT E 2) (eT E 3) xs s H) ∧ ¬ qA E (eT E 2) ∧ eT E 3 < 2 ^ 31
theorem EnvH.moved {E : qE} {s U : State} {H : Heap} (hvm : s.vm.Alike U.vm) (h : EnvH E s H) : EnvH E U H := by
  obtain ⟨h1, h2, h3, h4, h5, h6, h7, h8, h9, h10, ⟨xs, h11⟩, h12⟩ := h
  exact ⟨h1, vx_Zq.moved hvm h2, vx_Zq.moved hvm h3, fun i x hx => vk_S.moved hvm (h4 i x hx), va_Z.moved hvm h5, va_Z.moved hvm h6, va_T.moved hvm h7, va_Z.moved hvm h8, va_T.moved hvm h9, va_Zq.moved hvm h10, ⟨xs, va_X.moved hvm h11⟩, h12⟩
theorem EnvH.kept {E : qE} {s : State} {H H1 : Heap} (h : EnvH E s H) (hz : H.size ≤ H1.size) (hq : ∀ a : Nat, a < H.size → ¬ qA E a → H1[a]? = H[a]?) : EnvH E s H1 := by
  obtain ⟨h1, h2, h3, h4, h5, h6, h7, h8, h9, h10, ⟨xs, h11⟩, h12⟩ := h
  exact ⟨fun q hs => h1 q (Nat.le_trans hz hs), vx_Zq.kept h2 hq, vx_Zq.kept h3 hq, fun i x hx => vk_S.kept (h4 i x hx) hq, va_Z.kept h5 hq, va_Z.kept h6 hq, va_T.kept h7 hq, va_Z.kept h8 hq, va_T.kept h9 hq, va_Zq.kept h10 hq, ⟨xs, h11.kept (hq _ (by obtain ⟨scr, e, -⟩ := h11; exact (Array.getElem?_eq_some_iff.mp e).1) h12.1)⟩, h12⟩
abbrev qRm (k mc ms : Nat) : Room := { frames := k, cells := mc, slots := ms, locals := 64 * k }
/-- what a method's own frame is: y, its bytes, locals, type of answer, room, table of handlers -/
def MC (E : qE) (y : MethodName) (cc : ByteArray) (nL : Nat) (ret : Option FieldType) (k mc ms : Nat) (tab : List ExceptionTableEntry) (X : qX) : Prop :=
  (xP X).tables.exec = Jvm.exec ∧ (xC X).code = cc ∧ (xC X).maxLocals = nL ∧ (xS X).vm.findClass y.cls = some (xM X).cls ∧ (xH X).locks = false ∧ (xH X).sig.returnType = ret ∧ xR X = qRm k mc ms ∧ (xH X).name = y.name ∧ EnvV E (xS X) ∧ EnvH E (xS X) (xS X).heap ∧ (xC X).exceptionTable.toList = tab
section MCA
variable {E : qE} {y : MethodName} {cc : ByteArray} {nL : Nat} {ret : Option FieldType} {k mc ms : Nat} {tab : List ExceptionTableEntry} {X : qX}
theorem MC.x (h : MC E y cc nL ret k mc ms tab X) : (xP X).tables.exec = Jvm.exec := h.1
theorem MC.b (h : MC E y cc nL ret k mc ms tab X) : (xC X).code = cc := h.2.1
theorem MC.ml (h : MC E y cc nL ret k mc ms tab X) : (xC X).maxLocals = nL := h.2.2.1
theorem MC.own (h : MC E y cc nL ret k mc ms tab X) : (xS X).vm.findClass y.cls = some (xM X).cls := h.2.2.2.1
theorem MC.lk (h : MC E y cc nL ret k mc ms tab X) : (xH X).locks = false := h.2.2.2.2.1
theorem MC.rt (h : MC E y cc nL ret k mc ms tab X) : (xH X).sig.returnType = ret := h.2.2.2.2.2.1
theorem MC.rm (h : MC E y cc nL ret k mc ms tab X) : xR X = qRm k mc ms := h.2.2.2.2.2.2.1
theorem MC.nm (h : MC E y cc nL ret k mc ms tab X) : (xH X).name = y.name := h.2.2.2.2.2.2.2.1
theorem MC.ev (h : MC E y cc nL ret k mc ms tab X) : EnvV E (xS X) := h.2.2.2.2.2.2.2.2.1
theorem MC.eh (h : MC E y cc nL ret k mc ms tab X) : EnvH E (xS X) (xS X).heap := h.2.2.2.2.2.2.2.2.2.1
theorem MC.tb (h : MC E y cc nL ret k mc ms tab X) : (xC X).exceptionTable.toList = tab := h.2.2.2.2.2.2.2.2.2.2
theorem MC.w (h : MC E y cc nL ret k mc ms tab X) {w : Cond} (hw : InT w) (a : Array Value) : w.before a (xS X) = true := h.ev.2.1 w (Or.inl hw) a
theorem MC.w2 (h : MC E y cc nL ret k mc ms tab X) {w : Cond} (hw : w ∈ q_sels) (a : Array Value) : w.before a (xS X) = true := h.ev.2.1 w (Or.inr hw) a
theorem MC.K (h : MC E y cc nL ret k mc ms tab X) : va_K (eK E) vwCl (qtys (eC E)) (xS X) := h.ev.2.2.1
end MCA
/-! the locals as a list by place -/
def ql : List (Option Value) → Nat → List (Nat × Value)
  | [], _ => []
  | none :: l, i => ql l (i + 1)
  | some v :: l, i => (i, v) :: ql l (i + 1)
theorem ql_mem {q : Nat × Value} : ∀ (l : List (Option Value)) (i : Nat), q ∈ ql l i ↔ ∃ j, q.1 = i + j ∧ l[j]? = some (some q.2)
  | [], i => by simp [ql]
  | none :: l, i => by
    rw [show ql (none :: l) i = ql l (i + 1) from rfl, ql_mem l (i + 1)]
    constructor
    · rintro ⟨j, h1, h2⟩
      exact ⟨j + 1, by omega, by simpa using h2⟩
    · rintro ⟨j, h1, h2⟩
      rcases j with _ | j
      · simp at h2
      · exact ⟨j, by omega, by simpa using h2⟩
  | some v :: l, i => by
    rw [show ql (some v :: l) i = (i, v) :: ql l (i + 1) from rfl, List.mem_cons, ql_mem l (i + 1)]
    constructor
    · rintro (rfl | ⟨j, h1, h2⟩)
      · exact ⟨0, rfl, rfl⟩
      · exact ⟨j + 1, by omega, by simpa using h2⟩
    · rintro ⟨j, h1, h2⟩
      rcases j with _ | j
      · left
        obtain ⟨a, b⟩ := q
        simp at h1 h2
        rw [h1, h2]
      · exact Or.inr ⟨j, by omega, by simpa using h2⟩
theorem ql_at {ls : Array Slot} {n i : Nat} {l : List (Option Value)} {v : Value} (h : lv_has ls n (ql l 0)) (hl : l[i]? = some (some v)) : ls[i]? = some (.val v) :=
  h.2.2 (i, v) ((ql_mem l 0).mpr ⟨i, by omega, hl⟩)
def okB (l : List (Option Value)) : Nat → Bool
  | 0 => true
  | j + 1 => match l[j]? with
    | some (some w) => w.category == 1
    | _ => true
theorem ql_set1 {ls : Array Slot} {n i : Nat} {l : List (Option Value)} {v : Value} (hi : i < l.length) (hb : okB l i = true) (h : lv_has ls n ((i, v) :: (ql l 0).filter (fun q => !(q.1 == i) && !(q.1 + 1 == i && q.2.category == 2)))) : lv_has ls n (ql (l.set i (some v)) 0) := by
  refine ⟨h.1, h.2.1, fun q hq => ?_⟩
  obtain ⟨j, h1, h2⟩ := (ql_mem _ 0).mp hq
  by_cases hj : j = i
  · subst hj
    rw [List.getElem?_set_self hi] at h2
    have h3 := h.2.2 (j, v) List.mem_cons_self
    have h4 : q.2 = v := by cases h2; rfl
    rw [h1, h4, Nat.zero_add]
    exact h3
  · rw [List.getElem?_set_ne (fun e => hj e.symm)] at h2
    refine h.2.2 q (List.mem_cons_of_mem _ (List.mem_filter.mpr ⟨(ql_mem l 0).mpr ⟨j, h1, h2⟩, ?_⟩))
    rw [h1, Nat.zero_add]
    have e1 : (j == i) = false := by simpa using hj
    rw [e1]
    by_cases e2 : j + 1 = i
    · subst e2
      simp only [okB, h2] at hb
      have : q.2.category = 1 := by simpa using hb
      simp [this]
    · simp [e2]
theorem ql_set2 {ls : Array Slot} {n i : Nat} {l : List (Option Value)} {v : Value} (hi : i + 1 < l.length) (hb : okB l i = true) (h : lv_has ls n ((i, v) :: (ql l 0).filter (fun q => !(q.1 == i) && (!(q.1 == i + 1) && !(q.1 + 1 == i && q.2.category == 2))))) : lv_has ls n (ql ((l.set i (some v)).set (i + 1) none) 0) := by
  refine ⟨h.1, h.2.1, fun q hq => ?_⟩
  obtain ⟨j, h1, h2⟩ := (ql_mem _ 0).mp hq
  by_cases hk : j = i + 1
  · subst hk
    rw [List.getElem?_set_self (by rw [List.length_set]; exact hi)] at h2
    cases h2
  · rw [List.getElem?_set_ne (fun e => hk e.symm)] at h2
    by_cases hj : j = i
    · subst hj
      rw [List.getElem?_set_self (by omega)] at h2
      have h3 := h.2.2 (j, v) List.mem_cons_self
      have h4 : q.2 = v := by cases h2; rfl
      rw [h1, h4, Nat.zero_add]
      exact h3
    · rw [List.getElem?_set_ne (fun e => hj e.symm)] at h2
      refine h.2.2 q (List.mem_cons_of_mem _ (List.mem_filter.mpr ⟨(ql_mem l 0).mpr ⟨j, h1, h2⟩, ?_⟩))
      rw [h1, Nat.zero_add]
      have e1 : (j == i) = false := by simpa using hj
      have e3 : (j == i + 1) = false := by simpa using hk
      rw [e1, e3]
      by_cases e2 : j + 1 = i
      · subst e2
        simp only [okB, h2] at hb
        have : q.2.category = 1 := by simpa using hb
        simp [this]
      · simp [e2]
/-! ===== the judgement ===== -/
def WS (E : qE) (X : qX) (cN sN : Nat) (Q : State → Prop) (g : qG) (m : qM) (pc : Nat) (l : List (Option Value)) (st : List Value) : Prop :=
  ∀ (H : Heap) (locs : List Loc) (ls : Array Slot), Pict E g m H → va_S (qA E) (xS X).heap H locs → lv_has ls l.length (ql l 0) →
    W (xP X) (eL E) (xE X) (xR X) (xS X) (xM X) (xA X) (xB X) (xH X) (xC X) H locs cN sN Q (F0 (xM X) pc ls st)
/-- a method's end -/
def QC (E : qE) (post : Option Value → qG → qM → Prop) : Array Value → State → Outcome → State → Prop := fun _ st o t =>
  (∃ (v : Option Value) (g : qG) (m : qM), o = .returned v ∧ post v g m ∧ Pict E g m t.heap) ∧ va_F (qA E) st t
def XQ (E : qE) (postX : String → qG → qM → Prop) : String → State → State → Prop := fun nm st t =>
  (∃ (g : qG) (m : qM), postX nm g m ∧ Pict E g m t.heap) ∧ va_F (qA E) st t
def qPc (E : qE) (av : List Value) (g : qG) (m : qM) : Array Value → State → Prop := va_Pc av (fun U => EnvV E U ∧ EnvH E U U.heap ∧ Pict E g m U.heap)
theorem qPc_blind (E : qE) (av : List Value) (g : qG) (m : qM) : FrameBlind (qPc E av g m) := fun a U g' mk h =>
  ⟨h.1, h.2.1.warm (U := U.calling g' mk a) (State.WarmedH.refl U), EnvH.moved (s := U) (U := U.calling g' mk a) (Vm.Alike.refl U.vm) h.2.2.1, h.2.2.2⟩
/-- the contract of a method that returns -/
def Sp (E : qE) (y : MethodName) (cc : ByteArray) (nL : Nat) (ret : Option FieldType) (k mc ms : Nat) (av : List Value) (g : qG) (m : qM) (post : Option Value → qG → qM → Prop) : Prop :=
  Met (eL E) y [.code y cc nL ret] (qRm k mc ms) (qPc E av g m) (QC E post) mc ms (qA E)
/-- the contract of a method that returns or throws -/
def SpX (E : qE) (y : MethodName) (cc : ByteArray) (nL : Nat) (ret : Option FieldType) (k mc ms : Nat) (av : List Value) (g : qG) (m : qM) (post : Option Value → qG → qM → Prop) (postX : String → qG → qM → Prop) : Prop :=
  vx_Met (eL E) y [.code y cc nL ret] (qRm k mc ms) (qPc E av g m) (QC E post) (XQ E postX) mc ms (qA E)
abbrev RQ (E : qE) (X : qX) (post : Option Value → qG → qM → Prop) (mc ms : Nat) : State → Prop := MQ (xB X) (QC E post) (xA X) (xS X) mc ms (qA E)
abbrev RQX (E : qE) (X : qX) (post : Option Value → qG → qM → Prop) (postX : String → qG → qM → Prop) (mc ms : Nat) : State → Prop := vx_MQ (xB X) (QC E post) (XQ E postX) (xA X) (xS X) mc ms (qA E)
theorem Sp.of {E : qE} {y : MethodName} {cc : ByteArray} {nL : Nat} {ret : Option FieldType} {k mc ms : Nat} {av : List Value} {g : qG} {m : qM} {post : Option Value → qG → qM → Prop}
    (hy : plainName y.cls = true) (l0 : List (Option Value)) (hl0 : ql l0 0 = lv_args 0 av) (hn : l0.length = nL) (hz : (lg_sl av).length ≤ nL)
    (body : ∀ X : qX, MC E y cc nL ret k mc ms [] X → WS E X 0 0 (RQ E X post mc ms) g m 0 l0 []) : Sp E y cc nL ret k mc ms av g m post := by
  refine Met.ofW (cc := cc) (maxL := nL) (ret := ret) hy rfl ?_
  intro p e s mi args below meth c s₁ B hml hv
  obtain ⟨rfl, hev, heh, hP⟩ := hv
  have ht : c.exceptionTable.toList = [] := by
    obtain ⟨meth9, c9, h1, h2, -, -, -, -, h7, -⟩ := Cond.code_spec B.named (atoms_spec (ws := [.code y cc nL ret]) B.pre _ List.mem_cons_self)
    cases Option.some.inj (h1.symm.trans B.method)
    cases Option.some.inj (h2.symm.trans (Stand.of_body B).code)
    rw [Array.isEmpty_iff.mp h7]
  have hl := lv_entry av (n := nL) hz
  rw [lg_entry_eq]
  generalize (lg_sl av ++ List.replicate (nL - (lg_sl av).length) Slot.unset).toArray = ls at hl ⊢
  rw [← hl0] at hl
  have hX : MC E y cc nL ret k mc ms [] (p, e, qRm k mc ms, s, mi, av.toArray, below, meth, c) :=
    ⟨B.exec, B.bytes, hml, findClass_of_methodNamed B.named, B.notSynchronized, B.returns, rfl, (name_of_methodNamed B.named B.method).1, hev, heh, ht⟩
  exact body _ hX s.heap [] ls hP va_S.rf (by rw [hn]; exact hl)
theorem SpX.of {E : qE} {y : MethodName} {cc : ByteArray} {nL : Nat} {ret : Option FieldType} {k mc ms : Nat} {av : List Value} {g : qG} {m : qM} {post : Option Value → qG → qM → Prop} {postX : String → qG → qM → Prop}
    (hy : plainName y.cls = true) (l0 : List (Option Value)) (hl0 : ql l0 0 = lv_args 0 av) (hn : l0.length = nL) (hz : (lg_sl av).length ≤ nL)
    (body : ∀ X : qX, MC E y cc nL ret k mc ms [] X → WS E X 0 0 (RQX E X post postX mc ms) g m 0 l0 []) : SpX E y cc nL ret k mc ms av g m post postX := by
  refine vx_ofW (cc := cc) (maxL := nL) (ret := ret) hy rfl ?_
  intro p e s mi args below meth c s₁ B hml ht hv
  obtain ⟨rfl, hev, heh, hP⟩ := hv
  have ht : c.exceptionTable.toList = [] := List.eq_nil_iff_forall_not_mem.mpr ht
  have hl := lv_entry av (n := nL) hz
  rw [lg_entry_eq]
  generalize (lg_sl av ++ List.replicate (nL - (lg_sl av).length) Slot.unset).toArray = ls at hl ⊢
  rw [← hl0] at hl
  have hX : MC E y cc nL ret k mc ms [] (p, e, qRm k mc ms, s, mi, av.toArray, below, meth, c) :=
    ⟨B.exec, B.bytes, hml, findClass_of_methodNamed B.named, B.notSynchronized, B.returns, rfl, (name_of_methodNamed B.named B.method).1, hev, heh, ht⟩
  exact body _ hX s.heap [] ls hP va_S.rf (by rw [hn]; exact hl)
