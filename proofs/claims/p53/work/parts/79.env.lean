/-! ===== the law: what is known at its entry ===== -/
/-- a part of a conjunction, by its place -/
def pth : List Bool → Cond → Cond
  | [], c => c
  | true :: p, .and _ b => pth p b
  | false :: p, .and a _ => pth p a
  | _ :: _, c => c
theorem pth_before {args : Array Value} {s : State} : ∀ (p : List Bool) {T : Cond}, T.before args s = true → (pth p T).before args s = true
  | [], _, h => h
  | d :: p, T, h => by
    cases T with
    | and a b =>
      rw [Cond.before_and, Bool.and_eq_true] at h
      cases d with
      | true => exact pth_before p h.2
      | false => exact pth_before p h.1
    | _ => cases d <;> exact h
theorem q_selp {C : String} {y : MethodName} {s : State} {args : Array Value} {n : Nat} (hy : y.cls ≠ "java/lang/invoke/MethodHandle" ∧ y.cls ≠ "java/lang/invoke/VarHandle") (hins : (Cond.instantiable C n).before args s = true) (hpriv : (Cond.privateMethod y).before args s = true) (hinst : (Cond.instanceMethod y).before args s = true) (hsm : (Cond.sameMethod y.cls y.cls y.name y.desc).before args s = true) : (Cond.selects C y y).before args s = true := by
  obtain ⟨c, k, hc, -⟩ := Cond.instantiable_spec hins
  obtain ⟨mk, methM, hnamed, hmethM, -, -⟩ := Cond.instanceMethod_spec hinst
  have hfound : s.methodFound? y.cls y.name y.desc = some mk := State.methodFound?_of_named hnamed hy
  obtain ⟨c2, k2, hc2, hk2, hni⟩ := Cond.sameMethod_class hsm
  have hcls : mk.cls = c2 := Option.some.inj ((findClass_of_methodNamed hnamed).symm.trans hc2)
  have hsel : selectMethod {} s.vm c mk = .method mk := selectMethod_private hmethM (Cond.privateMethod_at hpriv mk methM hnamed hmethM)
  simp only [Cond.before, Cond.holds, Cond.value, hc, hfound, hnamed, hsel, hcls, hk2]
  simp; exact hni
theorem arr_p {ty : FieldType} {args : Array Value} {s : State} (h : (Cond.arrayClass ty).before args s = true) (hn : ∀ C, ty ≠ .object C) : ∃ c, ArrOfT s c ty ∧ va_RA s c ty := by
  obtain ⟨c, k, comp, hc, hk, hkind⟩ := Cond.arrayClass_spec h
  refine ⟨c, fun n z => ⟨(fun k9 h9 => by cases h9), k, hk, comp, hkind⟩, ?_⟩
  cases ty with
  | object C => exact absurd rfl (hn C)
  | _ => exact hc
theorem arr_o {C : String} {args : Array Value} {s : State} (h : (Cond.arrayOver (.object C)).before args s = true) : ∃ c, ArrOfT s c (.object C) ∧ va_RA s c (.object C) := by
  obtain ⟨comp, c, k, hcomp, -, hk, hkind, hc⟩ := Cond.arrayOver_spec h
  exact ⟨c, fun n z => ⟨(fun k9 h9 => by cases h9), k, hk, comp, hkind⟩, k, comp, hk, hkind, hcomp, hc⟩
theorem arr_a {ty : FieldType} {args : Array Value} {s : State} (h : (Cond.arrayOver (.array ty)).before args s = true) : ∃ c, ArrOfT s c (.array ty) ∧ va_RA s c (.array ty) := by
  obtain ⟨comp, c, k, hcomp, -, hk, hkind, hc⟩ := arrayOverA_spec h
  exact ⟨c, fun n z => ⟨(fun k9 h9 => by cases h9), k, hk, comp, hkind⟩, hc⟩
/-! what the Statement gives of the start -/
def tmD (n : String) : Term := .static "java/lang/Integer" n "[B"
theorem tb_in {w : Cond} (h : w ∈ tables_1) : w ∈ lw_tbl := List.mem_append_right _ h
abbrev GvAt (s : State) (b : Nat) : Prop := (Jvm.Cond.and given_1 narrow_1).before #[Value.ref b] s = true
section
variable {s : State} {b : Nat}
theorem dg_eTens (hgv : GvAt s b) {j : Nat} (hj : j < 100) : (Cond.eq (.elem (tmD "DigitTens") (.int (Int32.ofNat j))) (.int (nI (48 + j / 10)))).before #[Value.ref b] s = true := by
  obtain ⟨d, r, hd, hr, e⟩ : ∃ d r, d < 10 ∧ r < 10 ∧ j = 10 * d + r := ⟨j / 10, j % 10, by omega, by omega, by omega⟩
  subst e
  match d, hd with
  | 0, _ =>
    match r, hr with
    | 0, _ => exact (pth_before [true, false, false, true, false, false, false, false, false, true, false] hgv)
    | 1, _ => exact (pth_before [true, false, false, true, false, false, false, false, false, true, true] hgv)
    | 2, _ => exact (pth_before [true, false, false, true, false, false, false, false, true, false, false] hgv)
    | 3, _ => exact (pth_before [true, false, false, true, false, false, false, false, true, false, true] hgv)
    | 4, _ => exact (pth_before [true, false, false, true, false, false, false, false, true, true, false] hgv)
    | 5, _ => exact (pth_before [true, false, false, true, false, false, false, false, true, true, true] hgv)
    | 6, _ => exact (pth_before [true, false, false, true, false, false, false, true, false, false] hgv)
    | 7, _ => exact (pth_before [true, false, false, true, false, false, false, true, false, true, false] hgv)
    | 8, _ => exact (pth_before [true, false, false, true, false, false, false, true, false, true, true] hgv)
    | 9, _ => exact (pth_before [true, false, false, true, false, false, false, true, true, false, false] hgv)
    | r + 10, hr => exact absurd hr (by omega)
  | 1, _ =>
    match r, hr with
    | 0, _ => exact (pth_before [true, false, false, true, false, false, false, true, true, false, true] hgv)
    | 1, _ => exact (pth_before [true, false, false, true, false, false, false, true, true, true, false] hgv)
    | 2, _ => exact (pth_before [true, false, false, true, false, false, false, true, true, true, true] hgv)
    | 3, _ => exact (pth_before [true, false, false, true, false, false, true, false, false, false] hgv)
    | 4, _ => exact (pth_before [true, false, false, true, false, false, true, false, false, true, false] hgv)
    | 5, _ => exact (pth_before [true, false, false, true, false, false, true, false, false, true, true] hgv)
    | 6, _ => exact (pth_before [true, false, false, true, false, false, true, false, true, false, false] hgv)
    | 7, _ => exact (pth_before [true, false, false, true, false, false, true, false, true, false, true] hgv)
    | 8, _ => exact (pth_before [true, false, false, true, false, false, true, false, true, true, false] hgv)
    | 9, _ => exact (pth_before [true, false, false, true, false, false, true, false, true, true, true] hgv)
    | r + 10, hr => exact absurd hr (by omega)
  | 2, _ =>
    match r, hr with
    | 0, _ => exact (pth_before [true, false, false, true, false, false, true, true, false, false] hgv)
    | 1, _ => exact (pth_before [true, false, false, true, false, false, true, true, false, true, false] hgv)
    | 2, _ => exact (pth_before [true, false, false, true, false, false, true, true, false, true, true] hgv)
    | 3, _ => exact (pth_before [true, false, false, true, false, false, true, true, true, false, false] hgv)
    | 4, _ => exact (pth_before [true, false, false, true, false, false, true, true, true, false, true] hgv)
    | 5, _ => exact (pth_before [true, false, false, true, false, false, true, true, true, true, false] hgv)
    | 6, _ => exact (pth_before [true, false, false, true, false, false, true, true, true, true, true] hgv)
    | 7, _ => exact (pth_before [true, false, false, true, false, true, false, false, false, false] hgv)
    | 8, _ => exact (pth_before [true, false, false, true, false, true, false, false, false, true, false] hgv)
    | 9, _ => exact (pth_before [true, false, false, true, false, true, false, false, false, true, true] hgv)
    | r + 10, hr => exact absurd hr (by omega)
  | 3, _ =>
    match r, hr with
    | 0, _ => exact (pth_before [true, false, false, true, false, true, false, false, true, false, false] hgv)
    | 1, _ => exact (pth_before [true, false, false, true, false, true, false, false, true, false, true] hgv)
    | 2, _ => exact (pth_before [true, false, false, true, false, true, false, false, true, true, false] hgv)
    | 3, _ => exact (pth_before [true, false, false, true, false, true, false, false, true, true, true] hgv)
    | 4, _ => exact (pth_before [true, false, false, true, false, true, false, true, false, false] hgv)
    | 5, _ => exact (pth_before [true, false, false, true, false, true, false, true, false, true, false] hgv)
    | 6, _ => exact (pth_before [true, false, false, true, false, true, false, true, false, true, true] hgv)
    | 7, _ => exact (pth_before [true, false, false, true, false, true, false, true, true, false, false] hgv)
    | 8, _ => exact (pth_before [true, false, false, true, false, true, false, true, true, false, true] hgv)
    | 9, _ => exact (pth_before [true, false, false, true, false, true, false, true, true, true, false] hgv)
    | r + 10, hr => exact absurd hr (by omega)
  | 4, _ =>
    match r, hr with
    | 0, _ => exact (pth_before [true, false, false, true, false, true, false, true, true, true, true] hgv)
    | 1, _ => exact (pth_before [true, false, false, true, false, true, true, false, false, false] hgv)
    | 2, _ => exact (pth_before [true, false, false, true, false, true, true, false, false, true, false] hgv)
    | 3, _ => exact (pth_before [true, false, false, true, false, true, true, false, false, true, true] hgv)
    | 4, _ => exact (pth_before [true, false, false, true, false, true, true, false, true, false, false] hgv)
    | 5, _ => exact (pth_before [true, false, false, true, false, true, true, false, true, false, true] hgv)
    | 6, _ => exact (pth_before [true, false, false, true, false, true, true, false, true, true, false] hgv)
    | 7, _ => exact (pth_before [true, false, false, true, false, true, true, false, true, true, true] hgv)
    | 8, _ => exact (pth_before [true, false, false, true, false, true, true, true, false, false, false] hgv)
    | 9, _ => exact (pth_before [true, false, false, true, false, true, true, true, false, false, true] hgv)
    | r + 10, hr => exact absurd hr (by omega)
  | 5, _ =>
    match r, hr with
    | 0, _ => exact (pth_before [true, false, false, true, false, true, true, true, false, true, false] hgv)
    | 1, _ => exact (pth_before [true, false, false, true, false, true, true, true, false, true, true] hgv)
    | 2, _ => exact (pth_before [true, false, false, true, false, true, true, true, true, false, false] hgv)
    | 3, _ => exact (pth_before [true, false, false, true, false, true, true, true, true, false, true] hgv)
    | 4, _ => exact (pth_before [true, false, false, true, false, true, true, true, true, true, false] hgv)
    | 5, _ => exact (pth_before [true, false, false, true, false, true, true, true, true, true, true] hgv)
    | 6, _ => exact (pth_before [true, false, false, true, true, false, false, false, false, false] hgv)
    | 7, _ => exact (pth_before [true, false, false, true, true, false, false, false, false, true, false] hgv)
    | 8, _ => exact (pth_before [true, false, false, true, true, false, false, false, false, true, true] hgv)
    | 9, _ => exact (pth_before [true, false, false, true, true, false, false, false, true, false, false] hgv)
    | r + 10, hr => exact absurd hr (by omega)
  | 6, _ =>
    match r, hr with
    | 0, _ => exact (pth_before [true, false, false, true, true, false, false, false, true, false, true] hgv)
    | 1, _ => exact (pth_before [true, false, false, true, true, false, false, false, true, true, false] hgv)
    | 2, _ => exact (pth_before [true, false, false, true, true, false, false, false, true, true, true] hgv)
    | 3, _ => exact (pth_before [true, false, false, true, true, false, false, true, false, false] hgv)
    | 4, _ => exact (pth_before [true, false, false, true, true, false, false, true, false, true, false] hgv)
    | 5, _ => exact (pth_before [true, false, false, true, true, false, false, true, false, true, true] hgv)
    | 6, _ => exact (pth_before [true, false, false, true, true, false, false, true, true, false, false] hgv)
    | 7, _ => exact (pth_before [true, false, false, true, true, false, false, true, true, false, true] hgv)
    | 8, _ => exact (pth_before [true, false, false, true, true, false, false, true, true, true, false] hgv)
    | 9, _ => exact (pth_before [true, false, false, true, true, false, false, true, true, true, true] hgv)
    | r + 10, hr => exact absurd hr (by omega)
  | 7, _ =>
    match r, hr with
    | 0, _ => exact (pth_before [true, false, false, true, true, false, true, false, false, false] hgv)
    | 1, _ => exact (pth_before [true, false, false, true, true, false, true, false, false, true, false] hgv)
    | 2, _ => exact (pth_before [true, false, false, true, true, false, true, false, false, true, true] hgv)
    | 3, _ => exact (pth_before [true, false, false, true, true, false, true, false, true, false, false] hgv)
    | 4, _ => exact (pth_before [true, false, false, true, true, false, true, false, true, false, true] hgv)
    | 5, _ => exact (pth_before [true, false, false, true, true, false, true, false, true, true, false] hgv)
    | 6, _ => exact (pth_before [true, false, false, true, true, false, true, false, true, true, true] hgv)
    | 7, _ => exact (pth_before [true, false, false, true, true, false, true, true, false, false] hgv)
    | 8, _ => exact (pth_before [true, false, false, true, true, false, true, true, false, true, false] hgv)
    | 9, _ => exact (pth_before [true, false, false, true, true, false, true, true, false, true, true] hgv)
    | r + 10, hr => exact absurd hr (by omega)
  | 8, _ =>
    match r, hr with
    | 0, _ => exact (pth_before [true, false, false, true, true, false, true, true, true, false, false] hgv)
    | 1, _ => exact (pth_before [true, false, false, true, true, false, true, true, true, false, true] hgv)
    | 2, _ => exact (pth_before [true, false, false, true, true, false, true, true, true, true, false] hgv)
    | 3, _ => exact (pth_before [true, false, false, true, true, false, true, true, true, true, true] hgv)
    | 4, _ => exact (pth_before [true, false, false, true, true, true, false, false, false, false] hgv)
    | 5, _ => exact (pth_before [true, false, false, true, true, true, false, false, false, true, false] hgv)
    | 6, _ => exact (pth_before [true, false, false, true, true, true, false, false, false, true, true] hgv)
    | 7, _ => exact (pth_before [true, false, false, true, true, true, false, false, true, false, false] hgv)
    | 8, _ => exact (pth_before [true, false, false, true, true, true, false, false, true, false, true] hgv)
    | 9, _ => exact (pth_before [true, false, false, true, true, true, false, false, true, true, false] hgv)
    | r + 10, hr => exact absurd hr (by omega)
  | 9, _ =>
    match r, hr with
    | 0, _ => exact (pth_before [true, false, false, true, true, true, false, false, true, true, true] hgv)
    | 1, _ => exact (pth_before [true, false, false, true, true, true, false, true, false, false] hgv)
    | 2, _ => exact (pth_before [true, false, false, true, true, true, false, true, false, true, false] hgv)
    | 3, _ => exact (pth_before [true, false, false, true, true, true, false, true, false, true, true] hgv)
    | 4, _ => exact (pth_before [true, false, false, true, true, true, false, true, true, false, false] hgv)
    | 5, _ => exact (pth_before [true, false, false, true, true, true, false, true, true, false, true] hgv)
    | 6, _ => exact (pth_before [true, false, false, true, true, true, false, true, true, true, false] hgv)
    | 7, _ => exact (pth_before [true, false, false, true, true, true, false, true, true, true, true] hgv)
    | 8, _ => exact (pth_before [true, false, false, true, true, true, true, false, false, false] hgv)
    | 9, _ => exact (pth_before [true, false, false, true, true, true, true, false, false, true, false] hgv)
    | r + 10, hr => exact absurd hr (by omega)
  | d + 10, hd => exact absurd hd (by omega)
theorem dg_Tens (hgv : GvAt s b) {A : Nat → Prop} (hA : ∀ a : Nat, a < s.heap.size → ¬ A a) : ∃ t : Nat, (tmD "DigitTens").eval #[Value.ref b] s none [] s = some (.ref t) ∧ va_T .byte t 100 (fun j => .int (nI (48 + j / 10))) A s s.heap := va_Tof (by decide) (pth_before [true, false, false, false, true, true, true, true, true, true, true] hgv) (va_eqt (pth_before [true, false, false, true, false, false, false, false, false, false] hgv)) (fun j hj => va_eqt (dg_eTens hgv hj)) hA
theorem dg_eOnes (hgv : GvAt s b) {j : Nat} (hj : j < 100) : (Cond.eq (.elem (tmD "DigitOnes") (.int (Int32.ofNat j))) (.int (nI (48 + j % 10)))).before #[Value.ref b] s = true := by
  obtain ⟨d, r, hd, hr, e⟩ : ∃ d r, d < 10 ∧ r < 10 ∧ j = 10 * d + r := ⟨j / 10, j % 10, by omega, by omega, by omega⟩
  subst e
  match d, hd with
  | 0, _ =>
    match r, hr with
    | 0, _ => exact (pth_before [true, false, false, false, false, false, false, true, true, true, false] hgv)
    | 1, _ => exact (pth_before [true, false, false, false, false, false, false, true, true, true, true] hgv)
    | 2, _ => exact (pth_before [true, false, false, false, false, false, true, false, false, false] hgv)
    | 3, _ => exact (pth_before [true, false, false, false, false, false, true, false, false, true, false] hgv)
    | 4, _ => exact (pth_before [true, false, false, false, false, false, true, false, false, true, true] hgv)
    | 5, _ => exact (pth_before [true, false, false, false, false, false, true, false, true, false, false] hgv)
    | 6, _ => exact (pth_before [true, false, false, false, false, false, true, false, true, false, true] hgv)
    | 7, _ => exact (pth_before [true, false, false, false, false, false, true, false, true, true, false] hgv)
    | 8, _ => exact (pth_before [true, false, false, false, false, false, true, false, true, true, true] hgv)
    | 9, _ => exact (pth_before [true, false, false, false, false, false, true, true, false, false] hgv)
    | r + 10, hr => exact absurd hr (by omega)
  | 1, _ =>
    match r, hr with
    | 0, _ => exact (pth_before [true, false, false, false, false, false, true, true, false, true, false] hgv)
    | 1, _ => exact (pth_before [true, false, false, false, false, false, true, true, false, true, true] hgv)
    | 2, _ => exact (pth_before [true, false, false, false, false, false, true, true, true, false, false] hgv)
    | 3, _ => exact (pth_before [true, false, false, false, false, false, true, true, true, false, true] hgv)
    | 4, _ => exact (pth_before [true, false, false, false, false, false, true, true, true, true, false] hgv)
    | 5, _ => exact (pth_before [true, false, false, false, false, false, true, true, true, true, true] hgv)
    | 6, _ => exact (pth_before [true, false, false, false, false, true, false, false, false, false] hgv)
    | 7, _ => exact (pth_before [true, false, false, false, false, true, false, false, false, true, false] hgv)
    | 8, _ => exact (pth_before [true, false, false, false, false, true, false, false, false, true, true] hgv)
    | 9, _ => exact (pth_before [true, false, false, false, false, true, false, false, true, false, false] hgv)
    | r + 10, hr => exact absurd hr (by omega)
  | 2, _ =>
    match r, hr with
    | 0, _ => exact (pth_before [true, false, false, false, false, true, false, false, true, false, true] hgv)
    | 1, _ => exact (pth_before [true, false, false, false, false, true, false, false, true, true, false] hgv)
    | 2, _ => exact (pth_before [true, false, false, false, false, true, false, false, true, true, true] hgv)
    | 3, _ => exact (pth_before [true, false, false, false, false, true, false, true, false, false] hgv)
    | 4, _ => exact (pth_before [true, false, false, false, false, true, false, true, false, true, false] hgv)
    | 5, _ => exact (pth_before [true, false, false, false, false, true, false, true, false, true, true] hgv)
    | 6, _ => exact (pth_before [true, false, false, false, false, true, false, true, true, false, false] hgv)
    | 7, _ => exact (pth_before [true, false, false, false, false, true, false, true, true, false, true] hgv)
    | 8, _ => exact (pth_before [true, false, false, false, false, true, false, true, true, true, false] hgv)
    | 9, _ => exact (pth_before [true, false, false, false, false, true, false, true, true, true, true] hgv)
    | r + 10, hr => exact absurd hr (by omega)
  | 3, _ =>
    match r, hr with
    | 0, _ => exact (pth_before [true, false, false, false, false, true, true, false, false, false] hgv)
    | 1, _ => exact (pth_before [true, false, false, false, false, true, true, false, false, true, false] hgv)
    | 2, _ => exact (pth_before [true, false, false, false, false, true, true, false, false, true, true] hgv)
    | 3, _ => exact (pth_before [true, false, false, false, false, true, true, false, true, false, false] hgv)
    | 4, _ => exact (pth_before [true, false, false, false, false, true, true, false, true, false, true] hgv)
    | 5, _ => exact (pth_before [true, false, false, false, false, true, true, false, true, true, false] hgv)
    | 6, _ => exact (pth_before [true, false, false, false, false, true, true, false, true, true, true] hgv)
    | 7, _ => exact (pth_before [true, false, false, false, false, true, true, true, false, false, false] hgv)
    | 8, _ => exact (pth_before [true, false, false, false, false, true, true, true, false, false, true] hgv)
    | 9, _ => exact (pth_before [true, false, false, false, false, true, true, true, false, true, false] hgv)
    | r + 10, hr => exact absurd hr (by omega)
  | 4, _ =>
    match r, hr with
    | 0, _ => exact (pth_before [true, false, false, false, false, true, true, true, false, true, true] hgv)
    | 1, _ => exact (pth_before [true, false, false, false, false, true, true, true, true, false, false] hgv)
    | 2, _ => exact (pth_before [true, false, false, false, false, true, true, true, true, false, true] hgv)
    | 3, _ => exact (pth_before [true, false, false, false, false, true, true, true, true, true, false] hgv)
    | 4, _ => exact (pth_before [true, false, false, false, false, true, true, true, true, true, true] hgv)
    | 5, _ => exact (pth_before [true, false, false, false, true, false, false, false, false, false] hgv)
    | 6, _ => exact (pth_before [true, false, false, false, true, false, false, false, false, true, false] hgv)
    | 7, _ => exact (pth_before [true, false, false, false, true, false, false, false, false, true, true] hgv)
    | 8, _ => exact (pth_before [true, false, false, false, true, false, false, false, true, false, false] hgv)
    | 9, _ => exact (pth_before [true, false, false, false, true, false, false, false, true, false, true] hgv)
    | r + 10, hr => exact absurd hr (by omega)
  | 5, _ =>
    match r, hr with
    | 0, _ => exact (pth_before [true, false, false, false, true, false, false, false, true, true, false] hgv)
    | 1, _ => exact (pth_before [true, false, false, false, true, false, false, false, true, true, true] hgv)
    | 2, _ => exact (pth_before [true, false, false, false, true, false, false, true, false, false] hgv)
    | 3, _ => exact (pth_before [true, false, false, false, true, false, false, true, false, true, false] hgv)
    | 4, _ => exact (pth_before [true, false, false, false, true, false, false, true, false, true, true] hgv)
    | 5, _ => exact (pth_before [true, false, false, false, true, false, false, true, true, false, false] hgv)
    | 6, _ => exact (pth_before [true, false, false, false, true, false, false, true, true, false, true] hgv)
    | 7, _ => exact (pth_before [true, false, false, false, true, false, false, true, true, true, false] hgv)
    | 8, _ => exact (pth_before [true, false, false, false, true, false, false, true, true, true, true] hgv)
    | 9, _ => exact (pth_before [true, false, false, false, true, false, true, false, false, false] hgv)
    | r + 10, hr => exact absurd hr (by omega)
  | 6, _ =>
    match r, hr with
    | 0, _ => exact (pth_before [true, false, false, false, true, false, true, false, false, true, false] hgv)
    | 1, _ => exact (pth_before [true, false, false, false, true, false, true, false, false, true, true] hgv)
    | 2, _ => exact (pth_before [true, false, false, false, true, false, true, false, true, false, false] hgv)
    | 3, _ => exact (pth_before [true, false, false, false, true, false, true, false, true, false, true] hgv)
    | 4, _ => exact (pth_before [true, false, false, false, true, false, true, false, true, true, false] hgv)
    | 5, _ => exact (pth_before [true, false, false, false, true, false, true, false, true, true, true] hgv)
    | 6, _ => exact (pth_before [true, false, false, false, true, false, true, true, false, false] hgv)
    | 7, _ => exact (pth_before [true, false, false, false, true, false, true, true, false, true, false] hgv)
    | 8, _ => exact (pth_before [true, false, false, false, true, false, true, true, false, true, true] hgv)
    | 9, _ => exact (pth_before [true, false, false, false, true, false, true, true, true, false, false] hgv)
    | r + 10, hr => exact absurd hr (by omega)
  | 7, _ =>
    match r, hr with
    | 0, _ => exact (pth_before [true, false, false, false, true, false, true, true, true, false, true] hgv)
    | 1, _ => exact (pth_before [true, false, false, false, true, false, true, true, true, true, false] hgv)
    | 2, _ => exact (pth_before [true, false, false, false, true, false, true, true, true, true, true] hgv)
    | 3, _ => exact (pth_before [true, false, false, false, true, true, false, false, false, false] hgv)
    | 4, _ => exact (pth_before [true, false, false, false, true, true, false, false, false, true, false] hgv)
    | 5, _ => exact (pth_before [true, false, false, false, true, true, false, false, false, true, true] hgv)
    | 6, _ => exact (pth_before [true, false, false, false, true, true, false, false, true, false, false] hgv)
    | 7, _ => exact (pth_before [true, false, false, false, true, true, false, false, true, false, true] hgv)
    | 8, _ => exact (pth_before [true, false, false, false, true, true, false, false, true, true, false] hgv)
    | 9, _ => exact (pth_before [true, false, false, false, true, true, false, false, true, true, true] hgv)
    | r + 10, hr => exact absurd hr (by omega)
  | 8, _ =>
    match r, hr with
    | 0, _ => exact (pth_before [true, false, false, false, true, true, false, true, false, false] hgv)
    | 1, _ => exact (pth_before [true, false, false, false, true, true, false, true, false, true, false] hgv)
    | 2, _ => exact (pth_before [true, false, false, false, true, true, false, true, false, true, true] hgv)
    | 3, _ => exact (pth_before [true, false, false, false, true, true, false, true, true, false, false] hgv)
    | 4, _ => exact (pth_before [true, false, false, false, true, true, false, true, true, false, true] hgv)
    | 5, _ => exact (pth_before [true, false, false, false, true, true, false, true, true, true, false] hgv)
    | 6, _ => exact (pth_before [true, false, false, false, true, true, false, true, true, true, true] hgv)
    | 7, _ => exact (pth_before [true, false, false, false, true, true, true, false, false, false] hgv)
    | 8, _ => exact (pth_before [true, false, false, false, true, true, true, false, false, true, false] hgv)
    | 9, _ => exact (pth_before [true, false, false, false, true, true, true, false, false, true, true] hgv)
    | r + 10, hr => exact absurd hr (by omega)
  | 9, _ =>
    match r, hr with
    | 0, _ => exact (pth_before [true, false, false, false, true, true, true, false, true, false, false] hgv)
    | 1, _ => exact (pth_before [true, false, false, false, true, true, true, false, true, false, true] hgv)
    | 2, _ => exact (pth_before [true, false, false, false, true, true, true, false, true, true, false] hgv)
    | 3, _ => exact (pth_before [true, false, false, false, true, true, true, false, true, true, true] hgv)
    | 4, _ => exact (pth_before [true, false, false, false, true, true, true, true, false, false, false] hgv)
    | 5, _ => exact (pth_before [true, false, false, false, true, true, true, true, false, false, true] hgv)
    | 6, _ => exact (pth_before [true, false, false, false, true, true, true, true, false, true, false] hgv)
    | 7, _ => exact (pth_before [true, false, false, false, true, true, true, true, false, true, true] hgv)
    | 8, _ => exact (pth_before [true, false, false, false, true, true, true, true, true, false, false] hgv)
    | 9, _ => exact (pth_before [true, false, false, false, true, true, true, true, true, false, true] hgv)
    | r + 10, hr => exact absurd hr (by omega)
  | d + 10, hd => exact absurd hd (by omega)
theorem dg_Ones (hgv : GvAt s b) {A : Nat → Prop} (hA : ∀ a : Nat, a < s.heap.size → ¬ A a) : ∃ t : Nat, (tmD "DigitOnes").eval #[Value.ref b] s none [] s = some (.ref t) ∧ va_T .byte t 100 (fun j => .int (nI (48 + j % 10))) A s s.heap := va_Tof (by decide) (pth_before [true, false, false, false, false, false, false, true, true, false, false] hgv) (va_eqt (pth_before [true, false, false, false, false, false, false, true, true, false, true] hgv)) (fun j hj => va_eqt (dg_eOnes hgv hj)) hA
/-- the law's own texts: their bytes, their places -/
def wd (i : Nat) : List Int32 := qwrd.getD i []
theorem wd_at {i : Nat} (h : i < 7) : qwrd[i]? = some (wd i) := by
  unfold wd
  rw [List.getD_eq_getElem?_getD, List.getElem?_eq_getElem (show i < qwrd.length from h)]
  rfl
def kx (i : Nat) : Nat := [142, 147, 149, 184, 186, 186, 186].getD i 0
def WdAt (i : Nat) (A : Nat → Prop) (s : State) (b : Nat) : Prop := ∃ p : Nat × Nat, (Term.string "CometObservatoryLaw" (kx i)).eval #[Value.ref b] s none [] s = some (.ref p.1) ∧ vk_S 1 [(wd i).length] [wd i] (fun _ => p.1) (fun _ => p.2) A s s.heap
theorem wd_of {i : Nat} {A : Nat → Prop} (hl : (wd i).length < 2 ^ 31) (h1 : (Cond.exactly (.string "CometObservatoryLaw" (kx i)) "java/lang/String").before #[Value.ref b] s = true) (h2 : (Cond.eq (.field (.string "CometObservatoryLaw" (kx i)) "java/lang/String" "coder" "B") (.int 0)).before #[Value.ref b] s = true) (h3 : (Cond.arrayOf (.field (.string "CometObservatoryLaw" (kx i)) "java/lang/String" "value" "[B") .byte).before #[Value.ref b] s = true) (h4 : (Cond.eq (.length (.field (.string "CometObservatoryLaw" (kx i)) "java/lang/String" "value" "[B")) (.int (Int32.ofNat (wd i).length))).before #[Value.ref b] s = true) (h5 : ∀ r : Nat, r < (wd i).length → (Cond.eq (.elem (.field (.string "CometObservatoryLaw" (kx i)) "java/lang/String" "value" "[B") (.int (Int32.ofNat r))) (.int ((wd i).getD r 0))).before #[Value.ref b] s = true) (hA : ∀ a : Nat, a < s.heap.size → ¬ A a) : WdAt i A s b := by
  have one : ∀ j : Nat, j < 1 → j = 0 := fun j h => by omega
  obtain ⟨aK, aV, g1, g2⟩ := vk_Sof (args := #[Value.ref b]) (s := s) (N := 1) (tm := fun _ => .string "CometObservatoryLaw" (kx i)) (len := [(wd i).length]) (byt := [wd i]) (A := A) (fun j hj => by rw [one j hj]; exact hl) (fun _ _ => h1) (fun _ _ => h2) (fun _ _ => h3) (fun j hj => by rw [one j hj]; exact h4) (fun j hj => by rw [one j hj]; exact h5) (fun i j h1 h2 hne => absurd ((one i h1).trans (one j h2).symm) hne) hA
  refine ⟨(aK 0, aV 0), g2 0 (by decide), fun j hj => ?_, fun i j h1 h2 _ => by omega⟩
  have := g1.1 j hj
  rw [one j hj] at this ⊢
  exact this

theorem wd_a0 (hgv : GvAt s b) {A : Nat → Prop} (hA : ∀ a : Nat, a < s.heap.size → ¬ A a) : WdAt 0 A s b := by
  refine wd_of (by decide) (pth_before [true, true, true, true, true, false, false, false, true, false, false] hgv) (pth_before [true, true, true, true, true, false, false, false, true, false, true] hgv) (pth_before [true, true, true, true, true, false, false, false, true, true, false] hgv) (pth_before [true, true, true, true, true, false, false, false, true, true, true] hgv) (fun r hr => ?_) hA
  have hr : r < 1 := hr
  match r, hr with
    | 0, _ => exact (pth_before [true, true, true, true, true, false, false, true, false, false] hgv)
    | r + 1, hr => exact absurd hr (by omega)
theorem wd_a1 (hgv : GvAt s b) {A : Nat → Prop} (hA : ∀ a : Nat, a < s.heap.size → ¬ A a) : WdAt 1 A s b := by
  refine wd_of (by decide) (pth_before [true, true, true, true, true, false, false, true, false, true, false] hgv) (pth_before [true, true, true, true, true, false, false, true, false, true, true] hgv) (pth_before [true, true, true, true, true, false, false, true, true, false, false] hgv) (pth_before [true, true, true, true, true, false, false, true, true, false, true] hgv) (fun r hr => ?_) hA
  have hr : r < 1 := hr
  match r, hr with
    | 0, _ => exact (pth_before [true, true, true, true, true, false, false, true, true, true, false] hgv)
    | r + 1, hr => exact absurd hr (by omega)
theorem wd_a2 (hgv : GvAt s b) {A : Nat → Prop} (hA : ∀ a : Nat, a < s.heap.size → ¬ A a) : WdAt 2 A s b := by
  refine wd_of (by decide) (pth_before [true, true, true, true, true, false, false, true, true, true, true] hgv) (pth_before [true, true, true, true, true, false, true, false, false, false] hgv) (pth_before [true, true, true, true, true, false, true, false, false, true, false] hgv) (pth_before [true, true, true, true, true, false, true, false, false, true, true] hgv) (fun r hr => ?_) hA
  have hr : r < 1 := hr
  match r, hr with
    | 0, _ => exact (pth_before [true, true, true, true, true, false, true, false, true, false, false] hgv)
    | r + 1, hr => exact absurd hr (by omega)
theorem wd_a3 (hgv : GvAt s b) {A : Nat → Prop} (hA : ∀ a : Nat, a < s.heap.size → ¬ A a) : WdAt 3 A s b := by
  refine wd_of (by decide) (pth_before [true, true, true, true, true, false, true, false, true, false, true] hgv) (pth_before [true, true, true, true, true, false, true, false, true, true, false] hgv) (pth_before [true, true, true, true, true, false, true, false, true, true, true] hgv) (pth_before [true, true, true, true, true, false, true, true, false, false] hgv) (fun r hr => ?_) hA
  have hr : r < 0 := hr
  exact absurd hr (Nat.not_lt_zero r)
theorem wd_a4 (hgv : GvAt s b) {A : Nat → Prop} (hA : ∀ a : Nat, a < s.heap.size → ¬ A a) : WdAt 4 A s b := by
  refine wd_of (by decide) (pth_before [true, true, true, true, true, false, true, true, false, true, false] hgv) (pth_before [true, true, true, true, true, false, true, true, false, true, true] hgv) (pth_before [true, true, true, true, true, false, true, true, true, false, false] hgv) (pth_before [true, true, true, true, true, false, true, true, true, false, true] hgv) (fun r hr => ?_) hA
  have hr : r < 1 := hr
  match r, hr with
    | 0, _ => exact (pth_before [true, true, true, true, true, false, true, true, true, true, false] hgv)
    | r + 1, hr => exact absurd hr (by omega)
theorem wd_a5 (hgv : GvAt s b) {A : Nat → Prop} (hA : ∀ a : Nat, a < s.heap.size → ¬ A a) : WdAt 5 A s b := by
  refine wd_of (by decide) (pth_before [true, true, true, true, true, false, true, true, false, true, false] hgv) (pth_before [true, true, true, true, true, false, true, true, false, true, true] hgv) (pth_before [true, true, true, true, true, false, true, true, true, false, false] hgv) (pth_before [true, true, true, true, true, false, true, true, true, false, true] hgv) (fun r hr => ?_) hA
  have hr : r < 1 := hr
  match r, hr with
    | 0, _ => exact (pth_before [true, true, true, true, true, false, true, true, true, true, false] hgv)
    | r + 1, hr => exact absurd hr (by omega)
theorem wd_a6 (hgv : GvAt s b) {A : Nat → Prop} (hA : ∀ a : Nat, a < s.heap.size → ¬ A a) : WdAt 6 A s b := by
  refine wd_of (by decide) (pth_before [true, true, true, true, true, false, true, true, false, true, false] hgv) (pth_before [true, true, true, true, true, false, true, true, false, true, true] hgv) (pth_before [true, true, true, true, true, false, true, true, true, false, false] hgv) (pth_before [true, true, true, true, true, false, true, true, true, false, true] hgv) (fun r hr => ?_) hA
  have hr : r < 1 := hr
  match r, hr with
    | 0, _ => exact (pth_before [true, true, true, true, true, false, true, true, true, true, false] hgv)
    | r + 1, hr => exact absurd hr (by omega)
theorem wd_all (hgv : GvAt s b) {A : Nat → Prop} (hA : ∀ a : Nat, a < s.heap.size → ¬ A a) {i : Nat} (hi : i < 7) : WdAt i A s b := by
  match i, hi with
  | 0, _ => exact wd_a0 hgv hA
  | 1, _ => exact wd_a1 hgv hA
  | 2, _ => exact wd_a2 hgv hA
  | 3, _ => exact wd_a3 hgv hA
  | 4, _ => exact wd_a4 hgv hA
  | 5, _ => exact wd_a5 hgv hA
  | 6, _ => exact wd_a6 hgv hA
  | i + 7, hi => exact absurd hi (by omega)
theorem st_ex (hgv : GvAt s b) {i : Nat} {q : String × Nat × String} (h : qstr[i]? = some q) : (Cond.exactly (.string q.1 q.2.1) "java/lang/String").before #[Value.ref b] s = true := by
  match i, h with
  | 0, h => cases h; exact (pth_before [true, true, true, true, true, false, false, false, true, false, false] hgv)
  | 1, h => cases h; exact (pth_before [true, true, true, true, true, false, false, true, false, true, false] hgv)
  | 2, h => cases h; exact (pth_before [true, true, true, true, true, false, false, true, true, true, true] hgv)
  | 3, h => cases h; exact (pth_before [true, true, true, true, true, false, true, false, true, false, true] hgv)
  | 4, h => cases h; exact (pth_before [true, true, true, true, true, false, true, true, false, true, false] hgv)
  | 5, h => cases h; exact (pth_before [true, true, true, true, true, false, true, true, false, true, false] hgv)
  | 6, h => cases h; exact (pth_before [true, true, true, true, true, false, true, true, false, true, false] hgv)
  | 7, h => cases h; exact (pth_before [true, true, false, true, true, false, false, true, true, true, false] hgv)
  | 8, h => cases h; exact (pth_before [true, true, false, true, true, true, true, true, true, true, true] hgv)
  | 9, h => cases h; exact (pth_before [true, true, true, false, false, false, true, true, false, false] hgv)
  | 10, h => cases h; exact (pth_before [true, true, true, false, false, true, true, false, false, true, true] hgv)
  | 11, h => cases h; exact (pth_before [true, true, true, false, true, false, false, true, true, false, false] hgv)
  | 12, h => cases h; exact (pth_before [true, true, true, false, true, true, true, true, false, false, false] hgv)
  | 13, h => cases h; exact (pth_before [true, false, true, true, false, true, true, true, true, true, true] hgv)
  | 14, h => cases h; exact (pth_before [true, false, true, true, true, true, true, false, false, true, false] hgv)
  | 15, h => cases h; exact (pth_before [true, true, false, false, false, false, false, false, true, false, false] hgv)
  | 16, h => cases h; exact (pth_before [true, true, true, true, false, false, false, true, false, true, true] hgv)
  | 17, h => cases h; exact (pth_before [true, false, true, false, true, true, true, false, false, false] hgv)
  | 18, h => cases h; exact (pth_before [true, false, true, true, false, true, false, false, true, false, false] hgv)
  | 19, h => cases h; exact (pth_before [true, true, false, true, false, false, true, true, true, false, true] hgv)
  | 20, h => cases h; exact (pth_before [true, true, false, true, false, true, true, true, false, false, true] hgv)
  | 21, h => cases h; exact (pth_before [true, false, true, true, true, false, true, false, true, true, true] hgv)
  | 22, h => cases h; exact (pth_before [true, false, true, true, false, false, true, false, false, false] hgv)
  | 23, h => cases h; exact (pth_before [true, false, true, true, false, false, true, false, false, false] hgv)
  | 24, h => cases h; exact (pth_before [true, false, true, true, false, false, true, false, false, false] hgv)
  | 25, h => cases h; exact (pth_before [true, false, true, true, false, false, true, false, false, false] hgv)
  | 26, h => cases h; exact (pth_before [true, false, true, true, false, false, true, false, false, false] hgv)
  | 27, h => cases h; exact (pth_before [true, true, true, true, false, true, false, false, false, true, true] hgv)
  | 28, h => cases h; exact (pth_before [true, false, true, true, false, false, true, false, false, false] hgv)
  | 29, h => cases h; exact (pth_before [true, false, true, true, false, false, true, false, false, false] hgv)
  | 30, h => cases h; exact (pth_before [true, false, true, true, false, false, true, false, false, false] hgv)
  | i + 31, h => exact absurd h (by simp [qstr])
theorem st_rf {i : Nat} {q : String × Nat × String} (h : qstr[i]? = some q) : Cond.stringRef q.1 q.2.1 q.2.2 ∈ lw_tbl := by
  match i, h with
  | 0, h => cases h; exact (tb_in (List.mem_of_getElem? (i := 1229) (by decide +kernel)))
  | 1, h => cases h; exact (tb_in (List.mem_of_getElem? (i := 1230) (by decide +kernel)))
  | 2, h => cases h; exact (tb_in (List.mem_of_getElem? (i := 1231) (by decide +kernel)))
  | 3, h => cases h; exact (tb_in (List.mem_of_getElem? (i := 1232) (by decide +kernel)))
  | 4, h => cases h; exact (tb_in (List.mem_of_getElem? (i := 1233) (by decide +kernel)))
  | 5, h => cases h; exact (tb_in (List.mem_of_getElem? (i := 1233) (by decide +kernel)))
  | 6, h => cases h; exact (tb_in (List.mem_of_getElem? (i := 1233) (by decide +kernel)))
  | 7, h => cases h; exact (tb_in (List.mem_of_getElem? (i := 1037) (by decide +kernel)))
  | 8, h => cases h; exact (tb_in (List.mem_of_getElem? (i := 1051) (by decide +kernel)))
  | 9, h => cases h; exact (tb_in (List.mem_of_getElem? (i := 1105) (by decide +kernel)))
  | 10, h => cases h; exact (tb_in (List.mem_of_getElem? (i := 1116) (by decide +kernel)))
  | 11, h => cases h; exact (tb_in (List.mem_of_getElem? (i := 1121) (by decide +kernel)))
  | 12, h => cases h; exact (tb_in (List.mem_of_getElem? (i := 1126) (by decide +kernel)))
  | 13, h => cases h; exact (tb_in (List.mem_of_getElem? (i := 459) (by decide +kernel)))
  | 14, h => cases h; exact (tb_in (List.mem_of_getElem? (i := 550) (by decide +kernel)))
  | 15, h => cases h; exact (tb_in (List.mem_of_getElem? (i := 558) (by decide +kernel)))
  | 16, h => cases h; exact (tb_in (List.mem_of_getElem? (i := 1161) (by decide +kernel)))
  | 17, h => cases h; exact (tb_in (List.mem_of_getElem? (i := 344) (by decide +kernel)))
  | 18, h => cases h; exact (tb_in (List.mem_of_getElem? (i := 430) (by decide +kernel)))
  | 19, h => cases h; exact (tb_in (List.mem_of_getElem? (i := 973) (by decide +kernel)))
  | 20, h => cases h; exact (tb_in (List.mem_of_getElem? (i := 989) (by decide +kernel)))
  | 21, h => cases h; exact (tb_in (List.mem_of_getElem? (i := 490) (by decide +kernel)))
  | 22, h => cases h; exact (tb_in (List.mem_of_getElem? (i := 400) (by decide +kernel)))
  | 23, h => cases h; exact (tb_in (List.mem_of_getElem? (i := 400) (by decide +kernel)))
  | 24, h => cases h; exact (tb_in (List.mem_of_getElem? (i := 400) (by decide +kernel)))
  | 25, h => cases h; exact (tb_in (List.mem_of_getElem? (i := 400) (by decide +kernel)))
  | 26, h => cases h; exact (tb_in (List.mem_of_getElem? (i := 400) (by decide +kernel)))
  | 27, h => cases h; exact (tb_in (List.mem_of_getElem? (i := 1197) (by decide +kernel)))
  | 28, h => cases h; exact (tb_in (List.mem_of_getElem? (i := 400) (by decide +kernel)))
  | 29, h => cases h; exact (tb_in (List.mem_of_getElem? (i := 400) (by decide +kernel)))
  | 30, h => cases h; exact (tb_in (List.mem_of_getElem? (i := 400) (by decide +kernel)))
  | i + 31, h => exact absurd h (by simp [qstr])
theorem nc_all (hgv : GvAt s b) {q : String × String} (h : q ∈ qnc) : va_Nc q.1 q.2 s := by
  obtain ⟨i, hi⟩ := List.getElem?_of_mem h
  match i, hi with
  | 0, hi => cases hi; exact va_Nc.of (pth_before [true, false, true, false, false, false, true, true, true, false, true] hgv)
  | 1, hi => cases hi; exact va_Nc.of (pth_before [true, false, true, false, false, false, false, true, false, true, true] hgv)
  | 2, hi => cases hi; exact va_Nc.of (pth_before [true, false, true, false, false, false, false, true, true, false, false] hgv)
  | 3, hi => cases hi; exact va_Nc.of (pth_before [true, false, true, false, false, false, false, true, true, true, false] hgv)
  | 4, hi => cases hi; exact va_Nc.of (pth_before [true, false, true, false, false, true, false, false, false, false] hgv)
  | 5, hi => cases hi; exact va_Nc.of (pth_before [true, false, true, false, true, false, false, false, true, false, false] hgv)
  | 6, hi => cases hi; exact va_Nc.of (pth_before [true, false, false, true, true, true, true, true, false, true, true] hgv)
  | 7, hi => cases hi; exact va_Nc.of (pth_before [true, false, false, true, true, true, true, true, true, false, false] hgv)
  | i + 8, hi => exact absurd hi (by simp [qnc])
theorem qstr_wd {i : Nat} (hi : i < 7) : ∃ tx, qstr[i]? = some ("CometObservatoryLaw", kx i, tx) := by
  match i, hi with
  | 0, _ => exact ⟨_, rfl⟩
  | 1, _ => exact ⟨_, rfl⟩
  | 2, _ => exact ⟨_, rfl⟩
  | 3, _ => exact ⟨_, rfl⟩
  | 4, _ => exact ⟨_, rfl⟩
  | 5, _ => exact ⟨_, rfl⟩
  | 6, _ => exact ⟨_, rfl⟩
  | i + 7, hi => exact absurd hi (by omega)
/-- the addresses of the String constants, and of the words' rows -/
theorem strs_at (hgv : GvAt s b) {A : Nat → Prop} (hA : ∀ a : Nat, a < s.heap.size → ¬ A a) (i : Nat) : ∃ p : Nat × Nat, (∀ q, qstr[i]? = some q → (Term.string q.1 q.2.1).eval #[Value.ref b] s none [] s = some (.ref p.1)) ∧ ∀ x, qwrd[i]? = some x → vk_S 1 [x.length] [x] (fun _ => p.1) (fun _ => p.2) A s s.heap := by
  by_cases hi : i < 7
  · obtain ⟨p, h1, h2⟩ := wd_all hgv hA hi
    obtain ⟨tx, htx⟩ := qstr_wd hi
    refine ⟨p, fun q hq => ?_, fun x hx => ?_⟩
    · rw [htx] at hq
      cases hq
      exact h1
    · rw [wd_at hi] at hx
      cases hx
      exact h2
  · have hw : qwrd[i]? = none := List.getElem?_eq_none (by show 7 ≤ i; omega)
    cases hq : qstr[i]? with
    | none => exact ⟨(0, 0), fun q h => (nomatch h), fun x h => by rw [hw] at h; cases h⟩
    | some q =>
      obtain ⟨a, c, cA, kA, q1, -⟩ := Cond.exactly_spec (args := #[Value.ref b]) (first := s) (o := none) (s := s) (idx := []) (t := .string q.1 q.2.1) (cls := "java/lang/String") (st_ex hgv hq)
      refine ⟨(a, 0), fun q' h => ?_, fun x h => by rw [hw] at h; cases h⟩
      cases h
      exact q1
theorem uz_Jx00060 : ∀ w ∈ u_ws RJx00060 TJx00060 6, w ∈ lw_tbl := by decide +kernel
theorem uz_Jx7c733 : ∀ w ∈ u_ws RJx7c733 TJx7c733 6, w ∈ lw_tbl := by decide +kernel
set_option maxRecDepth 20000 in
set_option maxHeartbeats 4000000 in
theorem env_at (hgv : GvAt s b) {L : Nat} {xs : Nat → Int32} (hXs : va_X b L xs s s.heap) (hbl : b < s.heap.size) (hL : L ≤ 260) {l : Launch} (hflags : l.flags = flags0) (hts : ∀ w ∈ lw_tbl, w.before #[Value.ref b] s = true) : ∃ (K : va_G) (cy : Nat → ClassId) (eS eV eT : Nat → Nat), eT 2 = b ∧ EnvV (l, (s.heap.size, fun _ => False), K, cy, eS, eV, eT) s ∧ EnvH (l, (s.heap.size, fun _ => False), K, cy, eS, eV, eT) s s.heap := by
  have hA : ∀ a : Nat, a < s.heap.size → ¬ (fun q : Nat => s.heap.size ≤ q ∧ ¬ False) a := fun a h q => Nat.not_le.mpr h q.1
  obtain ⟨ad, had⟩ := Classical.axiomOfChoice (fun i => strs_at hgv (A := fun q : Nat => s.heap.size ≤ q ∧ ¬ False) hA i)
  obtain ⟨tT, hT1, hT2⟩ := dg_Tens hgv (A := fun q : Nat => s.heap.size ≤ q ∧ ¬ False) hA
  obtain ⟨tO, hO1, hO2⟩ := dg_Ones hgv (A := fun q : Nat => s.heap.size ≤ q ∧ ¬ False) hA
  obtain ⟨c0, i0, hk0⟩ := u_known (C := RJ0) (T := TJ0) (N := 4) (n := 4) hts (fun w h => (uw_J0 w h).1) (hts _ (tb_in (List.mem_of_getElem? (i := 810) (by decide +kernel))))
  obtain ⟨c1, i1, hk1⟩ := u_known (C := RJ4) (T := TJ4) (N := 4) (n := 4) hts (fun w h => (uw_J4 w h).1) (hts _ (tb_in (List.mem_of_getElem? (i := 227) (by decide +kernel))))
  obtain ⟨c2, i2, hk2⟩ := u_known (C := RJx00060) (T := TJx00060) (N := 6) (n := 6) hts uz_Jx00060 (hts _ (tb_in (List.mem_of_getElem? (i := 894) (by decide +kernel))))
  obtain ⟨c3, i3, hk3⟩ := u_known (C := RJx7c733) (T := TJx7c733) (N := 6) (n := 6) hts uz_Jx7c733 (hts _ (tb_in (List.mem_of_getElem? (i := 657) (by decide +kernel))))
  obtain ⟨c4, i4, hk4⟩ := u_known (C := RX0) (T := TX0) (N := 5) (n := 5) hts (fun w h => (uw_X0 w h).1) (hts _ (tb_in (List.mem_of_getElem? (i := 48) (by decide +kernel))))
  obtain ⟨c5, i5, hk5⟩ := u_known (C := RX1) (T := TX1) (N := 3) (n := 3) hts (fun w h => (uw_X1 w h).1) (hts _ (tb_in (List.mem_of_getElem? (i := 153) (by decide +kernel))))
  obtain ⟨c6, i6, hk6⟩ := u_known (C := RX3) (T := TX3) (N := 6) (n := 6) hts (fun w h => (uw_X3 w h).1) (hts _ (tb_in (List.mem_of_getElem? (i := 202) (by decide +kernel))))
  obtain ⟨c7, i7, hk7⟩ := u_known (C := RX4) (T := TX4) (N := 6) (n := 6) hts (fun w h => (uw_X4 w h).1) (hts _ (tb_in (List.mem_of_getElem? (i := 84) (by decide +kernel))))
  obtain ⟨c8, i8, hk8⟩ := u_known (C := RX5) (T := TX5) (N := 9) (n := 9) hts (fun w h => (uw_X5 w h).1) (hts _ (tb_in (List.mem_of_getElem? (i := 41) (by decide +kernel))))
  obtain ⟨c9, i9, hk9⟩ := u_known (C := RX6) (T := TX6) (N := 7) (n := 7) hts (fun w h => (uw_X6 w h).1) (hts _ (tb_in (List.mem_of_getElem? (i := 172) (by decide +kernel))))
  obtain ⟨c10, i10, hk10⟩ := u_known (C := RX7) (T := TX7) (N := 10) (n := 10) hts (fun w h => (uw_X7 w h).1) (hts _ (tb_in (List.mem_of_getElem? (i := 33) (by decide +kernel))))
  obtain ⟨y0, hy0⟩ := (arr_p (ty := .int) (hts _ (tb_in (List.mem_of_getElem? (i := 114) (by decide +kernel)))) (fun C h => by cases h))
  obtain ⟨y1, hy1⟩ := (arr_p (ty := .char) (hts _ (tb_in (List.mem_of_getElem? (i := 225) (by decide +kernel)))) (fun C h => by cases h))
  obtain ⟨y2, hy2⟩ := (arr_p (ty := .byte) (hts _ (tb_in (List.mem_of_getElem? (i := 258) (by decide +kernel)))) (fun C h => by cases h))
  obtain ⟨y3, hy3⟩ := (arr_p (ty := .int) (hts _ (tb_in (List.mem_of_getElem? (i := 114) (by decide +kernel)))) (fun C h => by cases h))
  obtain ⟨y4, hy4⟩ := (arr_p (ty := .int) (hts _ (tb_in (List.mem_of_getElem? (i := 114) (by decide +kernel)))) (fun C h => by cases h))
  obtain ⟨y5, hy5⟩ := (arr_o (C := "CometObservatory$Comet") (hts _ (tb_in (List.mem_of_getElem? (i := 47) (by decide +kernel)))))
  obtain ⟨y6, hy6⟩ := (arr_o (C := "CometObservatory$Sky") (hts _ (tb_in (List.mem_of_getElem? (i := 159) (by decide +kernel)))))
  obtain ⟨y7, hy7⟩ := (arr_a (ty := .int) (hts _ (tb_in (List.mem_of_getElem? (i := 208) (by decide +kernel)))))
  refine ⟨(fun k => [c0, c1, c2, c3, c4, c5, c6, c7, c8, c9, c10].getD k c0, fun k => [i0, i1, i2, i3, i4, i5, i6, i7, i8, i9, i10].getD k i0), fun k => [y0, y1, y2, y3, y4, y5, y6, y7].getD k y0, fun i => (ad i).1, fun i => (ad i).2, fun k => if k = 0 then tT else if k = 1 then tO else if k = 2 then b else L, rfl, ⟨?_, ?_, ⟨fun c q hq => ?_, fun k q hk => ?_⟩, fun i q hq => ?_, fun q hq => ?_⟩, ⟨fun q hq => ⟨hq, fun z => z⟩, ?_, ?_, fun i x hx => (had i).2 x hx, ?_, ?_, hT2, ?_, hO2, ?_, ⟨xs, hXs⟩, hA b hbl, Nat.lt_of_le_of_lt hL (by decide)⟩⟩
  · show (!l.flags.contains noTraceFlag) = false
    rw [hflags]
    decide +kernel
  · intro w hw a
    rcases hw with hw | hw
    · exact good2_at (State.WarmedH.refl s) hw.2 (hts w hw.1)
    · refine good2_at (State.WarmedH.refl s) (q_sels_good w hw) (a := #[Value.ref b]) ?_
      rcases List.mem_cons.mp hw with rfl | hw
      · exact q_selp ⟨by decide +kernel, by decide +kernel⟩ (n := 4) (hts _ (tb_in (List.mem_of_getElem? (i := 227) (by decide +kernel)))) (hts _ (tb_in (List.mem_of_getElem? (i := 747) (by decide +kernel)))) (hts _ (tb_in (List.mem_of_getElem? (i := 748) (by decide +kernel)))) (hts _ (tb_in (List.mem_of_getElem? (i := 1241) (by decide +kernel))))
      rcases List.mem_cons.mp hw with rfl | hw
      · exact q_selp ⟨by decide +kernel, by decide +kernel⟩ (n := 4) (hts _ (tb_in (List.mem_of_getElem? (i := 227) (by decide +kernel)))) (hts _ (tb_in (List.mem_of_getElem? (i := 751) (by decide +kernel)))) (hts _ (tb_in (List.mem_of_getElem? (i := 752) (by decide +kernel)))) (hts _ (tb_in (List.mem_of_getElem? (i := 1242) (by decide +kernel))))
      rcases List.mem_cons.mp hw with rfl | hw
      · exact q_selp ⟨by decide +kernel, by decide +kernel⟩ (n := 4) (hts _ (tb_in (List.mem_of_getElem? (i := 227) (by decide +kernel)))) (hts _ (tb_in (List.mem_of_getElem? (i := 676) (by decide +kernel)))) (hts _ (tb_in (List.mem_of_getElem? (i := 677) (by decide +kernel)))) (hts _ (tb_in (List.mem_of_getElem? (i := 1239) (by decide +kernel))))
      · rw [List.mem_singleton.mp hw]
        exact q_selp ⟨by decide +kernel, by decide +kernel⟩ (n := 4) (hts _ (tb_in (List.mem_of_getElem? (i := 227) (by decide +kernel)))) (hts _ (tb_in (List.mem_of_getElem? (i := 680) (by decide +kernel)))) (hts _ (tb_in (List.mem_of_getElem? (i := 681) (by decide +kernel)))) (hts _ (tb_in (List.mem_of_getElem? (i := 1240) (by decide +kernel))))
  · match c, hq with
    | 0, hq => cases hq; exact hk0
    | 1, hq => cases hq; exact hk1
    | 2, hq => cases hq; exact hk2
    | 3, hq => cases hq; exact hk3
    | 4, hq => cases hq; exact hk4
    | 5, hq => cases hq; exact hk5
    | 6, hq => cases hq; exact hk6
    | 7, hq => cases hq; exact hk7
    | 8, hq => cases hq; exact hk8
    | 9, hq => cases hq; exact hk9
    | 10, hq => cases hq; exact hk10
    | k + 11, hq => exact absurd hq (by simp [vwCl])
  · match k, hk with
    | 0, hk => cases hk; exact hy0
    | 1, hk => cases hk; exact hy1
    | 2, hk => cases hk; exact hy2
    | 3, hk => cases hk; exact hy3
    | 4, hk => cases hk; exact hy4
    | 5, hk => cases hk; exact hy5
    | 6, hk => cases hk; exact hy6
    | 7, hk => cases hk; exact hy7
    | k + 8, hk => exact absurd hk (by simp [qtys])
  · exact vk_R.of (hts _ (st_rf hq)) ((had i).1 q hq)
  · exact nc_all hgv hq
  · exact vx_Zqof (hts _ (tb_in (List.mem_of_getElem? (i := 325) (by decide +kernel)))) (hts _ (tb_in (List.mem_of_getElem? (i := 12) (by decide +kernel)))) (pth_before [true, false, false, false, false, false, false, false, true, false, false] hgv) hA
  · exact vx_Zqof (hts _ (tb_in (List.mem_of_getElem? (i := 327) (by decide +kernel)))) (hts _ (tb_in (List.mem_of_getElem? (i := 12) (by decide +kernel)))) (pth_before [true, false, false, false, false, false, false, false, true, false, true] hgv) hA
  · exact va_Zof (hts _ (tb_in (List.mem_of_getElem? (i := 236) (by decide +kernel)))) (hts _ (tb_in (List.mem_of_getElem? (i := 10) (by decide +kernel)))) (va_eqt (pth_before [true, false, false, false, false, false, false, false, false, true, true] hgv)) hA
  · exact va_Zref (hts _ (tb_in (List.mem_of_getElem? (i := 796) (by decide +kernel)))) (hts _ (tb_in (List.mem_of_getElem? (i := 29) (by decide +kernel)))) hT1 hA
  · exact va_Zref (hts _ (tb_in (List.mem_of_getElem? (i := 794) (by decide +kernel)))) (hts _ (tb_in (List.mem_of_getElem? (i := 29) (by decide +kernel)))) hO1 hA
  · exact va_Zqof (hts _ (tb_in (List.mem_of_getElem? (i := 724) (by decide +kernel)))) (hts _ (tb_in (List.mem_of_getElem? (i := 26) (by decide +kernel)))) (pth_before [true, false, false, false, false, false, false, false, true, true, false] hgv) hA
end
