/-! ===== rows: String constants, statics, calls up, arraycopy ===== -/
theorem sel_priv {a : Array Value} {s : State} {C : String} {z y : MethodName} (h0 : (Cond.selects C z z).before a s = true) (hz : z.cls = y.cls) (hy : y.cls ≠ "java/lang/invoke/MethodHandle" ∧ y.cls ≠ "java/lang/invoke/VarHandle") (hp : (Cond.privateMethod y).before a s = true) (hi : (Cond.instanceMethod y).before a s = true) : (Cond.selects C y y).before a s = true := by
  obtain ⟨c, r, m0, hc, -, hm0, -, mk0, hk0, hni⟩ := Cond.selects_spec h0
  obtain ⟨mk, methM, hnamed, hmethM, -, -⟩ := Cond.instanceMethod_spec hi
  have hfound : s.methodFound? y.cls y.name y.desc = some mk := State.methodFound?_of_named hnamed hy
  have hsel : selectMethod {} s.vm c mk = .method mk := selectMethod_private hmethM (Cond.privateMethod_at hp mk methM hnamed hmethM)
  have h1 := findClass_of_methodNamed hnamed
  have h2 := findClass_of_methodNamed hm0
  rw [hz] at h2
  have hcls : mk.cls = m0.cls := Option.some.inj (h1.symm.trans h2)
  simp only [Cond.before, Cond.holds, Cond.value, hc, hfound, hnamed, hsel, hcls, hk0]
  simp
  exact hni
/-- a call of an inherited method: x named, y run, on an object of the class C -/
def MLU (own : String) (idx : Nat) (x y : MethodName) (C : String) (cc : ByteArray) (nL : Nat) (ret : Option FieldType) (n : Nat) : Prop :=
  InT (.methodLink own idx x) ∧ InT (.sameMethod x.cls y.cls x.name x.desc) ∧ (InT (.selects C x y) ∨ Cond.selects C x y ∈ q_sels) ∧ InT (.instanceMethod y) ∧ InT (.initialized y.cls) ∧ InT (.code y cc nL ret) ∧ y = ⟨y.cls, x.name, x.desc⟩ ∧ (y.cls ≠ "java/lang/invoke/MethodHandle" ∧ y.cls ≠ "java/lang/invoke/VarHandle") ∧ (parseMethodDescriptor x.desc).map (fun d => d.parameters.length) = some n
/-- a call of the superclass's method -/
def MLP (own : String) (idx : Nat) (y : MethodName) (cc : ByteArray) (nL : Nat) (ret : Option FieldType) (n : Nat) : Prop :=
  InT (.methodLink own idx y) ∧ InT (.sameMethod y.cls y.cls y.name y.desc) ∧ InT (.superclass own y.cls) ∧ InT (.instanceMethod y) ∧ InT (.initialized y.cls) ∧ InT (.code y cc nL ret) ∧ y.name ≠ "<init>" ∧ (parseMethodDescriptor y.desc).map (fun d => d.parameters.length) = some n
section WD
variable {E : qE} {y : MethodName} {cc : ByteArray} {nL : Nat} {ret : Option FieldType} {k mc ms : Nat} {tab : List ExceptionTableEntry} {X : qX} {cN sN : Nat} {Q : State → Prop} {g : qG} {m : qM} {pc : Nat} {l : List (Option Value)} {st : List Value}
theorem r_ldcS (hX : MC E y cc nL ret k mc ms tab X) {idx i : Nat} {tx : String} (d : decode cc pc = .ok (.ldc idx, 2)) (hq : qstr[i]? = some (y.cls, idx, tx)) (kk : WS E X cN sN Q g m (pc + 2) l (.ref (eS E i) :: st)) : WS E X cN sN Q g m pc l st :=
  fun H locs ls h1 h2 h3 => va_ldcS hX.x hX.b hX.own (hX.ev.2.2.2.1 i _ hq) d (kk H locs ls h1 h2 h3)
theorem r_ldcI (hX : MC E y cc nL ret k mc ms tab X) {idx : Nat} {v : Int32} (d : decode cc pc = .ok (.ldc idx, 2)) (hw : InT (.constant y.cls idx v)) (kk : WS E X cN sN Q g m (pc + 2) l (.int v :: st)) : WS E X cN sN Q g m pc l st :=
  fun H locs ls h1 h2 h3 => lv_ldc hX.x hX.b hX.own (hX.w hw _) d (kk H locs ls h1 h2 h3)
theorem r_getsC (hX : MC E y cc nL ret k mc ms tab X) {idx : Nat} (d : decode cc pc = .ok (.getstatic idx, 3)) (hw : InT (.fieldLink y.cls idx "java/lang/String" "COMPACT_STRINGS" "Z")) (kk : WS E X cN sN Q g m (pc + 3) l (.int 1 :: st)) : WS E X cN sN Q g m pc l st :=
  fun H locs ls h1 h2 h3 => va_gets hX.x hX.b hX.eh.2.2.2.2.1 h2 hX.own (hX.w hw _) (fun _ h => h) d (kk H locs ls h1 h2 h3)
theorem r_getsT (hX : MC E y cc nL ret k mc ms tab X) {idx : Nat} (d : decode cc pc = .ok (.getstatic idx, 3)) (hw : InT (.fieldLink y.cls idx "java/lang/Integer" "DigitTens" "[B")) (kk : WS E X cN sN Q g m (pc + 3) l (.ref (eT E 0) :: st)) : WS E X cN sN Q g m pc l st :=
  fun H locs ls h1 h2 h3 => va_gets hX.x hX.b hX.eh.2.2.2.2.2.1 h2 hX.own (hX.w hw _) (fun _ h => h) d (kk H locs ls h1 h2 h3)
theorem r_getsO (hX : MC E y cc nL ret k mc ms tab X) {idx : Nat} (d : decode cc pc = .ok (.getstatic idx, 3)) (hw : InT (.fieldLink y.cls idx "java/lang/Integer" "DigitOnes" "[B")) (kk : WS E X cN sN Q g m (pc + 3) l (.ref (eT E 1) :: st)) : WS E X cN sN Q g m pc l st :=
  fun H locs ls h1 h2 h3 => va_gets hX.x hX.b hX.eh.2.2.2.2.2.2.2.1 h2 hX.own (hX.w hw _) (fun _ h => h) d (kk H locs ls h1 h2 h3)
theorem r_getsF (hX : MC E y cc nL ret k mc ms tab X) {idx : Nat} (d : decode cc pc = .ok (.getstatic idx, 3)) (hw : InT (.fieldLink y.cls idx "jdk/internal/util/Preconditions" "SIOOBE_FORMATTER" "Ljava/util/function/BiFunction;")) (kk : ∀ v : Value, (v = .null ∨ ∃ t, v = .ref t) → WS E X cN sN Q g m (pc + 3) l (v :: st)) : WS E X cN sN Q g m pc l st := by
  intro H locs ls h1 h2 h3
  rcases hX.eh.2.2.2.2.2.2.2.2.2.1 with h | ⟨t, h⟩
  · exact va_gets hX.x hX.b h h2 hX.own (hX.w hw _) (fun _ h => h) d (kk _ (Or.inl rfl) H locs ls h1 h2 h3)
  · exact va_gets hX.x hX.b h h2 hX.own (hX.w hw _) (fun _ h => h) d (kk _ (Or.inr ⟨t, rfl⟩) H locs ls h1 h2 h3)
theorem r_tens (hX : MC E y cc nL ret k mc ms tab X) {j : Nat} (d : decode cc pc = .ok (.baload, 1)) (hj : j < 100) (kk : WS E X cN sN Q g m (pc + 1) l (.int (nI (48 + j / 10)) :: st)) : WS E X cN sN Q g m pc l (.int (nI j) :: .ref (eT E 0) :: st) :=
  fun H locs ls h1 h2 h3 => va_tb hX.x hX.b hX.eh.2.2.2.2.2.2.1 h2 (vp_in_nI hj (by decide)) (by unfold qTens; rw [nI_clamp (by omega)]) d (kk H locs ls h1 h2 h3)
theorem r_ones (hX : MC E y cc nL ret k mc ms tab X) {j : Nat} (d : decode cc pc = .ok (.baload, 1)) (hj : j < 100) (kk : WS E X cN sN Q g m (pc + 1) l (.int (nI (48 + j % 10)) :: st)) : WS E X cN sN Q g m pc l (.int (nI j) :: .ref (eT E 1) :: st) :=
  fun H locs ls h1 h2 h3 => va_tb hX.x hX.b hX.eh.2.2.2.2.2.2.2.2.1 h2 (vp_in_nI hj (by decide)) (by unfold qOnes; rw [nI_clamp (by omega)]) d (kk H locs ls h1 h2 h3)
theorem r_aaload7 (hX : MC E y cc nL ret k mc ms tab X) {a n b : Nat} {i : Int32} (d : decode cc pc = .ok (.aaload, 1)) (ha : gAt g a (.inr (7, n))) (hi : vp_in i n) (hb : qR m a i.toNatClampNeg = some b) (kk : WS E X cN sN Q g m (pc + 1) l (.ref b :: st)) : WS E X cN sN Q g m pc l (.int i :: .ref a :: st) := by
  intro H locs ls h1 h2 h3
  have hlt : i.toNatClampNeg < n := Nat.not_le.mp fun q => hi (Or.inr q)
  have e1 : H[a]? = some (vp_cell (eC E 7) (n, .inr (.inr (.inr (.inr (m.2.1 a)))))) := (h1.2 a _ ha).2
  refine W.aald (v := va_rf (m.2.1 a i.toNatClampNeg)) (ty := .array .int) hX.x hX.b e1 ((hX.K.2 7 _ (qtys_get (eC E) (t := 7) (by decide))).1 n (fun j => va_rf (m.2.1 a j))) rfl (fun q => by cases q) (by show ¬ (i < 0 ∨ (arrV _ _ _).slots.size ≤ _); rw [arrV_size]; exact hi) (by show (arrV _ _ _).slots[_]? = _; rw [arrV_read _ _ hlt]) rfl rfl d ?_
  have hb : m.2.1 a i.toNatClampNeg = some b := hb
  rw [hb]
  exact kk H locs ls h1 h2 h3
theorem r_aaload7N (hX : MC E y cc nL ret k mc ms tab X) {a n b j : Nat} (d : decode cc pc = .ok (.aaload, 1)) (ha : gAt g a (.inr (7, n))) (hj : j < n) (hn : n < 2 ^ 31) (hb : qR m a j = some b) (kk : WS E X cN sN Q g m (pc + 1) l (.ref b :: st)) : WS E X cN sN Q g m pc l (.int (nI j) :: .ref a :: st) :=
  r_aaload7 hX d ha (vp_in_nI hj hn) (by rw [nI_clamp (Nat.lt_trans hj hn)]; exact hb) kk
/-! the first seven String constants -/
theorem q_str (hX : MC E y cc nL ret k mc ms tab X) {i : Nat} {x : List Int32} (hq : qwrd[i]? = some x) : vk_S 1 [x.length] [x] (fun _ => eS E i) (fun _ => eV E i) (qA E) (xS X) (xS X).heap := hX.eh.2.2.2.1 i x hq
theorem r_strC (hX : MC E y cc nL ret k mc ms tab X) {i idx : Nat} {x : List Int32} (d : decode cc pc = .ok (.getfield idx, 3)) (hw : InT (.fieldLink y.cls idx "java/lang/String" "coder" "B")) (hq : qwrd[i]? = some x) (kk : WS E X cN sN Q g m (pc + 3) l (.int 0 :: st)) : WS E X cN sN Q g m pc l (.ref (eS E i) :: st) :=
  fun H locs ls h1 h2 h3 => vk_getf hX.x hX.b ((q_str hX hq).1 0 (by decide)).2.1 h2 hX.own (hX.w hw _) (fun _ h => h) d (kk H locs ls h1 h2 h3)
theorem r_strV (hX : MC E y cc nL ret k mc ms tab X) {i idx : Nat} {x : List Int32} (d : decode cc pc = .ok (.getfield idx, 3)) (hw : InT (.fieldLink y.cls idx "java/lang/String" "value" "[B")) (hq : qwrd[i]? = some x) (kk : WS E X cN sN Q g m (pc + 3) l (.ref (eV E i) :: st)) : WS E X cN sN Q g m pc l (.ref (eS E i) :: st) :=
  fun H locs ls h1 h2 h3 => vk_getf hX.x hX.b ((q_str hX hq).1 0 (by decide)).2.2.1 h2 hX.own (hX.w hw _) (fun _ h => h) d (kk H locs ls h1 h2 h3)
theorem r_strL (hX : MC E y cc nL ret k mc ms tab X) {i : Nat} {x : List Int32} (d : decode cc pc = .ok (.arraylength, 1)) (hq : qwrd[i]? = some x) (kk : WS E X cN sN Q g m (pc + 1) l (.int (nI x.length) :: st)) : WS E X cN sN Q g m pc l (.ref (eV E i) :: st) :=
  fun H locs ls h1 h2 h3 => va_tlen hX.x hX.b ((q_str hX hq).1 0 (by decide)).2.2.2 h2 rfl d (kk H locs ls h1 h2 h3)
theorem r_strB (hX : MC E y cc nL ret k mc ms tab X) {i j : Nat} {x : List Int32} (d : decode cc pc = .ok (.baload, 1)) (hq : qwrd[i]? = some x) (hj : j < x.length) (hx : x.length < 2 ^ 31) (kk : WS E X cN sN Q g m (pc + 1) l (.int (x.getD j 0) :: st)) : WS E X cN sN Q g m pc l (.int (nI j) :: .ref (eV E i) :: st) :=
  fun H locs ls h1 h2 h3 => va_tb hX.x hX.b ((q_str hX hq).1 0 (by decide)).2.2.2 h2 (vp_in_nI hj hx) (by rw [nI_clamp (Nat.lt_trans hj hx)]; rfl) d (kk H locs ls h1 h2 h3)
theorem r_callStr (hX : MC E y cc nL ret k mc ms tab X) {i idx n k' mc' ms' nL' : Nat} {x : List Int32} {y' : MethodName} {cc' : ByteArray} {ret' : Option FieldType} {As rest : List Value} {post : Option Value → qG → qM → Prop} (d : decode cc pc = .ok (.invokevirtual idx, 3)) (hq : qwrd[i]? = some x)
    (hM : Sp E y' cc' nL' ret' k' mc' ms' (.ref (eS E i) :: As) g m post) (hl : MLV y.cls idx y' cc' nL' ret' n) (hn : As.length = n) (hst : st = As.reverse ++ .ref (eS E i) :: rest) (hc : y'.cls = "java/lang/String")
    (hk : k' + 1 ≤ k ∧ nL' ≤ 45) (hr : cN + mc' ≤ mc ∧ sN + ms' ≤ ms ∧ l.length = nL ∧ (rest.map fun v => v.category).sum ≤ 8)
    (kk : ∀ (v : Option Value) (g' : qG) (m' : qM), post v g' m' → WS E X (cN + mc') (sN + ms') Q g' m' (pc + 3) l (v.toList ++ rest)) : WS E X cN sN Q g m pc l st := by
  intro H locs ls h1 h2 h3
  have hR := hX.rm
  have hrv := vk_recv (i := 0) (q_str hX hq) (by decide) h2
  rw [← hc] at hrv
  have hp : PreV (xS X) H y'.cls (eS E i) (qPc E (.ref (eS E i) :: As) g m) As := ⟨qPc_blind _ _ _ _, hrv, q_pre hX h1 h2⟩
  rcases hl.1.1 with hlk | ⟨host, hlk⟩
  · exact q_call (va_runV (q_fix hX) hM ⟨q_cb hX hl.1 hlk hk, hX.w hl.2.1 _, hX.w hl.2.2 _⟩ hp rfl hn (by rw [← hr.2.2.1]; exact h3.1) hst (lv_room hr.2.2.2) d (by rw [hR]; exact ⟨hr.1, hr.2.1⟩)) h2 h3 kk
  · exact q_call (va_runVN (q_fix hX) hM ⟨q_cn hX hl.1 hlk hk, hX.w hl.2.1 _, hX.w hl.2.2 _⟩ hp rfl hn (by rw [← hr.2.2.1]; exact h3.1) hst (lv_room hr.2.2.2) d (by rw [hR]; exact ⟨hr.1, hr.2.1⟩)) h2 h3 kk
theorem q_back (hX : MC E y cc nL ret k mc ms tab X) {k' mc' ms' nL' : Nat} {y' : MethodName} {cc' : ByteArray} {ret' : Option FieldType} (hc : InT (.code y' cc' nL' ret')) (hk : k' + 1 ≤ k ∧ nL' ≤ 45) : (qRm k' mc' ms').cells = mc' ∧ (qRm k' mc' ms').slots = ms' ∧ (qRm k' mc' ms').frames + 1 ≤ (xR X).frames ∧ 8 + (nL' + 11) + (qRm k' mc' ms').locals ≤ (xR X).locals ∧ (∀ w ∈ [Cond.code y' cc' nL' ret'], ∀ (a' : Array Value) (U : State), (xS X).WarmedH U.vm → w.before a' U = true) ∧ Cond.code y' cc' nL' ret' ∈ [Cond.code y' cc' nL' ret'] := by
  refine ⟨rfl, rfl, by rw [hX.rm]; exact hk.1, by rw [hX.rm]; show 8 + (nL' + 11) + 64 * k' ≤ 64 * k; omega, ?_, List.mem_cons_self⟩
  intro w hw a' U hW
  rw [List.mem_singleton.mp hw]
  exact good2_at hW hc.2 (hX.w hc #[])
theorem r_callU (hX : MC E y cc nL ret k mc ms tab X) {idx n k' mc' ms' nL' b c : Nat} {x y' : MethodName} {C : String} {cc' : ByteArray} {ret' : Option FieldType} {As rest : List Value} {post : Option Value → qG → qM → Prop} (d : decode cc pc = .ok (.invokevirtual idx, 3))
    (hM : Sp E y' cc' nL' ret' k' mc' ms' (.ref b :: As) g m post) (hl : MLU y.cls idx x y' C cc' nL' ret' n) (hn : As.length = n) (hst : st = As.reverse ++ .ref b :: rest) (hb : gAt g b (.inl c)) (hc : qCls c = some C)
    (hk : k' + 1 ≤ k ∧ nL' ≤ 45) (hr : cN + mc' ≤ mc ∧ sN + ms' ≤ ms ∧ l.length = nL ∧ (rest.map fun v => v.category).sum ≤ 8)
    (kk : ∀ (v : Option Value) (g' : qG) (m' : qM), post v g' m' → WS E X (cN + mc') (sN + ms') Q g' m' (pc + 3) l (v.toList ++ rest)) : WS E X cN sN Q g m pc l st := by
  intro H locs ls h1 h2 h3
  have hR := hX.rm
  obtain ⟨l1, l2, l3, l4, l5, l6, l7, l8, l9⟩ := hl
  have hp : PreV (xS X) H C b (qPc E (.ref b :: As) g m) As := ⟨qPc_blind _ _ _ _, q_recv hX h1 hb hc, q_pre hX h1 h2⟩
  have hsel : (Cond.selects C x y').before (xA X) (xS X) = true := by
    rcases l3 with h | h
    · exact hX.w h _
    · exact hX.w2 h _
  refine q_call (va_runU (q_fix hX) hM (owner := y'.cls) ⟨q_back hX l6 hk, hX.w l6 _, hX.w l5 _, l8, fun sig h => ?_, hX.w l1 _, hX.w l2 _, by rw [← l7]; exact va_Decl.of (hX.w l4 (xA X)) (hX.w l6 _), hsel, hX.w l4 _⟩ hp rfl hn (by rw [← hr.2.2.1]; exact h3.1) hst (lv_room hr.2.2.2) d (by rw [hR]; exact ⟨hr.1, hr.2.1⟩)) h2 h3 kk
  rw [h] at l9
  exact (Option.some.inj l9).symm
theorem r_callP (hX : MC E y cc nL ret k mc ms tab X) {idx n k' mc' ms' nL' b c : Nat} {y' : MethodName} {C : String} {cc' : ByteArray} {ret' : Option FieldType} {As rest : List Value} {post : Option Value → qG → qM → Prop} (d : decode cc pc = .ok (.invokespecial idx, 3))
    (hM : Sp E y' cc' nL' ret' k' mc' ms' (.ref b :: As) g m post) (hl : MLP y.cls idx y' cc' nL' ret' n) (hi : ∃ N, InT (.instantiable C N)) (hn : As.length = n) (hst : st = As.reverse ++ .ref b :: rest) (hb : gAt g b (.inl c)) (hc : qCls c = some C)
    (hk : k' + 1 ≤ k ∧ nL' ≤ 45) (hr : cN + mc' ≤ mc ∧ sN + ms' ≤ ms ∧ l.length = nL ∧ (rest.map fun v => v.category).sum ≤ 8)
    (kk : ∀ (v : Option Value) (g' : qG) (m' : qM), post v g' m' → WS E X (cN + mc') (sN + ms') Q g' m' (pc + 3) l (v.toList ++ rest)) : WS E X cN sN Q g m pc l st := by
  intro H locs ls h1 h2 h3
  have hR := hX.rm
  obtain ⟨l1, l2, l3, l4, l5, l6, l7, l8⟩ := hl
  obtain ⟨N, hi⟩ := hi
  have hrv := q_recv hX h1 hb hc
  have hp : PreV (xS X) H C b (qPc E (.ref b :: As) g m) As := ⟨qPc_blind _ _ _ _, hrv, q_pre hX h1 h2⟩
  have hat : ∃ cC, ClassAt (xS X) C cC := by
    obtain ⟨c9, k9, hc9, hk9, hord, h9⟩ := Cond.instantiable_spec (hX.w hi #[])
    exact ⟨c9, hc9, k9, hk9, hord⟩
  obtain ⟨cC, hat⟩ := hat
  refine q_call (va_runSU hat (q_fix hX) hM ⟨q_back hX l6 hk, hX.w l1 _, hX.w l2 _, hX.w l3 _, hX.w l4 _, hX.w l5 _, hX.w l6 _, l7, fun sig h => ?_⟩ hp rfl hn (by rw [← hr.2.2.1]; exact h3.1) hst (lv_room hr.2.2.2) d (by rw [hR]; exact ⟨hr.1, hr.2.1⟩)) h2 h3 kk
  rw [h] at l8
  exact (Option.some.inj l8).symm
theorem r_acopy (hX : MC E y cc nL ret k mc ms tab X) {idx a0 a n0 n1 n : Nat} {rest : List Value} (d : decode cc pc = .ok (.invokestatic idx, 3)) (hw : InT (.methodLink y.cls idx arraycopyName) ∧ InT (.native arraycopyName) ∧ InT (.static arraycopyName) ∧ InT (.initialized "java/lang/System"))
    (ha0 : gAt g a0 (.inr (2, n0))) (ha : gAt g a (.inr (2, n1))) (hn : n ≤ n0 ∧ n ≤ n1 ∧ n < 2 ^ 31) (hfit : ∀ i, i < n → fits .byte (.int (m.1 a0 i)) = true) (hk : 1 ≤ k ∧ l.length = nL ∧ (rest.map fun v => v.category).sum + (nativeFrameWords "java/lang/System" "arraycopy" 5 + 11) ≤ 64 * k)
    (kk : WS E X cN sN Q g (fun b j => if b = a ∧ j < n then m.1 a0 j else m.1 b j, m.2) (pc + 3) l rest) : WS E X cN sN Q g m pc l (.int (nI n) :: .int 0 :: .ref a :: .int 0 :: .ref a0 :: rest) := by
  intro H locs ls h1 h2 h3
  have hR := hX.rm
  obtain ⟨b0, e0⟩ := h1.2 a0 _ ha0
  obtain ⟨b1, e1⟩ := h1.2 a _ ha
  have e0 : H[a0]? = some (vp_cell (eC E 2) (n0, .inl (m.1 a0))) := e0
  have e1 : H[a]? = some (vp_cell (eC E 2) (n1, .inl (m.1 a))) := e1
  intro T hT Z
  obtain ⟨-, k0, hk0, cm0, hkk0⟩ := (hX.K.2 2 _ (qtys_get (eC E) (t := 2) (by decide))).1 n0 (fun j => .int (m.1 a0 j))
  obtain ⟨-, k1, hk1, cm1, hkk1⟩ := (hX.K.2 2 _ (qtys_get (eC E) (t := 2) (by decide))).1 n1 (fun j => .int (m.1 a j))
  have hc : (nI n).toNatClampNeg = n := nI_clamp hn.2.2
  have z0 : (0 : Int32).toNatClampNeg = 0 := by decide
  obtain ⟨vm', X', step⟩ := Z.arraycopy hX.x hX.own (hX.w hw.1 _) (hX.w hw.2.1 _) (hX.w hw.2.2.1 _) (hX.w hw.2.2.2 _) (src := a0) (dst := a) (cs := vp_cell (eC E 2) (n0, .inl (m.1 a0))) (cd := vp_cell (eC E 2) (n1, .inl (m.1 a))) (srcPos := 0) (destPos := 0) (n := nI n) (by rw [hT]; exact e0) (by rw [hT]; exact e1)
    (fun _ h => by cases h) (fun _ h => by cases h) (fun h => by cases h) (fun h => by cases h) hk0 hk1 hkk0 hkk1 (by show ((refKind .byte != refKind .byte) || (!refKind .byte && ((FieldType.byte) != .byte))) = false; decide) (by decide) (by decide) (nI_pos hn.2.2)
    (by rw [nI_toInt hn.2.2]; show ¬ (0 : Int) + _ > ((arrV (eC E 2) n0 (fun j => .int (m.1 a0 j))).slots.size : Int); rw [arrV_size]; omega)
    (by rw [nI_toInt hn.2.2]; show ¬ (0 : Int) + _ > ((arrV (eC E 2) n1 (fun j => .int (m.1 a j))).slots.size : Int); rw [arrV_size]; omega)
    (fun vm1 _ i hi => by
      rw [hc] at hi
      have e : (vp_cell (eC E 2) (n0, .inl (m.1 a0))).slots.getD ((0 : Int32).toNatClampNeg + i) .null = .int (m.1 a0 i) := by
        show (arrV (eC E 2) n0 (fun j => .int (m.1 a0 j))).slots.getD _ _ = _
        rw [z0, Nat.zero_add, Array.getD_eq_getD_getElem?, arrV_read _ _ (by omega)]
        rfl
      rw [e]
      exact ⟨hfit i hi, trivial⟩)
    (g := F0 (xM X) pc ls (.int (nI n) :: .int 0 :: .ref a :: .int 0 :: .ref a0 :: rest)) rfl (by show ls.size = _; rw [hX.ml, ← hk.2.1]; exact h3.1) (rest := rest) rfl (by rw [hX.b]; exact d) (by rw [hR]; exact hk.1) (by rw [hR]; show 2 * 0 + _ + _ ≤ 64 * k; have := hk.2.2; omega)
  have e2 : copied (vp_cell (eC E 2) (n0, .inl (m.1 a0))) (vp_cell (eC E 2) (n1, .inl (m.1 a))) 0 0 (nI n) = vp_cell (eC E 2) (n1, .inl (va_cpy (m.1 a0) (m.1 a) 0 0 n)) := by
    show (arrV (eC E 2) n1 (fun j => .int (m.1 a j))).storeRun (0 : Int32).toNatClampNeg ((arrV (eC E 2) n0 (fun j => .int (m.1 a0 j))).stretch (0 : Int32).toNatClampNeg (nI n).toNatClampNeg) = _
    rw [z0, hc]
    exact va_copied (fun z => .int z) (eC E 2) (eC E 2) (m.1 a0) (m.1 a) (by omega)
  rw [e2] at X' step
  have hl : a < H.size := (Array.getElem?_eq_some_iff.mp e1).1
  have hheap : ((T.setVm vm').setCell a (vp_cell (eC E 2) (n1, .inl (va_cpy (m.1 a0) (m.1 a) 0 0 n)))).heap = H.setIfInBounds a (vp_cell (eC E 2) (n1, .inl (va_cpy (m.1 a0) (m.1 a) 0 0 n))) := by rw [← hT]; rfl
  have oq : ∀ q : Nat, q ≠ a → (H.setIfInBounds a (vp_cell (eC E 2) (n1, .inl (va_cpy (m.1 a0) (m.1 a) 0 0 n))))[q]? = H[q]? := fun q hq => by simp [Array.getElem?_setIfInBounds, Ne.symm hq]
  have e7 : va_cpy (m.1 a0) (m.1 a) 0 0 n = fun j => if a = a ∧ j < n then m.1 a0 j else m.1 a j := by
    funext j
    unfold va_cpy
    simp
  have e8 : (H.setIfInBounds a (vp_cell (eC E 2) (n1, .inl (va_cpy (m.1 a0) (m.1 a) 0 0 n))))[a]? = some (vp_cell (eC E 2) (n1, qrow 2 ((fun b j => if b = a ∧ j < n then m.1 a0 j else m.1 b j, m.2) : qM) a)) := by
    rw [e7]
    rw [Array.getElem?_setIfInBounds, if_pos rfl, if_pos hl]
    rfl
  obtain ⟨t, a1, b2⟩ := kk (H.setIfInBounds a (vp_cell (eC E 2) (n1, .inl (va_cpy (m.1 a0) (m.1 a) 0 0 n)))) _ ls (h1.A ha (by simp) oq e8 (fun q sh e => by
      have e5 : (fun j => if q = a ∧ j < n then m.1 a0 j else m.1 q j) = m.1 q := by funext i; simp [e]
      rcases sh with s1 | s1 <;> simp only [qe, qrow, e5]))
    ⟨by simp; exact h2.1, fun q g1 g2 => by
      rw [oq q (fun e => g2 (by rw [e]; exact b1))]
      exact h2.2.1 q g1 g2, fun q hq => by
      rcases List.mem_append.mp hq with h | h
      · exact h2.2.2 q h
      · obtain ⟨z, -, hz⟩ := List.mem_map.mp h
        rw [← hz]
        exact b1⟩ h3 _ hheap X'
  exact ⟨t, step t a1, b2⟩
end WD
