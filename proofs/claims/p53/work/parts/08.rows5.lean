/-! ===== throws and catches; Math ===== -/
/-- the static facts of 'throw new cls("text")' -/
def TH (own : String) (ik ic is si : Nat) (cls text : String) (names : List String) : Prop := Bundle.fit cls = true ∧ (∀ n ∈ names, Bundle.fit n = true) ∧ InT (.classLink own ik cls) ∧ InT (.initialized cls) ∧ (∀ w ∈ vx_atS own ic cls names, InT w) ∧ (∀ w ∈ Cond.classLink own ik cls :: Cond.initialized cls :: vx_atS own ic cls names, vx_ot w = true) ∧ qstr[si]? = some (own, is, text) ∧ names.length ≤ 4
def MLIN (own : String) (idx : Nat) (y : MethodName) (cc : ByteArray) (nL : Nat) (n : Nat) (host : String) : Prop := ML own idx y cc nL none n ∧ InT (.methodLinkNest own idx y host) ∧ InT (.instanceMethod y) ∧ y.name = "<init>"
section WT
variable {E : qE} {y : MethodName} {cc : ByteArray} {nL : Nat} {ret : Option FieldType} {k mc ms : Nat} {tab : List ExceptionTableEntry} {X : qX} {cN sN : Nat} {Q : State → Prop} {g : qG} {m : qM} {pc : Nat} {l : List (Option Value)} {st : List Value}
variable {post : Option Value → qG → qM → Prop} {postX : String → qG → qM → Prop}
theorem q_thrown {H : Heap} {locs : List Loc} (h1 : Pict E g m H) (h2 : va_S (qA E) (xS X).heap H locs) {cls : String} (hp : ∀ n, g.2 ≤ n → postX cls (g.1, n) m) : ∀ t : State, (xS X).vm.Alike t.vm → H.size ≤ t.heap.size → (∀ q : Nat, q < H.size → t.heap[q]? = H[q]?) → XQ E postX cls (xS X) t := fun t _ hz ho =>
  ⟨⟨(g.1, t.heap.size), m, hp _ (by rw [← h1.1]; exact hz), rfl, fun a sh ha => ⟨(h1.2 a sh ha).1, (h1.2 a sh ha).2.kept (ho a (h1.2 a sh ha).2.lt)⟩⟩, Nat.le_trans h2.1 hz, fun q a1 a2 => (ho q (Nat.lt_of_lt_of_le a1 h2.1)).trans (h2.2.1 q a1 a2)⟩
theorem r_throwS (hX : MC E y cc nL ret k mc ms [] X) {ik ic is si : Nat} {cls text : String} {names : List String} (d0 : decode cc pc = .ok (.new ik, 3)) (d3 : decode cc (pc + 3) = .ok (.dup, 1)) (d4 : decode cc (pc + 4) = .ok (.ldc is, 2)) (d6 : decode cc (pc + 6) = .ok (.invokespecial ic, 3)) (d9 : decode cc (pc + 9) = .ok (.athrow, 1))
    (ht : TH y.cls ik ic is si cls text names) (hk : 8 ≤ k ∧ l.length = nL ∧ (st.map fun v => v.category).sum ≤ 8) (hc : cN + 1 ≤ mc ∧ sN + 6 ≤ ms) (hp : ∀ n, g.2 ≤ n → postX cls (g.1, n) m) : WS E X cN sN (RQX E X post postX mc ms) g m pc l st := by
  intro H locs ls h1 h2 h3
  obtain ⟨t1, t2, t3, t4, t5, t6, t7, t8⟩ := ht
  have hR := hX.rm
  refine vx_throwS hX.x hX.b hX.ev.1 hX.own t1 t2 (hX.w t3 _) (hX.w t4 _) (hX.ev.2.2.2.1 si _ t7) (fun w hw => hX.w (t5 w hw) _) t6 hX.eh.2.1 hX.eh.2.2.1 h2 (by rw [hX.ml, ← hk.2.1]; exact h3.1) d0 d3 d4 d6 d9 (fun x hx => by rw [hX.tb] at hx; cases hx) ?_ ?_ ?_ ?_ hX.lk (q_thrown h1 h2 hp) h2.2.2 hc.1 hc.2
  · rw [hR]; show _ < k; omega
  · rw [hR]; show _ ≤ 64 * k; omega
  · rw [hR]; exact hc.1
  · rw [hR]; exact hc.2
theorem r_throwSW (hX : MC E y cc nL ret k mc ms [] X) {ik ic is si : Nat} {cls text : String} {names : List String} (d0 : decode cc pc = .ok (.new ik, 3)) (d3 : decode cc (pc + 3) = .ok (.dup, 1)) (d4 : decode cc (pc + 4) = .ok (.ldc_w is, 3)) (d6 : decode cc (pc + 7) = .ok (.invokespecial ic, 3)) (d9 : decode cc (pc + 10) = .ok (.athrow, 1))
    (ht : TH y.cls ik ic is si cls text names) (hk : 8 ≤ k ∧ l.length = nL ∧ (st.map fun v => v.category).sum ≤ 8) (hc : cN + 1 ≤ mc ∧ sN + 6 ≤ ms) (hp : ∀ n, g.2 ≤ n → postX cls (g.1, n) m) : WS E X cN sN (RQX E X post postX mc ms) g m pc l st := by
  intro H locs ls h1 h2 h3
  obtain ⟨t1, t2, t3, t4, t5, t6, t7, t8⟩ := ht
  have hR := hX.rm
  refine vx_throwSW hX.x hX.b hX.ev.1 hX.own t1 t2 (hX.w t3 _) (hX.w t4 _) (hX.ev.2.2.2.1 si _ t7) (fun w hw => hX.w (t5 w hw) _) t6 hX.eh.2.1 hX.eh.2.2.1 h2 (by rw [hX.ml, ← hk.2.1]; exact h3.1) d0 d3 d4 d6 d9 (fun x hx => by rw [hX.tb] at hx; cases hx) ?_ ?_ ?_ ?_ hX.lk (q_thrown h1 h2 hp) h2.2.2 hc.1 hc.2
  · rw [hR]; show _ < k; omega
  · rw [hR]; show _ ≤ 64 * k; omega
  · rw [hR]; exact hc.1
  · rw [hR]; exact hc.2
/-- an exception of the class nm stands over this frame -/
def WX (E : qE) (X : qX) (cN sN : Nat) (Q : State → Prop) (g : qG) (m : qM) (pc : Nat) (l : List (Option Value)) (nm : String) : Prop :=
  ∀ (H : Heap) (locs : List Loc) (ls : Array Slot) (rest : List Value) (q : Addr) (ce : Cell), Pict E g m H → va_S (qA E) (xS X).heap H locs → lv_has ls l.length (ql l 0) → H[q]? = some ce → ce.vm = .none → (xS X).vm.findClass nm = some ce.cls →
    vx_W (xP X) (eL E) (xE X) (xR X) (xS X) (xM X) (xA X) (xB X) (xH X) (xC X) H locs cN sN Q (F0 (xM X) pc ls rest) q
theorem q_callX {H : Heap} {locs : List Loc} {ls : Array Slot} {a : Array Value} {mc' ms' : Nat} {rest : List Value} {post' : Option Value → qG → qM → Prop} {postX' : String → qG → qM → Prop}
    (hr : vx_Run (xP X) (eL E) (xE X) (xR X) (xS X) (xM X) (xA X) (xB X) (xH X) (xC X) H locs cN sN mc' ms' (F0 (xM X) pc ls st) rest (QC E post' a) (XQ E postX') (qA E)) (h2 : va_S (qA E) (xS X).heap H locs) (h3 : lv_has ls l.length (ql l 0))
    (kk : ∀ (v : Option Value) (g' : qG) (m' : qM), post' v g' m' → WS E X (cN + mc') (sN + ms') Q g' m' (pc + 3) l (v.toList ++ rest))
    (kx : ∀ (nm : String) (g' : qG) (m' : qM), postX' nm g' m' → WX E X (cN + mc') (sN + ms') Q g' m' pc l nm) : W (xP X) (eL E) (xE X) (xR X) (xS X) (xM X) (xA X) (xB X) (xH X) (xC X) H locs cN sN Q (F0 (xM X) pc ls st) := by
  intro T hT Z
  rcases hr T hT Z with ⟨v9, st₀, t, T', L, h0, X', hL, e1, e2, ⟨⟨v, g', m', hv, hp, hP⟩, hF⟩, stp⟩ | ⟨q, st₀, t, T', L, nm, ce, h0, X', hL, e1, e2, ⟨⟨g', m', hp, hP⟩, hF⟩, hce, hcv, hcl, stp⟩
  · cases hv
    obtain ⟨k1, k2, k3⟩ := vx_keep h0 e1 h2 (fun q _ h => h) (fun q h => h) hL hF
    obtain ⟨t2, a1, b1⟩ := kk v9 g' m' hp T'.heap (locs ++ L) ls (by rw [e1]; exact hP) k3 h3 T' rfl X'
    exact ⟨t2, stp t2 a1, b1⟩
  · obtain ⟨k1, k2, k3⟩ := vx_keep h0 e1 h2 (fun q _ h => h) (fun q h => h) hL hF
    obtain ⟨t2, a1, b1⟩ := kx nm g' m' hp T'.heap (locs ++ L) ls rest q ce (by rw [e1]; exact hP) k3 h3 (by rw [e1]; exact hce) hcv hcl T' rfl X'
    exact ⟨t2, stp.trans a1, b1⟩
theorem r_callVX (hX : MC E y cc nL ret k mc ms tab X) {idx n k' mc' ms' nL' b c : Nat} {y' : MethodName} {cc' : ByteArray} {ret' : Option FieldType} {As rest : List Value} {post' : Option Value → qG → qM → Prop} {postX' : String → qG → qM → Prop} (d : decode cc pc = .ok (.invokevirtual idx, 3))
    (hM : SpX E y' cc' nL' ret' k' mc' ms' (.ref b :: As) g m post' postX') (hl : MLV y.cls idx y' cc' nL' ret' n) (hlk : InT (.methodLink y.cls idx y')) (hn : As.length = n) (hst : st = As.reverse ++ .ref b :: rest) (hb : gAt g b (.inl c)) (hc : qCls c = some y'.cls)
    (hk : k' + 1 ≤ k ∧ nL' ≤ 45) (hr : cN + mc' ≤ mc ∧ sN + ms' ≤ ms ∧ l.length = nL ∧ (rest.map fun v => v.category).sum ≤ 8)
    (kk : ∀ (v : Option Value) (g' : qG) (m' : qM), post' v g' m' → WS E X (cN + mc') (sN + ms') Q g' m' (pc + 3) l (v.toList ++ rest))
    (kx : ∀ (nm : String) (g' : qG) (m' : qM), postX' nm g' m' → WX E X (cN + mc') (sN + ms') Q g' m' pc l nm) : WS E X cN sN Q g m pc l st := by
  intro H locs ls h1 h2 h3
  have hR := hX.rm
  have hp : PreV (xS X) H y'.cls b (qPc E (.ref b :: As) g m) As := ⟨qPc_blind _ _ _ _, q_recv hX h1 hb hc, q_pre hX h1 h2⟩
  exact q_callX (vx_runV (q_fix hX) hM ⟨q_cb hX hl.1 hlk hk, hX.w hl.2.1 _, hX.w hl.2.2 _⟩ hp rfl hn (by rw [← hr.2.2.1]; exact h3.1) hst (lv_room hr.2.2.2) d (by rw [hR]; exact ⟨hr.1, hr.2.1⟩)) h2 h3 kk kx
/-- it goes on to the caller -/
theorem r_out (hX : MC E y cc nL ret k mc ms [] X) {nm : String} (hp : postX nm g m) (hc : cN ≤ mc ∧ sN ≤ ms) : WX E X cN sN (RQX E X post postX mc ms) g m pc l nm := fun H locs ls rest q ce h1 h2 h3 h4 h5 h6 =>
  vx_out (fun x hx => by rw [hX.tb] at hx; cases hx) hX.lk h4 h5 h6 (fun t ht _ => ⟨⟨g, m, hp, by rw [ht]; exact h1⟩, h2.F ht⟩) h2.2.2 hc.1 hc.2
/-- caught here -/
theorem r_catch (hX : MC E y cc nL ret k mc ms tab X) {nm name : String} (pre : List ExceptionTableEntry) (x : ExceptionTableEntry) (suf : List ExceptionTableEntry) (hsplit : tab = pre ++ x :: suf)
    (hpass : ∀ z ∈ pre, z.catchType ≠ 0 ∧ ∃ n9 : String, InT (.classLink y.cls z.catchType n9) ∧ (nm, n9) ∈ qnc) (hx : covers x pc = true) (h0 : x.catchType ≠ 0)
    (hlink : InT (.classLink y.cls x.catchType name)) (hcast : InT (.castable nm name)) (kk : ∀ q : Addr, WS E X cN sN Q g m x.handlerPc l [.ref q]) : WX E X cN sN Q g m pc l nm := fun H locs ls rest q ce h1 h2 h3 h4 h5 h6 =>
  vx_catch hX.own pre x suf (by rw [hX.tb]; exact hsplit) (fun z hz => by
    obtain ⟨a1, n9, a2, a3⟩ := hpass z hz
    exact Or.inr ⟨a1, n9, hX.w a2 _, hX.ev.2.2.2.2 _ a3⟩) hx h0 (hX.w hlink _) (hX.w hcast _) h4 h5 h6 (kk q H locs ls h1 h2 h3)
/-- the contract of a static method with a table of handlers -/
def SpH (E : qE) (y : MethodName) (cc : ByteArray) (nL : Nat) (ret : Option FieldType) (hh : List (Nat × Nat × Nat × Nat)) (k mc ms : Nat) (av : List Value) (g : qG) (m : qM) (post : Option Value → qG → qM → Prop) : Prop :=
  vx_Met (eL E) y [.codeWith y cc nL ret hh] (qRm k mc ms) (qPc E av g m) (QC E post) (XQ E (fun _ _ _ => False)) mc ms (qA E)
theorem SpH.of {hh : List (Nat × Nat × Nat × Nat)} {av : List Value}
    (hy : plainName y.cls = true) (l0 : List (Option Value)) (hl0 : ql l0 0 = lv_args 0 av) (hn : l0.length = nL) (hz : (lg_sl av).length ≤ nL)
    (body : ∀ X : qX, MC E y cc nL ret k mc ms (tableOf hh) X → WS E X 0 0 (RQX E X post (fun _ _ _ => False) mc ms) g m 0 l0 []) : SpH E y cc nL ret hh k mc ms av g m post := by
  refine vx_ofWH (cc := cc) (maxL := nL) (ret := ret) (hh := hh) hy rfl ?_
  intro p e s mi args below meth c s₁ B hml hv
  obtain ⟨rfl, hev, heh, hP⟩ := hv
  have ht : c.exceptionTable.toList = tableOf hh := vx_table (x := y) B (atoms_spec (ws := [.codeWith y cc nL ret hh]) B.pre _ List.mem_cons_self)
  have hl := lv_entry av (n := nL) hz
  rw [lg_entry_eq]
  generalize (lg_sl av ++ List.replicate (nL - (lg_sl av).length) Slot.unset).toArray = ls at hl ⊢
  rw [← hl0] at hl
  have hX : MC E y cc nL ret k mc ms (tableOf hh) (p, e, qRm k mc ms, s, mi, av.toArray, below, meth, c) :=
    ⟨B.exec, B.bytes, hml, findClass_of_methodNamed B.named, B.notSynchronized, B.returns, rfl, (name_of_methodNamed B.named B.method).1, hev, heh, ht⟩
  exact body _ hX s.heap [] ls hP va_S.rf (by rw [hn]; exact hl)
def MLH (own : String) (idx : Nat) (y : MethodName) (cc : ByteArray) (nL : Nat) (ret : Option FieldType) (hh : List (Nat × Nat × Nat × Nat)) (n : Nat) : Prop := InT (.methodLink own idx y) ∧ InT (.codeWith y cc nL ret hh) ∧ InT (.initialized y.cls) ∧ (y.cls ≠ "java/lang/invoke/MethodHandle" ∧ y.cls ≠ "java/lang/invoke/VarHandle") ∧ (parseMethodDescriptor y.desc).map (fun d => d.parameters.length) = some n ∧ InT (.static y)
theorem r_callH (hX : MC E y cc nL ret k mc ms tab X) {idx n k' mc' ms' nL' : Nat} {y' : MethodName} {cc' : ByteArray} {ret' : Option FieldType} {hh : List (Nat × Nat × Nat × Nat)} {As rest : List Value} {post' : Option Value → qG → qM → Prop} (d : decode cc pc = .ok (.invokestatic idx, 3))
    (hM : SpH E y' cc' nL' ret' hh k' mc' ms' As g m post') (hl : MLH y.cls idx y' cc' nL' ret' hh n) (hn : As.length = n) (hst : st = As.reverse ++ rest)
    (hk : k' + 1 ≤ k ∧ nL' ≤ 45) (hr : cN + mc' ≤ mc ∧ sN + ms' ≤ ms ∧ l.length = nL ∧ (rest.map fun v => v.category).sum ≤ 8)
    (kk : ∀ (v : Option Value) (g' : qG) (m' : qM), post' v g' m' → WS E X (cN + mc') (sN + ms') Q g' m' (pc + 3) l (v.toList ++ rest)) : WS E X cN sN Q g m pc l st := by
  intro H locs ls h1 h2 h3
  have hR := hX.rm
  have hp : PreS (xS X) H (qPc E As g m) As := ⟨qPc_blind _ _ _ _, q_pre hX h1 h2⟩
  obtain ⟨hlk, hc, hi, hy, hd, hs⟩ := hl
  have cw : vx_CSW (xR X) (xS X) (xA X) y.cls idx y' cc' nL' ret' hh [.codeWith y' cc' nL' ret' hh] (qRm k' mc' ms') mc' ms' n := by
    refine ⟨⟨rfl, rfl, by rw [hR]; exact hk.1, by rw [hR]; show 8 + (nL' + 11) + 64 * k' ≤ 64 * k; omega, ?_, List.mem_cons_self⟩, hX.w hc _, hX.w hi _, hy, fun sig h => ?_, hX.w hlk _, hX.w hs _⟩
    · intro w hw a' U hW
      rw [List.mem_singleton.mp hw]
      exact good2_at hW hc.2 (hX.w hc #[])
    · rw [h] at hd
      exact (Option.some.inj hd).symm
  exact q_callX (vx_runSX (q_fix hX) hM cw hp rfl hn (by rw [← hr.2.2.1]; exact h3.1) hst (lv_room hr.2.2.2) d (by rw [hR]; exact ⟨hr.1, hr.2.1⟩)) h2 h3 kk (fun nm g' m' h => h.elim)
theorem r_callIN (hX : MC E y cc nL ret k mc ms tab X) {idx n k' mc' ms' nL' b : Nat} {host : String} {y' : MethodName} {cc' : ByteArray} {As rest : List Value} {post' : Option Value → qG → qM → Prop} (d : decode cc pc = .ok (.invokespecial idx, 3))
    (hM : Sp E y' cc' nL' none k' mc' ms' (.ref b :: As) g m post') (hl : MLIN y.cls idx y' cc' nL' n host) (hn : As.length = n) (hst : st = As.reverse ++ .ref b :: rest)
    (hk : k' + 1 ≤ k ∧ nL' ≤ 45) (hr : cN + mc' ≤ mc ∧ sN + ms' ≤ ms ∧ l.length = nL ∧ (rest.map fun v => v.category).sum ≤ 8)
    (kk : ∀ (v : Option Value) (g' : qG) (m' : qM), post' v g' m' → WS E X (cN + mc') (sN + ms') Q g' m' (pc + 3) l (v.toList ++ rest)) : WS E X cN sN Q g m pc l st := by
  intro H locs ls h1 h2 h3
  have hR := hX.rm
  have hp : PreS (xS X) H (qPc E (.ref b :: As) g m) (.ref b :: As) := ⟨qPc_blind _ _ _ _, q_pre hX h1 h2⟩
  exact q_call (va_runIN (q_fix hX) hM ⟨q_cn hX hl.1 hl.2.1 hk, hl.2.2.2, hX.w hl.2.2.1 _⟩ hp rfl hn (by rw [← hr.2.2.1]; exact h3.1) hst (lv_room hr.2.2.2) d (by rw [hR]; exact ⟨hr.1, hr.2.1⟩)) h2 h3 kk
/-! Math.min, max, abs -/
def MM (own : String) (idx : Nat) (y : MethodName) (cc : ByteArray) (nL : Nat) : Prop := InT (.methodLink own idx y) ∧ InT (.static y) ∧ InT (.initialized "java/lang/Math") ∧ InT (.code y cc nL (some .int))
theorem r_mmin (hX : MC E y cc nL ret k mc ms tab X) {idx : Nat} {x y1 : Int32} (d : decode cc pc = .ok (.invokestatic idx, 3)) (hm : MM y.cls idx Lib.Math.min.name Lib.Math.min.code 2) (hk : 1 ≤ k ∧ l.length = nL ∧ (st.map fun v => v.category).sum ≤ 8) (hc : cN ≤ mc ∧ sN ≤ ms)
    (kk : WS E X cN sN Q g m (pc + 3) l (.int (if y1 < x then y1 else x) :: st)) : WS E X cN sN Q g m pc l (.int y1 :: .int x :: st) := fun H locs ls h1 h2 h3 =>
  va_mmin hX.x hX.b (by rw [hX.ml, ← hk.2.1]; exact h3.1.symm) hX.own (hX.w hm.1 _) (hX.w hm.2.1 _) (hX.w hm.2.2.1 _) (hX.w hm.2.2.2 _) (by rw [hX.rm]; exact hk.1) (by rw [hX.rm]; show _ ≤ 64 * k; omega) (by rw [hX.rm]; exact hc.1) (by rw [hX.rm]; exact hc.2) d (kk H locs ls h1 h2 h3)
theorem r_mmax (hX : MC E y cc nL ret k mc ms tab X) {idx : Nat} {x y1 : Int32} (d : decode cc pc = .ok (.invokestatic idx, 3)) (hm : MM y.cls idx Lib.Math.max.name Lib.Math.max.code 2) (hk : 1 ≤ k ∧ l.length = nL ∧ (st.map fun v => v.category).sum ≤ 8) (hc : cN ≤ mc ∧ sN ≤ ms)
    (kk : WS E X cN sN Q g m (pc + 3) l (.int (if x < y1 then y1 else x) :: st)) : WS E X cN sN Q g m pc l (.int y1 :: .int x :: st) := fun H locs ls h1 h2 h3 =>
  va_mmax hX.x hX.b (by rw [hX.ml, ← hk.2.1]; exact h3.1.symm) hX.own (hX.w hm.1 _) (hX.w hm.2.1 _) (hX.w hm.2.2.1 _) (hX.w hm.2.2.2 _) (by rw [hX.rm]; exact hk.1) (by rw [hX.rm]; show _ ≤ 64 * k; omega) (by rw [hX.rm]; exact hc.1) (by rw [hX.rm]; exact hc.2) d (kk H locs ls h1 h2 h3)
theorem r_mabs (hX : MC E y cc nL ret k mc ms tab X) {idx : Nat} {x : Int32} (d : decode cc pc = .ok (.invokestatic idx, 3)) (hm : MM y.cls idx Lib.Math.abs.name Lib.Math.abs.code 1) (hk : 1 ≤ k ∧ l.length = nL ∧ (st.map fun v => v.category).sum ≤ 8) (hc : cN ≤ mc ∧ sN ≤ ms)
    (kk : WS E X cN sN Q g m (pc + 3) l (.int (if 0 ≤ x then x else 0 - x) :: st)) : WS E X cN sN Q g m pc l (.int x :: st) := fun H locs ls h1 h2 h3 =>
  va_mabs hX.x hX.b (by rw [hX.ml, ← hk.2.1]; exact h3.1.symm) hX.own (hX.w hm.1 _) (hX.w hm.2.1 _) (hX.w hm.2.2.1 _) (hX.w hm.2.2.2 _) (by rw [hX.rm]; exact hk.1) (by rw [hX.rm]; show _ ≤ 64 * k; omega) (by rw [hX.rm]; exact hc.1) (by rw [hX.rm]; exact hc.2) d (kk H locs ls h1 h2 h3)
end WT
