/-! ===== new cells, calls, answers, throws ===== -/
/-- nothing is held at a -/
def wZ (m : qM) (a : Nat) : qM := (fun b j => if b = a then 0 else m.1 b j, fun b j => if b = a then none else m.2.1 b j, fun b j => if b = a then 0 else m.2.2.1 b j, fun b j => if b = a then 0 else m.2.2.2 b j)
theorem qI_wZ_s (m : qM) (a j : Nat) : qI (wZ m a) a j = 0 := if_pos rfl
theorem qI_wZ_a (m : qM) {a b : Nat} (j : Nat) (h : b ≠ a) : qI (wZ m a) b j = qI m b j := if_neg h
theorem qR_wZ_s (m : qM) (a j : Nat) : qR (wZ m a) a j = none := if_pos rfl
theorem qR_wZ_a (m : qM) {a b : Nat} (j : Nat) (h : b ≠ a) : qR (wZ m a) b j = qR m b j := if_neg h
def gNew (g : qG) (sh : qSh) : qG := (fun q => if q = g.2 then some sh else g.1 q, g.2 + 1)
theorem gNew_at (g : qG) (sh : qSh) : gAt (gNew g sh) g.2 sh := if_pos rfl
theorem gNew_old {g : qG} {a : Nat} {sh sh' : qSh} (h : gAt g a sh') (ha : a < g.2) : gAt (gNew g sh) a sh' := (if_neg (Nat.ne_of_lt ha)).trans h
theorem qe_wZ {cy : Nat → ClassId} {m : qM} {a : Nat} {q : Nat} {sh : qSh} (e : q ≠ a) : qe cy sh (wZ m a) q = qe cy sh m q := by
  have e1 : (wZ m a).1 q = m.1 q := by funext i; simp [wZ, e]
  have e2 : (wZ m a).2.1 q = m.2.1 q := by funext i; simp [wZ, e]
  have e3 : (wZ m a).2.2.1 q = m.2.2.1 q := by funext i; simp [wZ, e]
  have e4 : (wZ m a).2.2.2 q = m.2.2.2 q := by funext i; simp [wZ, e]
  rcases sh with s1 | s1 <;> simp only [qe, qrow, e1, e2, e3, e4]
theorem Pict.new {E : qE} {g : qG} {m : qM} {H H1 : Heap} {sh : qSh} (hP : Pict E g m H) (hb : qA E g.2) (hz : H1.size = H.size + 1) (ho : ∀ q : Nat, q < H.size → H1[q]? = H[q]?) (hn : va_at (eK E) vwCl (g.2, qe (eC E) sh (wZ m g.2) g.2) H1) : Pict E (gNew g sh) (wZ m g.2) H1 := by
  refine ⟨by rw [hz, hP.1]; rfl, fun q sh' hq => ?_⟩
  by_cases e : q = g.2
  · subst e
    have : sh' = sh := Option.some.inj (hq.symm.trans (if_pos rfl))
    subst this
    exact ⟨hb, hn⟩
  · have hq' : g.1 q = some sh' := (if_neg e).symm.trans hq
    obtain ⟨h1, h2⟩ := hP.2 q sh' hq'
    refine ⟨h1, ?_⟩
    rw [qe_wZ e]
    exact h2.kept (ho q h2.lt)
/-- the static facts of a class that is made at 'idx' of the code of 'own' -/
def NL (own : String) (idx c n : Nat) : Prop := ∃ (r : vw_C) (ty0 : Nat → FieldType), vwCl[c]? = some r ∧ r.2.2 = n ∧ (qF c).length = r.2.2 ∧ (∀ w ∈ u_ws r.1 r.2.1 r.2.2, InT w) ∧ InT (.classLink own idx r.1) ∧ InT (.instantiable r.1 r.2.2) ∧ InT (.initialized r.1) ∧ (∀ j, j < r.2.2 → parseFieldDescriptor (r.2.1 j).2.2.1 = some (ty0 j)) ∧ ∀ j, j < r.2.2 → defaultValue (ty0 j) = if (qF c)[j]? = some true then .null else .int 0
/-- the static facts of a call -/
def ML (own : String) (idx : Nat) (y : MethodName) (cc : ByteArray) (nL : Nat) (ret : Option FieldType) (n : Nat) : Prop := (InT (.methodLink own idx y) ∨ ∃ host, InT (.methodLinkNest own idx y host)) ∧ InT (.code y cc nL ret) ∧ InT (.initialized y.cls) ∧ (y.cls ≠ "java/lang/invoke/MethodHandle" ∧ y.cls ≠ "java/lang/invoke/VarHandle") ∧ (parseMethodDescriptor y.desc).map (fun d => d.parameters.length) = some n
def MLV (own : String) (idx : Nat) (y : MethodName) (cc : ByteArray) (nL : Nat) (ret : Option FieldType) (n : Nat) : Prop := ML own idx y cc nL ret n ∧ InT (.instanceMethod y) ∧ InT (.selects y.cls y y)
def MLS (own : String) (idx : Nat) (y : MethodName) (cc : ByteArray) (nL : Nat) (ret : Option FieldType) (n : Nat) : Prop := ML own idx y cc nL ret n ∧ InT (.static y)
def MLI (own : String) (idx : Nat) (y : MethodName) (cc : ByteArray) (nL : Nat) (n : Nat) : Prop := ML own idx y cc nL none n ∧ InT (.methodLink own idx y) ∧ InT (.instanceMethod y) ∧ y.name = "<init>"
section WC
variable {E : qE} {y : MethodName} {cc : ByteArray} {nL : Nat} {ret : Option FieldType} {k mc ms : Nat} {tab : List ExceptionTableEntry} {X : qX} {cN sN : Nat} {Q : State → Prop} {g : qG} {m : qM} {pc : Nat} {l : List (Option Value)} {st : List Value}
theorem qBase (hX : MC E y cc nL ret k mc ms tab X) {H : Heap} {locs : List Loc} (h1 : Pict E g m H) (h2 : va_S (qA E) (xS X).heap H locs) : qA E g.2 := hX.eh.1 g.2 (by rw [← h1.1]; exact h2.1)
theorem r_new (hX : MC E y cc nL ret k mc ms tab X) {idx c n : Nat} (d : decode cc pc = .ok (.new idx, 3)) (hn : NL y.cls idx c n) (hc : cN + 1 ≤ mc) (hs : sN + n ≤ ms) (kk : WS E X (cN + 1) (sN + n) Q (gNew g (.inl c)) (wZ m g.2) (pc + 3) l (.ref g.2 :: st)) : WS E X cN sN Q g m pc l st := by
  intro H locs ls h1 h2 h3
  obtain ⟨⟨C, T, N⟩, ty0, hcl, hN, hlen, hws, hlink, hins, hini, hty, hdf⟩ := hn
  have hN : N = n := hN
  subst hN
  have hR := hX.rm
  have hKn := hX.K.1 c _ hcl
  refine W.newcK (n := N) hX.x hX.b hX.own (hX.w hlink _) (hX.w hins _) (hX.w hini _) rfl d (by rw [hR]; exact hc) (by rw [hR]; exact hs) hKn.2.1 rfl fun H1 kC hkC e1 z1 o1 => ?_
  have hb := qBase hX h1 h2
  have hsz : H.size = g.2 := h1.1
  rw [hsz]
  refine kk H1 locs ls (h1.new hb z1 o1 ⟨_, hcl, ?_⟩) ⟨Nat.le_trans h2.1 (by omega), fun x a1 a2 => (o1 x (Nat.lt_of_lt_of_le a1 h2.1)).trans (h2.2.1 x a1 a2), h2.2.2⟩ h3
  refine (u_born (ws := u_ws C T N) (args := #[]) ty0 (fun w hw => hX.w (hws w hw) #[]) (fun w hw => hw) hKn hkC (by rw [← hsz]; exact e1) hty).to (fun j hj => ?_)
  have hj2 : j < (qF c).length := by rw [hlen]; exact hj
  have hbj : (qF c)[j]? = some (qF c)[j] := List.getElem?_eq_getElem hj2
  show defaultValue (ty0 j) = vp_V (qfs ((wZ m g.2).1 g.2) ((wZ m g.2).2.1 g.2) (qF c) 0) j
  rw [hdf j hj, qfs_V _ _ _ _ j _ hbj, hbj]
  cases hB : (qF c)[j] <;> simp [wZ, va_rf]
theorem r_newa (hX : MC E y cc nL ret k mc ms tab X) {t n : Nat} {at9 : ArrayType} {v : Int32} (d : decode cc pc = .ok (.newarray at9, 2)) (hw : InT (.arrayClass (newarray.typeOf at9))) (ht : t < 3 ∧ newarray.typeOf at9 = qTy t) (hv : ¬ v < 0 ∧ v.toNatClampNeg = n ∧ n * 8 ≤ 536870912) (hc : cN + 1 ≤ mc) (hs : sN + n ≤ ms)
    (kk : WS E X (cN + 1) (sN + n) Q (gNew g (.inr (t, n))) (wZ m g.2) (pc + 2) l (.ref g.2 :: st)) : WS E X cN sN Q g m pc l (.int v :: st) := by
  intro H locs ls h1 h2 h3
  have hR := hX.rm
  obtain ⟨ht5, hty⟩ := ht
  have hcb : componentBytes (newarray.typeOf at9) ≤ 8 := by cases at9 <;> decide
  refine va_newaK hX.x hX.b (hX.w hw _) rfl d rfl hv.1 hv.2.1 (Nat.le_trans (Nat.mul_le_mul_left n hcb) hv.2.2) (by rw [hR]; exact hc) (by rw [hR]; exact hs) rfl fun H1 cA e1 z1 o1 hAr hNm => ?_
  have hb := qBase hX h1 h2
  have hsz : H.size = g.2 := h1.1
  have hcA : cA = eC E t := by
    have h9 := (hX.K.2 t _ (qtys_get (eC E) (t := t) (by omega))).2
    have h8 : (xS X).vm.findClass ("[" ++ (qTy t).toString) = some (eC E t) := by
      rcases t with _ | _ | _ | t
      all_goals first | exact h9 | omega
    rw [hty] at hNm
    exact Option.some.inj (hNm.symm.trans h8)
  rw [hsz]
  refine kk H1 locs ls (h1.new hb z1 o1 ?_) ⟨Nat.le_trans h2.1 (by omega), fun x a1 a2 => (o1 x (Nat.lt_of_lt_of_le a1 h2.1)).trans (h2.2.1 x a1 a2), h2.2.2⟩ h3
  show H1[g.2]? = some (vp_cell (eC E t) (n, qrow t (wZ m g.2) g.2))
  rw [← hsz, e1, hcA, hty]
  congr 1
  rcases t with _ | _ | _ | t
  · show _ = vp_cell _ (n, .inl _)
    rw [vp_cell_i]; simp [wZ, qTy, defaultValue]
  · show _ = vp_cell _ (n, .inl _)
    rw [vp_cell_i]; simp [wZ, qTy, defaultValue]
  · show _ = vp_cell _ (n, .inl _)
    rw [vp_cell_i]; simp [wZ, qTy, defaultValue]
  · omega
theorem r_anewa (hX : MC E y cc nL ret k mc ms tab X) {t n idx : Nat} {C : String} {v : Int32} (d : decode cc pc = .ok (.anewarray idx, 3)) (hw : InT (.classLink y.cls idx C) ∧ InT (.arrayOver (.object C))) (ht : t < 8 ∧ 4 < t ∧ qTy t = .object C) (hv : ¬ v < 0 ∧ v.toNatClampNeg = n ∧ n * 4 ≤ 536870912) (hc : cN + 1 ≤ mc) (hs : sN + n ≤ ms)
    (kk : WS E X (cN + 1) (sN + n) Q (gNew g (.inr (t, n))) (wZ m g.2) (pc + 3) l (.ref g.2 :: st)) : WS E X cN sN Q g m pc l (.int v :: st) := by
  intro H locs ls h1 h2 h3
  have hR := hX.rm
  obtain ⟨ht8, ht4, hty⟩ := ht
  obtain ⟨hv1, rfl, hv3⟩ := hv
  refine W.anew hX.x hX.b hX.own (hX.w hw.1 _) (hX.w hw.2 _) rfl d rfl hv1 hv3 (by rw [hR]; exact hc) (by rw [hR]; exact hs) fun cA kA comp f1 f2 f3 f4 => ?_
  generalize hH1 : H.push ({ cls := cA, slots := Array.replicate v.toNatClampNeg .null, vm := .none } : Cell) = H1
  have z1 : H1.size = H.size + 1 := by rw [← hH1, Array.size_push]
  have e1 : H1[H.size]? = some (arrV cA v.toNatClampNeg (fun _ => .null)) := by rw [← hH1, Array.getElem?_push_size, ← arrV_new]
  have o1 : ∀ q : Nat, q < H.size → H1[q]? = H[q]? := fun q hq => by rw [← hH1, Array.getElem?_push, if_neg (Nat.ne_of_lt hq)]
  have hb := qBase hX h1 h2
  have hsz : H.size = g.2 := h1.1
  have hcA : cA = eC E t := by
    have h9 := (hX.K.2 t _ (qtys_get (eC E) ht8)).2
    rw [hty] at h9
    obtain ⟨_, _, _, _, _, h8⟩ := h9
    exact Option.some.inj (f1.symm.trans h8)
  rw [hsz]
  refine kk H1 locs ls (h1.new hb z1 o1 ?_) ⟨Nat.le_trans h2.1 (by omega), fun x a1 a2 => (o1 x (Nat.lt_of_lt_of_le a1 h2.1)).trans (h2.2.1 x a1 a2), h2.2.2⟩ h3
  show H1[g.2]? = some (vp_cell (eC E t) (v.toNatClampNeg, qrow t (wZ m g.2) g.2))
  rw [← hsz, e1, hcA]
  have hq : qrow t (wZ m H.size) H.size = .inr (.inr (.inr (.inr ((wZ m H.size).2.1 H.size)))) := by
    unfold qrow
    rw [if_neg (by omega), if_neg (by omega), if_neg (by omega)]
  rw [hq, vp_cell_q]
  simp [wZ, va_rf]
theorem r_objInit (hX : MC E y cc nL ret k mc ms tab X) {idx a : Nat} (d : decode cc pc = .ok (.invokespecial idx, 3)) (hw : InT (.methodLink y.cls idx Lib.objectInit) ∧ InT (.instanceMethod Lib.objectInit) ∧ InT (.code Lib.objectInit ⟨#[0xb1]⟩ 1 none)) (hk : 1 ≤ k ∧ l.length = nL ∧ (st.map fun v => v.category).sum ≤ 8)
    (kk : WS E X cN sN Q g m (pc + 3) l st) : WS E X cN sN Q g m pc l (.ref a :: st) := by
  intro H locs ls h1 h2 h3
  have hR := hX.rm
  refine W.objInit hX.x hX.b hX.own (hX.w hw.1 _) (hX.w hw.2.1 _) (hX.w hw.2.2 _) rfl (by rw [hX.ml, ← hk.2.1]; exact h3.1) rfl d (by rw [hR]; exact hk.1) ?_ (kk H locs ls h1 h2 h3)
  have h9 := lv_room (m := xM X) (pc := pc) (ls := ls) (rest := st) hk.2.2
  rw [hR]
  show 2 * (F0 (xM X) pc ls (.ref a :: st)).monitorRoom + (st.map fun v => v.category).sum + 12 ≤ 64 * k
  have h8 : (F0 (xM X) pc ls (.ref a :: st)).monitorRoom = (F0 (xM X) pc ls st).monitorRoom := rfl
  rw [h8]
  have := hk.1
  omega
/-- behind a call -/
theorem q_call {H : Heap} {locs : List Loc} {ls : Array Slot} {a : Array Value} {mc' ms' : Nat} {rest : List Value} {post : Option Value → qG → qM → Prop}
    (hr : va_Run (xP X) (eL E) (xE X) (xR X) (xS X) (xM X) (xA X) (xB X) (xH X) (xC X) H locs cN sN mc' ms' (F0 (xM X) pc ls st) rest (QC E post a) (qA E)) (h2 : va_S (qA E) (xS X).heap H locs) (h3 : lv_has ls l.length (ql l 0))
    (kk : ∀ (v : Option Value) (g' : qG) (m' : qM), post v g' m' → WS E X (cN + mc') (sN + ms') Q g' m' (pc + 3) l (v.toList ++ rest)) : W (xP X) (eL E) (xE X) (xR X) (xS X) (xM X) (xA X) (xB X) (xH X) (xC X) H locs cN sN Q (F0 (xM X) pc ls st) := by
  intro T hT Z
  obtain ⟨v9, st₀, t, T', L, h0, X', hL, e1, e2, ⟨⟨v, g', m', hv, hp, hP⟩, hF⟩, stp⟩ := hr T hT Z
  cases hv
  obtain ⟨k1, k2, k3⟩ := vx_keep h0 e1 h2 (fun q _ h => h) (fun q h => h) hL hF
  obtain ⟨t2, a1, b1⟩ := kk v9 g' m' hp T'.heap (locs ++ L) ls (by rw [e1]; exact hP) k3 h3 T' rfl X'
  exact ⟨t2, stp t2 a1, b1⟩
theorem q_pre (hX : MC E y cc nL ret k mc ms tab X) {H : Heap} {locs : List Loc} {av : List Value} (h1 : Pict E g m H) (h2 : va_S (qA E) (xS X).heap H locs) : ∀ U : State, U.heap = H → (xS X).WarmedH U.vm → qPc E av g m av.toArray U := fun U hU hW =>
  ⟨rfl, hX.ev.warm hW, by rw [hU]; exact EnvH.moved hW.alike (hX.eh.kept h2.1 h2.2.1), by rw [hU]; exact h1⟩
theorem q_cb (hX : MC E y cc nL ret k mc ms tab X) {idx n k' mc' ms' nL' : Nat} {y' : MethodName} {cc' : ByteArray} {ret' : Option FieldType} (hl : ML y.cls idx y' cc' nL' ret' n) (hlk : InT (.methodLink y.cls idx y')) (hk : k' + 1 ≤ k ∧ nL' ≤ 45) : CallB (xR X) (xS X) (xA X) y.cls idx y' cc' nL' ret' [.code y' cc' nL' ret'] (qRm k' mc' ms') mc' ms' n := by
  obtain ⟨-, hc, hi, hy, hd⟩ := hl
  refine ⟨rfl, rfl, by rw [hX.rm]; exact hk.1, by rw [hX.rm]; show 8 + (nL' + 11) + 64 * k' ≤ 64 * k; omega, ?_, List.mem_cons_self, hX.w hc _, hX.w hi _, hy, fun sig h => ?_, hX.w hlk _⟩
  · intro w hw a' U hW
    rw [List.mem_singleton.mp hw]
    exact good2_at hW hc.2 (hX.w hc #[])
  · rw [h] at hd
    exact (Option.some.inj hd).symm
theorem q_cn (hX : MC E y cc nL ret k mc ms tab X) {idx n k' mc' ms' nL' : Nat} {host : String} {y' : MethodName} {cc' : ByteArray} {ret' : Option FieldType} (hl : ML y.cls idx y' cc' nL' ret' n) (hlk : InT (.methodLinkNest y.cls idx y' host)) (hk : k' + 1 ≤ k ∧ nL' ≤ 45) : va_CN (xR X) (xS X) (xA X) y.cls idx y' host cc' nL' ret' [.code y' cc' nL' ret'] (qRm k' mc' ms') mc' ms' n := by
  obtain ⟨-, hc, hi, hy, hd⟩ := hl
  refine ⟨⟨rfl, rfl, by rw [hX.rm]; exact hk.1, by rw [hX.rm]; show 8 + (nL' + 11) + 64 * k' ≤ 64 * k; omega, ?_, List.mem_cons_self⟩, hX.w hc _, hX.w hi _, hy, fun sig h => ?_, hX.w hlk _⟩
  · intro w hw a' U hW
    rw [List.mem_singleton.mp hw]
    exact good2_at hW hc.2 (hX.w hc #[])
  · rw [h] at hd
    exact (Option.some.inj hd).symm
theorem q_fix (hX : MC E y cc nL ret k mc ms tab X) : CallFix (xP X) (xM X) (xC X) cc nL (xS X) (xA X) [] y.cls := ⟨hX.x, hX.b, hX.ml, hX.own, fun _ h => nomatch h⟩
/-- the shape's class -/
def qCls (c : Nat) : Option String := (vwCl[c]?).map (fun r => r.1)
theorem q_recv (hX : MC E y cc nL ret k mc ms tab X) {H : Heap} {b c : Nat} {C : String} (h1 : Pict E g m H) (hb : gAt g b (.inl c)) (hc : qCls c = some C) : ∃ cell : Cell, H[b]? = some cell ∧ cell.vm.isStatics = false ∧ (xS X).vm.findClass C = some cell.cls := by
  obtain ⟨r, hr, hC⟩ := Option.map_eq_some_iff.mp hc
  subst hC
  exact va_recv (ws := [(b, qe (eC E) (.inl c) m b)]) (q0 := 0) (fs := qfs (m.1 b) (m.2.1 b) (qF c) 0) hX.K (h1.one hb) hr rfl
theorem r_callV (hX : MC E y cc nL ret k mc ms tab X) {idx n k' mc' ms' nL' b c : Nat} {y' : MethodName} {cc' : ByteArray} {ret' : Option FieldType} {As rest : List Value} {post : Option Value → qG → qM → Prop} (d : decode cc pc = .ok (.invokevirtual idx, 3))
    (hM : Sp E y' cc' nL' ret' k' mc' ms' (.ref b :: As) g m post) (hl : MLV y.cls idx y' cc' nL' ret' n) (hn : As.length = n) (hst : st = As.reverse ++ .ref b :: rest) (hb : gAt g b (.inl c)) (hc : qCls c = some y'.cls)
    (hk : k' + 1 ≤ k ∧ nL' ≤ 45) (hr : cN + mc' ≤ mc ∧ sN + ms' ≤ ms ∧ l.length = nL ∧ (rest.map fun v => v.category).sum ≤ 8)
    (kk : ∀ (v : Option Value) (g' : qG) (m' : qM), post v g' m' → WS E X (cN + mc') (sN + ms') Q g' m' (pc + 3) l (v.toList ++ rest)) : WS E X cN sN Q g m pc l st := by
  intro H locs ls h1 h2 h3
  have hR := hX.rm
  have hp : PreV (xS X) H y'.cls b (qPc E (.ref b :: As) g m) As := ⟨qPc_blind _ _ _ _, q_recv hX h1 hb hc, q_pre hX h1 h2⟩
  rcases hl.1.1 with hlk | ⟨host, hlk⟩
  · exact q_call (va_runV (q_fix hX) hM ⟨q_cb hX hl.1 hlk hk, hX.w hl.2.1 _, hX.w hl.2.2 _⟩ hp rfl hn (by rw [← hr.2.2.1]; exact h3.1) hst (lv_room hr.2.2.2) d (by rw [hR]; exact ⟨hr.1, hr.2.1⟩)) h2 h3 kk
  · exact q_call (va_runVN (q_fix hX) hM ⟨q_cn hX hl.1 hlk hk, hX.w hl.2.1 _, hX.w hl.2.2 _⟩ hp rfl hn (by rw [← hr.2.2.1]; exact h3.1) hst (lv_room hr.2.2.2) d (by rw [hR]; exact ⟨hr.1, hr.2.1⟩)) h2 h3 kk
theorem r_callS (hX : MC E y cc nL ret k mc ms tab X) {idx n k' mc' ms' nL' : Nat} {y' : MethodName} {cc' : ByteArray} {ret' : Option FieldType} {As rest : List Value} {post : Option Value → qG → qM → Prop} (d : decode cc pc = .ok (.invokestatic idx, 3))
    (hM : Sp E y' cc' nL' ret' k' mc' ms' As g m post) (hl : MLS y.cls idx y' cc' nL' ret' n) (hn : As.length = n) (hst : st = As.reverse ++ rest)
    (hk : k' + 1 ≤ k ∧ nL' ≤ 45) (hr : cN + mc' ≤ mc ∧ sN + ms' ≤ ms ∧ l.length = nL ∧ (rest.map fun v => v.category).sum ≤ 8)
    (kk : ∀ (v : Option Value) (g' : qG) (m' : qM), post v g' m' → WS E X (cN + mc') (sN + ms') Q g' m' (pc + 3) l (v.toList ++ rest)) : WS E X cN sN Q g m pc l st := by
  intro H locs ls h1 h2 h3
  have hR := hX.rm
  have hp : PreS (xS X) H (qPc E As g m) As := ⟨qPc_blind _ _ _ _, q_pre hX h1 h2⟩
  rcases hl.1.1 with hlk | ⟨host, hlk⟩
  · exact q_call (va_runS (q_fix hX) hM ⟨q_cb hX hl.1 hlk hk, hX.w hl.2 _⟩ hp rfl hn (by rw [← hr.2.2.1]; exact h3.1) hst (lv_room hr.2.2.2) d (by rw [hR]; exact ⟨hr.1, hr.2.1⟩)) h2 h3 kk
  · exact q_call (va_runSN (q_fix hX) hM ⟨q_cn hX hl.1 hlk hk, hX.w hl.2 _, trivial⟩ hp rfl hn (by rw [← hr.2.2.1]; exact h3.1) hst (lv_room hr.2.2.2) d (by rw [hR]; exact ⟨hr.1, hr.2.1⟩)) h2 h3 kk
theorem r_callI (hX : MC E y cc nL ret k mc ms tab X) {idx n k' mc' ms' nL' b : Nat} {y' : MethodName} {cc' : ByteArray} {As rest : List Value} {post : Option Value → qG → qM → Prop} (d : decode cc pc = .ok (.invokespecial idx, 3))
    (hM : Sp E y' cc' nL' none k' mc' ms' (.ref b :: As) g m post) (hl : MLI y.cls idx y' cc' nL' n) (hn : As.length = n) (hst : st = As.reverse ++ .ref b :: rest)
    (hk : k' + 1 ≤ k ∧ nL' ≤ 45) (hr : cN + mc' ≤ mc ∧ sN + ms' ≤ ms ∧ l.length = nL ∧ (rest.map fun v => v.category).sum ≤ 8)
    (kk : ∀ (v : Option Value) (g' : qG) (m' : qM), post v g' m' → WS E X (cN + mc') (sN + ms') Q g' m' (pc + 3) l (v.toList ++ rest)) : WS E X cN sN Q g m pc l st := by
  intro H locs ls h1 h2 h3
  have hR := hX.rm
  have hp : PreS (xS X) H (qPc E (.ref b :: As) g m) (.ref b :: As) := ⟨qPc_blind _ _ _ _, q_pre hX h1 h2⟩
  exact q_call (va_runI (q_fix hX) hM ⟨q_cb hX hl.1 hl.2.1 hk, hl.2.2.2, hX.w hl.2.2.1 _⟩ hp rfl hn (by rw [← hr.2.2.1]; exact h3.1) hst (lv_room hr.2.2.2) d (by rw [hR]; exact ⟨hr.1, hr.2.1⟩)) h2 h3 kk
/-! answers -/
section
variable {post : Option Value → qG → qM → Prop}
theorem r_iret (hX : MC E y cc nL (some .int) k mc ms tab X) {v : Int32} (d : decode cc pc = .ok (.ireturn, 1)) (hp : post (some (.int v)) g m) (hc : cN ≤ mc ∧ sN ≤ ms) : WS E X cN sN (RQ E X post mc ms) g m pc l [.int v] :=
  fun H locs ls h1 h2 h3 => W.widen hc.1 hc.2 (W.iret hX.x hX.b hX.rt (fun t ht hW => ⟨⟨_, g, m, rfl, hp, by rw [ht]; exact h1⟩, h2.F ht⟩) h2.2.2 d hX.lk)
theorem r_zret {ty : FieldType} (hX : MC E y cc nL (some ty) k mc ms tab X) {v : Int32} (d : decode cc pc = .ok (.ireturn, 1)) (hn : narrow ty (.int v) = .int v) (hp : post (some (.int v)) g m) (hc : cN ≤ mc ∧ sN ≤ ms) : WS E X cN sN (RQ E X post mc ms) g m pc l [.int v] :=
  fun H locs ls h1 h2 h3 => W.widen hc.1 hc.2 (W.zret hX.x hX.b hX.rt hn (fun t ht hW => ⟨⟨_, g, m, rfl, hp, by rw [ht]; exact h1⟩, h2.F ht⟩) h2.2.2 d hX.lk)
theorem r_lret (hX : MC E y cc nL (some .long) k mc ms tab X) {v : Int64} (d : decode cc pc = .ok (.lreturn, 1)) (hp : post (some (.long v)) g m) (hc : cN ≤ mc ∧ sN ≤ ms) : WS E X cN sN (RQ E X post mc ms) g m pc l [.long v] :=
  fun H locs ls h1 h2 h3 => W.widen hc.1 hc.2 (W.lret hX.x hX.b hX.rt (fun t ht hW => ⟨⟨_, g, m, rfl, hp, by rw [ht]; exact h1⟩, h2.F ht⟩) h2.2.2 d hX.lk)
theorem r_dret (hX : MC E y cc nL (some .double) k mc ms tab X) {v : UInt64} (d : decode cc pc = .ok (.dreturn, 1)) (hp : post (some (.double v)) g m) (hc : cN ≤ mc ∧ sN ≤ ms) : WS E X cN sN (RQ E X post mc ms) g m pc l [.double v] :=
  fun H locs ls h1 h2 h3 => W.widen hc.1 hc.2 (W.dret hX.x hX.b hX.rt (fun t ht hW => ⟨⟨_, g, m, rfl, hp, by rw [ht]; exact h1⟩, h2.F ht⟩) h2.2.2 d hX.lk)
theorem r_fret (hX : MC E y cc nL (some .float) k mc ms tab X) {v : UInt32} (d : decode cc pc = .ok (.freturn, 1)) (hp : post (some (.float v)) g m) (hc : cN ≤ mc ∧ sN ≤ ms) : WS E X cN sN (RQ E X post mc ms) g m pc l [.float v] :=
  fun H locs ls h1 h2 h3 => W.widen hc.1 hc.2 (W.fret hX.x hX.b hX.rt (fun t ht hW => ⟨⟨_, g, m, rfl, hp, by rw [ht]; exact h1⟩, h2.F ht⟩) h2.2.2 d hX.lk)
theorem r_vret (hX : MC E y cc nL none k mc ms tab X) (d : decode cc pc = .ok (.return_, 1)) (hp : post none g m) (hc : cN ≤ mc ∧ sN ≤ ms) : WS E X cN sN (RQ E X post mc ms) g m pc l [] :=
  fun H locs ls h1 h2 h3 => W.widen hc.1 hc.2 (W.vret hX.x hX.b hX.rt (fun t ht hW => ⟨⟨_, g, m, rfl, hp, by rw [ht]; exact h1⟩, h2.F ht⟩) h2.2.2 d hX.lk)
theorem r_aret {rt : FieldType} (hX : MC E y cc nL (some rt) k mc ms tab X) {v : Value} (d : decode cc pc = .ok (.areturn, 1)) (hrt : (∃ n, rt = .object n) ∨ ∃ t, rt = .array t) (hv : v = .null ∨ ∃ a, v = .ref a) (hp : post (some v) g m) (hc : cN ≤ mc ∧ sN ≤ ms) : WS E X cN sN (RQ E X post mc ms) g m pc l [v] :=
  fun H locs ls h1 h2 h3 => W.widen hc.1 hc.2 (W.aret hX.x hX.b hX.rt hrt hv (fun t ht hW => ⟨⟨_, g, m, rfl, hp, by rw [ht]; exact h1⟩, h2.F ht⟩) h2.2.2 d hX.lk)
variable {postX : String → qG → qM → Prop}
theorem r_x (h : WS E X cN sN (RQ E X post mc ms) g m pc l st) : WS E X cN sN (RQX E X post postX mc ms) g m pc l st := fun H locs ls h1 h2 h3 => vx_ret (h H locs ls h1 h2 h3)
end
end WC
