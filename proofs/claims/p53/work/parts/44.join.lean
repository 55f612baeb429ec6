/-! ===== two memories side by side: what a call does to one leaves the other ===== -/
/-- the cells with these set aside -/
def eP (E : qE) (S : Nat → Prop) : qE := (E.1, (eB E, fun q => eZ E q ∨ S q), E.2.2)
def dom (h : qG) : Nat → Prop := fun a => ∃ sh, h.1 a = some sh
/-- one memory holds what the other does -/
def Sub (g : qG) (m : qM) (G : qG) (M : qM) : Prop := ∀ a sh, g.1 a = some sh → G.1 a = some sh ∧ SameA m M a
def Jn (g : qG) (m : qM) (h : qG) (n : qM) (G : qG) (M : qM) : Prop := g.2 = G.2 ∧ h.2 = G.2 ∧ Sub g m G M ∧ Sub h n G M ∧ ∀ a, dom g a → ¬ dom h a
theorem qe_same {cy : Nat → ClassId} {m M : qM} {a : Nat} (h : SameA m M a) (sh : qSh) : qe cy sh m a = qe cy sh M a := by
  obtain ⟨h1, h2, h3, h4⟩ := h
  rcases sh with s1 | s1 <;> simp only [qe, qrow, h1, h2, h3, h4]
theorem SameA.sy {m m' : qM} {a : Nat} (h : SameA m m' a) : SameA m' m a := ⟨h.1.symm, h.2.1.symm, h.2.2.1.symm, h.2.2.2.symm⟩
theorem Sub.rf (g : qG) (m : qM) : Sub g m g m := fun a sh h => ⟨h, SameA.rf m a⟩
theorem Sub.tr {g g1 g2 : qG} {m m1 m2 : qM} (h : Sub g m g1 m1) (h2 : Sub g1 m1 g2 m2) : Sub g m g2 m2 := fun a sh ha =>
  have k := h a sh ha
  have k2 := h2 a sh k.1
  ⟨k2.1, k.2.tr k2.2⟩
theorem Sub.none (n : qM) (G : qG) (M : qM) (z : Nat) : Sub ((fun _ => none, z) : qG) n G M := fun a sh h => by cases h
theorem Jn.sy {g h G : qG} {m n M : qM} (j : Jn g m h n G M) : Jn h n g m G M := ⟨j.2.1, j.1, j.2.2.2.1, j.2.2.1, fun a h1 h2 => j.2.2.2.2 a h2 h1⟩
/-- one alone -/
theorem Jn.one (g : qG) (m : qM) : Jn g m ((fun _ => none, g.2) : qG) m g m := ⟨rfl, rfl, Sub.rf g m, Sub.none _ _ _ _, fun a _ h => h.elim (fun sh q => by cases q)⟩
theorem Pict.sub {E : qE} {g G : qG} {m M : qM} {H : Heap} (h : Pict E G M H) (hs : Sub g m G M) (hz : g.2 = G.2) : Pict E g m H := ⟨h.1.trans hz.symm, fun a sh ha => by
  obtain ⟨k1, k2⟩ := hs a sh ha
  obtain ⟨k3, k4⟩ := h.2 a sh k1
  exact ⟨k3, by rw [qe_same k2]; exact k4⟩⟩
theorem Pict.aside {E : qE} {g h G : qG} {m n M : qM} {H : Heap} (hP : Pict E G M H) (j : Jn g m h n G M) : Pict (eP E (dom h)) g m H := ⟨hP.1.trans j.1.symm, fun a sh ha => by
  obtain ⟨k3, k4⟩ := (hP.sub j.2.2.1 j.1).2 a sh ha
  exact ⟨⟨k3.1, fun q => q.elim k3.2 (j.2.2.2.2 a ⟨sh, ha⟩)⟩, k4⟩⟩
theorem EnvH.aside {E : qE} {s : State} {H : Heap} (h : EnvH E s H) {S : Nat → Prop} (hS : ∀ q, S q → q < H.size) : EnvH (eP E S) s H := by
  obtain ⟨h1, h2, h3, h4, h5, h6, h7, h8, h9, h10, h11, h12, h13⟩ := h
  have hAB : ∀ q, qA (eP E S) q → qA E q := fun q k => ⟨k.1, fun z => k.2 (Or.inl z)⟩
  exact ⟨fun q hq => ⟨(h1 q hq).1, fun z => z.elim (h1 q hq).2 (fun y => absurd (hS q y) (by omega))⟩, vx_Zq.narrow h2 hAB, vx_Zq.narrow h3 hAB, fun i x hx => vk_S.narrow (h4 i x hx) hAB, va_Z.narrow h5 hAB, va_Z.narrow h6 hAB, va_T.narrow h7 hAB, va_Z.narrow h8 hAB, va_T.narrow h9 hAB, va_Zq.narrow h10 hAB, h11, fun k => h12 (hAB _ k), h13⟩
/-- the two put together -/
def gJ (g h : qG) : qG := (fun a => match g.1 a with
  | some sh => some sh
  | none => h.1 a, g.2)
def mJ (g : qG) (m n : qM) : qM := (fun a => if (g.1 a).isSome = true then m.1 a else n.1 a, fun a => if (g.1 a).isSome = true then m.2.1 a else n.2.1 a, fun a => if (g.1 a).isSome = true then m.2.2.1 a else n.2.2.1 a, fun a => if (g.1 a).isSome = true then m.2.2.2 a else n.2.2.2 a)
theorem mJ_l {g : qG} {m n : qM} {a : Nat} {sh : qSh} (h : g.1 a = some sh) : SameA m (mJ g m n) a := by
  have e : (g.1 a).isSome = true := by rw [h]; rfl
  exact ⟨if_pos e, if_pos e, if_pos e, if_pos e⟩
theorem mJ_r {g : qG} {m n : qM} {a : Nat} (h : g.1 a = none) : SameA n (mJ g m n) a := by
  have e : ¬ (g.1 a).isSome = true := by rw [h]; decide
  exact ⟨if_neg e, if_neg e, if_neg e, if_neg e⟩
theorem Jn.mk {g h : qG} {m n : qM} (hd : ∀ a, dom g a → ¬ dom h a) : Jn g m (h.1, g.2) n (gJ g h) (mJ g m n) := by
  have hg : ∀ a sh, h.1 a = some sh → g.1 a = none := fun a sh ha => by
    cases e : g.1 a with
    | none => rfl
    | some s1 => exact absurd ⟨sh, ha⟩ (hd a ⟨s1, e⟩)
  refine ⟨rfl, rfl, fun a sh ha => ⟨?_, mJ_l ha⟩, fun a sh ha => ⟨?_, mJ_r (hg a sh ha)⟩, hd⟩
  · show (match g.1 a with | some sh => some sh | none => h.1 a) = _
    rw [ha]
  · show (match g.1 a with | some sh => some sh | none => h.1 a) = _
    rw [hg a sh ha]
    exact ha
/-- behind a call that knew one of the two alone -/
theorem Jn.back {E : qE} {g h G g' : qG} {m n M m' : qM} {st t : State} (j : Jn g m h n G M) (hP : Pict E G M st.heap) (hP' : Pict (eP E (dom h)) g' m' t.heap) (hF : va_F (qA (eP E (dom h))) st t) :
    ∃ G' M', Jn g' m' (h.1, g'.2) n G' M' ∧ Pict E G' M' t.heap ∧ va_F (qA E) st t := by
  have hd : ∀ a, dom g' a → ¬ dom h a := fun a ⟨sh, ha⟩ hb => (hP'.2 a sh ha).1.2 (Or.inr hb)
  refine ⟨_, _, Jn.mk (n := n) (m := m') hd, ⟨hP'.1, fun a sh ha => ?_⟩, hF.1, fun q h1 h2 => hF.2 q h1 (fun k => h2 ⟨k.1, fun z => k.2 (Or.inl z)⟩)⟩
  have ha : (match g'.1 a with | some sh => some sh | none => h.1 a) = some sh := ha
  cases e : g'.1 a with
  | some s1 =>
    rw [e] at ha
    cases ha
    obtain ⟨k1, k2⟩ := hP'.2 a _ e
    exact ⟨⟨k1.1, fun z => k1.2 (Or.inl z)⟩, by rw [← qe_same (mJ_l e)]; exact k2⟩
  | none =>
    rw [e] at ha
    obtain ⟨k1, k2⟩ := (hP.sub j.2.2.2.1 j.2.1).2 a sh ha
    refine ⟨k1, ?_⟩
    rw [← qe_same (mJ_r e)]
    exact k2.kept (hF.2 a k2.lt (fun z => z.2 (Or.inr ⟨sh, ha⟩)))
section JN
variable {E : qE} {y : MethodName} {cc : ByteArray} {nL : Nat} {ret : Option FieldType} {k mc ms : Nat} {av : List Value} {g h G : qG} {m n M : qM} {post : Option Value → qG → qM → Prop} {postX : String → qG → qM → Prop}
theorem qPc.aside (j : Jn g m h n G M) {a : Array Value} {U : State} (hp : qPc E av G M a U) : qPc (eP E (dom h)) av g m a U :=
  ⟨hp.1, hp.2.1, hp.2.2.1.aside (fun q ⟨sh, hq⟩ => by
    have := hp.2.2.2.lt (j.2.2.2.1 q sh hq).1
    rw [hp.2.2.2.1]; exact this), hp.2.2.2.aside j⟩
/-- a contract over one of two memories -/
theorem Sp.join (j : Jn g m h n G M) (hM : Sp (eP E (dom h)) y cc nL ret k mc ms av g m post) : Sp E y cc nL ret k mc ms av G M (fun v G' M' => ∃ g' m', post v g' m' ∧ Jn g' m' (h.1, g'.2) n G' M') := by
  intro p e he hc hk s mi args below hf hS hP hK
  obtain ⟨i, o, h1, h2, h3, ⟨⟨⟨v, g', m', ho, hp, hP'⟩, hF⟩, L, hL1, hL2⟩⟩ := hM p e he hc hk s mi args below hf hS (qPc.aside j hP) hK
  obtain ⟨G', M', j', hP2, hF2⟩ := j.back hP.2.2.2 hP' hF
  exact ⟨i, o, h1, h2, h3, ⟨⟨⟨v, G', M', ho, ⟨g', m', hp, j'⟩, hP2⟩, hF2⟩, L, hL1, fun q hq => ⟨(hL2 q hq).1, fun z => (hL2 q hq).2 (Or.inl z)⟩⟩⟩
theorem SpX.join (j : Jn g m h n G M) (hM : SpX (eP E (dom h)) y cc nL ret k mc ms av g m post postX) : SpX E y cc nL ret k mc ms av G M (fun v G' M' => ∃ g' m', post v g' m' ∧ Jn g' m' (h.1, g'.2) n G' M') (fun nm G' M' => ∃ g' m', postX nm g' m' ∧ Jn g' m' (h.1, g'.2) n G' M') := by
  intro p e he hc hk s mi args below hf hS hP hK
  obtain ⟨i, o, h1, h2, h3, hq⟩ := hM p e he hc hk s mi args below hf hS (qPc.aside j hP) hK
  rcases hq with ⟨⟨⟨v, g', m', ho, hp, hP'⟩, hF⟩, L, hL1, hL2⟩ | ⟨q, ho, nm, ce, L, ⟨⟨g', m', hp, hP'⟩, hF⟩, k1, k2, k3, k4, k5, k6⟩
  · obtain ⟨G', M', j', hP2, hF2⟩ := j.back hP.2.2.2 hP' hF
    exact ⟨i, o, h1, h2, h3, Or.inl ⟨⟨⟨v, G', M', ho, ⟨g', m', hp, j'⟩, hP2⟩, hF2⟩, L, hL1, fun q hq => ⟨(hL2 q hq).1, fun z => (hL2 q hq).2 (Or.inl z)⟩⟩⟩
  · obtain ⟨G', M', j', hP2, hF2⟩ := j.back hP.2.2.2 hP' hF
    exact ⟨i, o, h1, h2, h3, Or.inr ⟨q, ho, nm, ce, L, ⟨⟨G', M', ⟨g', m', hp, j'⟩, hP2⟩, hF2⟩, k1, k2, k3, k4, k5, fun q hq => ⟨(k6 q hq).1, fun z => (k6 q hq).2 (Or.inl z)⟩⟩⟩
theorem SpH.join {hh : List (Nat × Nat × Nat × Nat)} (j : Jn g m h n G M) (hM : SpH (eP E (dom h)) y cc nL ret hh k mc ms av g m post) : SpH E y cc nL ret hh k mc ms av G M (fun v G' M' => ∃ g' m', post v g' m' ∧ Jn g' m' (h.1, g'.2) n G' M') := by
  intro p e he hc hk s mi args below hf hS hP hK
  obtain ⟨i, o, h1, h2, h3, hq⟩ := hM p e he hc hk s mi args below hf hS (qPc.aside j hP) hK
  rcases hq with ⟨⟨⟨v, g', m', ho, hp, hP'⟩, hF⟩, L, hL1, hL2⟩ | ⟨q, ho, nm, ce, L, ⟨⟨g', m', hp, hP'⟩, hF⟩, k1, k2, k3, k4, k5, k6⟩
  · obtain ⟨G', M', j', hP2, hF2⟩ := j.back hP.2.2.2 hP' hF
    exact ⟨i, o, h1, h2, h3, Or.inl ⟨⟨⟨v, G', M', ho, ⟨g', m', hp, j'⟩, hP2⟩, hF2⟩, L, hL1, fun q hq => ⟨(hL2 q hq).1, fun z => (hL2 q hq).2 (Or.inl z)⟩⟩⟩
  · exact hp.elim
end JN
section JW
variable {E : qE} {X : qX} {cN sN : Nat} {Q : State → Prop} {g G : qG} {m M : qM} {pc : Nat} {l : List (Option Value)} {st : List Value}
/-- what is not needed any more is forgotten -/
theorem r_sub (hs : Sub g m G M) (hz : g.2 = G.2) (kk : WS E X cN sN Q g m pc l st) : WS E X cN sN Q G M pc l st := fun H locs ls h1 h2 h3 => kk H locs ls (h1.sub hs hz) h2 h3
end JW
