/-! ===== numbers and loops ===== -/
theorem ii1 (a : Nat) : nI a + Int32.ofInt 1 = nI (a + 1) := nI_1 a
theorem iim1 (a : Nat) : nI (a + 1) + Int32.ofInt (-1) = nI a := pk_m1 a
theorem clamp_lt (x : Int32) : x.toNatClampNeg < 2 ^ 31 := by
  have := x.toInt_lt
  show x.toInt.toNat < 2 ^ 31
  omega
theorem le_clamp {x : Int32} {i : Nat} (hi : i < 2 ^ 31) : x ≤ nI i ↔ x.toNatClampNeg ≤ i := by
  rw [Int32.le_iff_toInt_le, nI_toInt hi]
  show _ ↔ x.toInt.toNat ≤ i
  omega
/-- n steps, as long as c holds -/
def itr {S : Type} (c : S → Bool) (f : S → S) : Nat → S → S
  | 0, s => s
  | n + 1, s => if c s = true then itr c f n (f s) else s
theorem itr_t {S : Type} {c : S → Bool} {f : S → S} {n : Nat} {s : S} (h : c s = true) : itr c f (n + 1) s = itr c f n (f s) := if_pos h
theorem itr_f {S : Type} {c : S → Bool} {f : S → S} {n : Nat} {s : S} (h : ¬ c s = true) : itr c f (n + 1) s = s := if_neg h
/-- floorMod, as its code has it -/
def fMod (x y : Int32) : Int32 := if 0 ≤ x ^^^ y then x - x / y * y else if x - x / y * y = 0 then x - x / y * y else x - x / y * y + y
theorem ne0_of_le {x : Int32} (h : 1 ≤ x) : ¬ x = 0 := fun q => absurd (q ▸ h) (by decide)
theorem ne0_of_lt {x : Int32} (h : ¬ x < 1) : ¬ x = 0 := fun q => absurd (show x < 1 from q ▸ (by decide)) h
/-- the same, for the methods of the library -/
theorem Sp.ofF {E : qE} {y : MethodName} {cc : ByteArray} {nL : Nat} {ret : Option FieldType} {k mc ms : Nat} {av : List Value} {g : qG} {m : qM} {post : Option Value → qG → qM → Prop}
    (hy : plainFor y = true) (l0 : List (Option Value)) (hl0 : ql l0 0 = lv_args 0 av) (hn : l0.length = nL) (hz : (lg_sl av).length ≤ nL)
    (body : ∀ X : qX, MC E y cc nL ret k mc ms [] X → WS E X 0 0 (RQ E X post mc ms) g m 0 l0 []) : Sp E y cc nL ret k mc ms av g m post := by
  refine va_MetF (cc := cc) (maxL := nL) (ret := ret) hy rfl ?_
  intro p e s mi args below meth c s₁ B hml hv
  obtain ⟨rfl, hev, heh, hP⟩ := hv
  have ht : c.exceptionTable.toList = [] := by
    obtain ⟨meth9, c9, h1, h2, -, -, -, -, h7, -⟩ := Cond.code_spec B.named (atoms_spec (ws := [.code y cc nL ret]) B.pre _ List.mem_cons_self)
    cases Option.some.inj (h1.symm.trans B.method)
    cases Option.some.inj (h2.symm.trans (Stand.of_body B).code)
    rw [Array.isEmpty_iff.mp h7]
  have hl := lv_entry av (n := nL) hz
  rw [lg_entry_eq]
  generalize (lg_sl av ++ List.replicate (nL - (lg_sl av).length) Slot.unset).toArray = ls at hl ⊢
  rw [← hl0] at hl
  have hX : MC E y cc nL ret k mc ms [] (p, e, qRm k mc ms, s, mi, av.toArray, below, meth, c) :=
    ⟨B.exec, B.bytes, hml, findClass_of_methodNamed B.named, B.notSynchronized, B.returns, rfl, (name_of_methodNamed B.named B.method).1, hev, heh, ht⟩
  exact body _ hX s.heap [] ls hP va_S.rf (by rw [hn]; exact hl)

theorem gAt_ne {g : qG} {a b : Nat} {s1 s2 : qSh} (h1 : gAt g a s1) (h2 : gAt g b s2) (h : s1 ≠ s2) : a ≠ b := fun e => h (Option.some.inj (h1.symm.trans (e ▸ h2)))
theorem nI_xor (a b : Nat) : nI a ^^^ nI b = nI (a ^^^ b) := by
  apply Int32.toBitVec_inj.mp
  show BitVec.ofNat 32 a ^^^ BitVec.ofNat 32 b = BitVec.ofNat 32 (a ^^^ b)
  exact BitVec.ofNat_xor.symm
theorem fMod_nI {a b : Nat} (ha : a < 2 ^ 31) (h0 : 0 < b) (hb : b < 2 ^ 31) : fMod (nI a) (nI b) = nI (a % b) := by
  unfold fMod
  rw [nI_xor, if_pos (nI_pos' (Nat.xor_lt_two_pow ha hb)), pk_rem ha h0 hb]
theorem fmd12 {a i : Nat} (h : a + i < 2 ^ 31) : fMod (nI a + nI i) 12 = nI ((a + i) % 12) := by
  rw [nI_add]
  exact fMod_nI (b := 12) h (by decide) (by decide)
theorem fmd12' {a : Nat} (h : a < 2 ^ 31) : fMod (nI a) 12 = nI (a % 12) := fMod_nI (b := 12) h (by decide) (by decide)
theorem fmd8 {a i : Nat} (h : a + i < 2 ^ 31) : fMod (nI a + nI i) 8 = nI ((a + i) % 8) := by
  rw [nI_add]
  exact fMod_nI (b := 8) h (by decide) (by decide)
section WN
variable {E : qE} {y : MethodName} {cc : ByteArray} {nL : Nat} {ret : Option FieldType} {k mc ms : Nat} {tab : List ExceptionTableEntry} {X : qX} {cN sN : Nat} {Q : State → Prop} {g : qG} {m : qM} {pc : Nat} {l : List (Option Value)} {st : List Value}
theorem r_ialoadN (hX : MC E y cc nL ret k mc ms tab X) {a n j : Nat} (d : decode cc pc = .ok (.iaload, 1)) (ha : gAt g a (.inr (0, n))) (hj : j < n) (hn : n < 2 ^ 31) (kk : WS E X cN sN Q g m (pc + 1) l (.int (qI m a j) :: st)) : WS E X cN sN Q g m pc l (.int (nI j) :: .ref a :: st) :=
  r_iaload hX d ha (vp_in_nI hj hn) (by rw [nI_clamp (Nat.lt_trans hj hn)]; exact kk)
theorem r_caloadN (hX : MC E y cc nL ret k mc ms tab X) {a n j : Nat} (d : decode cc pc = .ok (.caload, 1)) (ha : gAt g a (.inr (1, n))) (hj : j < n) (hn : n < 2 ^ 31) (kk : WS E X cN sN Q g m (pc + 1) l (.int (qI m a j) :: st)) : WS E X cN sN Q g m pc l (.int (nI j) :: .ref a :: st) :=
  r_caload hX d ha (vp_in_nI hj hn) (by rw [nI_clamp (Nat.lt_trans hj hn)]; exact kk)
theorem r_baloadN (hX : MC E y cc nL ret k mc ms tab X) {a n j : Nat} (d : decode cc pc = .ok (.baload, 1)) (ha : gAt g a (.inr (2, n))) (hj : j < n) (hn : n < 2 ^ 31) (kk : WS E X cN sN Q g m (pc + 1) l (.int (qI m a j) :: st)) : WS E X cN sN Q g m pc l (.int (nI j) :: .ref a :: st) :=
  r_baload hX d ha (vp_in_nI hj hn) (by rw [nI_clamp (Nat.lt_trans hj hn)]; exact kk)
theorem r_iastoreN (hX : MC E y cc nL ret k mc ms tab X) {a n j : Nat} {x : Int32} (d : decode cc pc = .ok (.iastore, 1)) (ha : gAt g a (.inr (0, n))) (hj : j < n) (hn : n < 2 ^ 31) (kk : WS E X cN sN Q g (wI m a j (x)) (pc + 1) l st) : WS E X cN sN Q g m pc l (.int x :: .int (nI j) :: .ref a :: st) :=
  r_iastore hX d ha (vp_in_nI hj hn) (by rw [nI_clamp (Nat.lt_trans hj hn)]; exact kk)
theorem r_castoreN (hX : MC E y cc nL ret k mc ms tab X) {a n j : Nat} {x : Int32} (d : decode cc pc = .ok (.castore, 1)) (ha : gAt g a (.inr (1, n))) (hj : j < n) (hn : n < 2 ^ 31) (kk : WS E X cN sN Q g (wI m a j (vp_nar .char x)) (pc + 1) l st) : WS E X cN sN Q g m pc l (.int x :: .int (nI j) :: .ref a :: st) :=
  r_castore hX d ha (vp_in_nI hj hn) (by rw [nI_clamp (Nat.lt_trans hj hn)]; exact kk)
theorem r_bastoreN (hX : MC E y cc nL ret k mc ms tab X) {a n j : Nat} {x : Int32} (d : decode cc pc = .ok (.bastore, 1)) (ha : gAt g a (.inr (2, n))) (hj : j < n) (hn : n < 2 ^ 31) (kk : WS E X cN sN Q g (wI m a j (vp_nar .byte x)) (pc + 1) l st) : WS E X cN sN Q g m pc l (.int x :: .int (nI j) :: .ref a :: st) :=
  r_bastore hX d ha (vp_in_nI hj hn) (by rw [nI_clamp (Nat.lt_trans hj hn)]; exact kk)
theorem r_aaload5N (hX : MC E y cc nL ret k mc ms tab X) {a n b j : Nat} (d : decode cc pc = .ok (.aaload, 1)) (ha : gAt g a (.inr (5, n))) (hj : j < n) (hn : n < 2 ^ 31) (hb : qR m a j = some b) (kk : WS E X cN sN Q g m (pc + 1) l (.ref b :: st)) : WS E X cN sN Q g m pc l (.int (nI j) :: .ref a :: st) :=
  r_aaload5 hX d ha (vp_in_nI hj hn) (by rw [nI_clamp (Nat.lt_trans hj hn)]; exact hb) kk
theorem r_aastore5N (hX : MC E y cc nL ret k mc ms tab X) {a n v j : Nat} (d : decode cc pc = .ok (.aastore, 1)) (ha : gAt g a (.inr (5, n))) (hj : j < n) (hn : n < 2 ^ 31) (hv : gAt g v (.inl 4)) (kk : WS E X cN sN Q g (wR m a j (some v)) (pc + 1) l st) : WS E X cN sN Q g m pc l (.ref v :: .int (nI j) :: .ref a :: st) :=
  r_aastore5 hX d ha (vp_in_nI hj hn) hv (by rw [nI_clamp (Nat.lt_trans hj hn)]; exact kk)
theorem r_aaload6N (hX : MC E y cc nL ret k mc ms tab X) {a n b j : Nat} (d : decode cc pc = .ok (.aaload, 1)) (ha : gAt g a (.inr (6, n))) (hj : j < n) (hn : n < 2 ^ 31) (hb : qR m a j = some b) (kk : WS E X cN sN Q g m (pc + 1) l (.ref b :: st)) : WS E X cN sN Q g m pc l (.int (nI j) :: .ref a :: st) :=
  r_aaload6 hX d ha (vp_in_nI hj hn) (by rw [nI_clamp (Nat.lt_trans hj hn)]; exact hb) kk
theorem r_aastore6N (hX : MC E y cc nL ret k mc ms tab X) {a n v j : Nat} (d : decode cc pc = .ok (.aastore, 1)) (ha : gAt g a (.inr (6, n))) (hj : j < n) (hn : n < 2 ^ 31) (hv : gAt g v (.inl 8)) (kk : WS E X cN sN Q g (wR m a j (some v)) (pc + 1) l st) : WS E X cN sN Q g m pc l (.ref v :: .int (nI j) :: .ref a :: st) :=
  r_aastore6 hX d ha (vp_in_nI hj hn) hv (by rw [nI_clamp (Nat.lt_trans hj hn)]; exact kk)
end WN
