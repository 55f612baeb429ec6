/-! ===== CORE: one memory of typed cells at known addresses; the judgement WS: W over such a memory ===== -/
/-- the shape of a cell: an object of the class of that number, or an array of that kind and length -/
abbrev qSh : Type := Nat ⊕ (Nat × Nat)
/-- what the cells hold: ints, references, longs, doubles, by address and place -/
abbrev qM : Type := (Nat → Nat → Int32) × (Nat → Nat → Option Nat) × (Nat → Nat → Int64) × (Nat → Nat → UInt64)
/-- the shapes, and the heap's size -/
abbrev qG : Type := (Nat → Option qSh) × Nat
/-- the launch, the first address that may be written with those behind it that may not, the classes' data, the array classes, the addresses of the String constants, of their byte rows; of the digit rows, of the script, its length -/
abbrev qE : Type := Launch × (Nat × (Nat → Prop)) × va_G × (Nat → ClassId) × (Nat → Nat) × (Nat → Nat) × (Nat → Nat)
/-- a method's own standing -/
abbrev qX : Type := Program × Jvm.Env × Room × State × MethodId × Array Value × List Frame × Method × Code
abbrev qI (m : qM) (a k : Nat) : Int32 := m.1 a k
abbrev qR (m : qM) (a k : Nat) : Option Nat := m.2.1 a k
abbrev qJ (m : qM) (a k : Nat) : Int64 := m.2.2.1 a k
abbrev qD (m : qM) (a k : Nat) : UInt64 := m.2.2.2 a k
def wI (m : qM) (a k : Nat) (v : Int32) : qM := (fun b j => if b = a ∧ j = k then v else m.1 b j, m.2)
def wR (m : qM) (a k : Nat) (v : Option Nat) : qM := (m.1, fun b j => if b = a ∧ j = k then v else m.2.1 b j, m.2.2)
def wJ (m : qM) (a k : Nat) (v : Int64) : qM := (m.1, m.2.1, fun b j => if b = a ∧ j = k then v else m.2.2.1 b j, m.2.2.2)
def wD (m : qM) (a k : Nat) (v : UInt64) : qM := (m.1, m.2.1, m.2.2.1, fun b j => if b = a ∧ j = k then v else m.2.2.2 b j)
theorem qI_wI (m : qM) (a k : Nat) (v : Int32) (b j : Nat) : qI (wI m a k v) b j = if b = a ∧ j = k then v else qI m b j := rfl
theorem qI_wI_s (m : qM) (a k : Nat) (v : Int32) : qI (wI m a k v) a k = v := if_pos ⟨rfl, rfl⟩
theorem qI_wI_a (m : qM) {a b : Nat} (k : Nat) (v : Int32) (j : Nat) (h : b ≠ a) : qI (wI m a k v) b j = qI m b j := if_neg (fun q => h q.1)
theorem qI_wI_k (m : qM) (a b : Nat) {k j : Nat} (v : Int32) (h : j ≠ k) : qI (wI m a k v) b j = qI m b j := if_neg (fun q => h q.2)
theorem qR_wI (m : qM) (a k : Nat) (v : Int32) (b j : Nat) : qR (wI m a k v) b j = qR m b j := rfl
theorem qI_wR (m : qM) (a k : Nat) (v : Option Nat) (b j : Nat) : qI (wR m a k v) b j = qI m b j := rfl
theorem qR_wR (m : qM) (a k : Nat) (v : Option Nat) (b j : Nat) : qR (wR m a k v) b j = if b = a ∧ j = k then v else qR m b j := rfl
theorem qR_wR_s (m : qM) (a k : Nat) (v : Option Nat) : qR (wR m a k v) a k = v := if_pos ⟨rfl, rfl⟩
theorem qR_wR_a (m : qM) {a b : Nat} (k : Nat) (v : Option Nat) (j : Nat) (h : b ≠ a) : qR (wR m a k v) b j = qR m b j := if_neg (fun q => h q.1)
theorem qR_wR_k (m : qM) (a b : Nat) {k j : Nat} (v : Option Nat) (h : j ≠ k) : qR (wR m a k v) b j = qR m b j := if_neg (fun q => h q.2)
theorem qJ_wJ_s (m : qM) (a k : Nat) (v : Int64) : qJ (wJ m a k v) a k = v := if_pos ⟨rfl, rfl⟩
theorem qD_wD_s (m : qM) (a k : Nat) (v : UInt64) : qD (wD m a k v) a k = v := if_pos ⟨rfl, rfl⟩
/-- which fields of a class are references -/
def qF : Nat → List Bool
  | 0 => [true, false, false, false]
  | 1 => [true, false, false, false]
  | 4 => [false, false, false, false, false]
  | 5 => [true, false, false]
  | 6 => [true, true, true, false, false, false]
  | 7 => [true, false, false, false, false, false]
  | 8 => [true, true, false, false, false, false, false, false, false]
  | 9 => [true, true, true, true, true, true, false]
  | 10 => [true, true, true, true, true, true, true, false, false, false]
  | 11 => [false, true, false, false, false, true, true, true, false, false, false, false, false, true, false, true, false]
  | _ => []
/-- the kinds of arrays -/
def qTy : Nat → FieldType
  | 0 => .int
  | 1 => .char
  | 2 => .byte
  | 3 => .int
  | 4 => .int
  | 5 => .object "CometObservatory$Comet"
  | 6 => .object "CometObservatory$Sky"
  | _ => .array .int
def qtys (cy : Nat → ClassId) : List (ClassId × FieldType) := [(cy 0, .int), (cy 1, .char), (cy 2, .byte), (cy 3, .int), (cy 4, .int), (cy 5, .object "CometObservatory$Comet"), (cy 6, .object "CometObservatory$Sky"), (cy 7, .array .int)]
theorem qtys_get (cy : Nat → ClassId) {t : Nat} (h : t < 8) : (qtys cy)[t]? = some (cy t, qTy t) := by
  rcases t with _ | _ | _ | _ | _ | _ | _ | _ | t
  all_goals first | rfl | omega
def qfs (I : Nat → Int32) (R : Nat → Option Nat) : List Bool → Nat → List Value
  | [], _ => []
  | b :: l, k => (if b = true then va_rf (R k) else .int (I k)) :: qfs I R l (k + 1)
theorem qfs_len (I : Nat → Int32) (R : Nat → Option Nat) : ∀ (l : List Bool) (k : Nat), (qfs I R l k).length = l.length
  | [], _ => rfl
  | _ :: l, k => congrArg Nat.succ (qfs_len I R l (k + 1))
theorem qfs_get (I : Nat → Int32) (R : Nat → Option Nat) : ∀ (l : List Bool) (k j : Nat) (b : Bool), l[j]? = some b → (qfs I R l k)[j]? = some (if b = true then va_rf (R (k + j)) else .int (I (k + j)))
  | [], _, j, b, h => by simp at h
  | c :: l, k, 0, b, h => by
    simp only [List.getElem?_cons_zero, Option.some.injEq] at h
    subst h
    rfl
  | c :: l, k, j + 1, b, h => by
    simp only [List.getElem?_cons_succ] at h
    have := qfs_get I R l (k + 1) j b h
    rw [show k + (j + 1) = k + 1 + j by omega, ← this]
    rfl
/-- the row that an array's cell holds -/
def qrow (t : Nat) (m : qM) (a : Nat) : (Nat → Int32) ⊕ (Nat → Int64) ⊕ (Nat → UInt32) ⊕ (Nat → UInt64) ⊕ (Nat → Option Nat) :=
  if t < 3 then .inl (m.1 a) else if t = 3 then .inr (.inl (m.2.2.1 a)) else if t = 4 then .inr (.inr (.inr (.inl (m.2.2.2 a)))) else .inr (.inr (.inr (.inr (m.2.1 a))))
def qe (cy : Nat → ClassId) (sh : qSh) (m : qM) (a : Nat) : va_E := match sh with
  | .inl c => .inr (c, qfs (m.1 a) (m.2.1 a) (qF c) 0)
  | .inr q => .inl (cy q.1, q.2, qrow q.1 m a)
abbrev eL (E : qE) : Launch := E.1
abbrev eB (E : qE) : Nat := E.2.1.1
abbrev eZ (E : qE) : Nat → Prop := E.2.1.2
abbrev eK (E : qE) : va_G := E.2.2.1
abbrev eC (E : qE) : Nat → ClassId := E.2.2.2.1
abbrev eS (E : qE) : Nat → Nat := E.2.2.2.2.1
abbrev eV (E : qE) : Nat → Nat := E.2.2.2.2.2.1
abbrev eT (E : qE) : Nat → Nat := E.2.2.2.2.2.2
abbrev xP (X : qX) : Program := X.1
abbrev xE (X : qX) : Jvm.Env := X.2.1
abbrev xR (X : qX) : Room := X.2.2.1
abbrev xS (X : qX) : State := X.2.2.2.1
abbrev xM (X : qX) : MethodId := X.2.2.2.2.1
abbrev xA (X : qX) : Array Value := X.2.2.2.2.2.1
abbrev xB (X : qX) : List Frame := X.2.2.2.2.2.2.1
abbrev xH (X : qX) : Method := X.2.2.2.2.2.2.2.1
abbrev xC (X : qX) : Code := X.2.2.2.2.2.2.2.2
def qA (E : qE) : Addr → Prop := fun q => eB E ≤ q ∧ ¬ eZ E q
/-- the cell a has that shape -/
def gAt (g : qG) (a : Nat) (sh : qSh) : Prop := g.1 a = some sh
def Pict (E : qE) (g : qG) (m : qM) (H : Heap) : Prop := H.size = g.2 ∧ ∀ (a : Nat) (sh : qSh), g.1 a = some sh → qA E a ∧ va_at (eK E) vwCl (a, qe (eC E) sh m a) H
theorem Pict.lt {E : qE} {g : qG} {m : qM} {H : Heap} (h : Pict E g m H) {a : Nat} {sh : qSh} (ha : gAt g a sh) : a < g.2 := h.1 ▸ (h.2 a sh ha).2.lt
theorem Pict.one {E : qE} {g : qG} {m : qM} {H : Heap} (h : Pict E g m H) {a : Nat} {sh : qSh} (ha : gAt g a sh) : va_P (eK E) vwCl [(a, qe (eC E) sh m a)] H := by
  intro k q hk
  have h0 : k < 1 := (List.getElem?_eq_some_iff.mp hk).1
  rw [show k = 0 by omega] at hk
  cases hk
  exact (h.2 a sh ha).2
/-! the words -/
def isW2 : Cond → Bool
  | .fieldLinkNest _ _ _ _ _ _ => true
  | .methodLinkNest _ _ _ _ => true
  | .castable _ _ => true
  | .declares _ => true
  | .arrayOver (.object _) => true
  | .arrayOver (.array _) => true
  | _ => false
def qgood (w : Cond) : Bool := goodWord w || isW2 w
def InT (w : Cond) : Prop := w ∈ lw_tbl ∧ qgood w = true
theorem good2_at {w : Cond} {s U : State} {a a' : Array Value} (hW : s.WarmedH U.vm) (hg : qgood w = true) (h : w.before a s = true) : w.before a' U = true := by
  unfold qgood at hg
  rw [Bool.or_eq_true] at hg
  rcases hg with hg | hg
  · exact word_at hW (good_of_word hg) h
  · cases w with
    | fieldLinkNest x1 x2 x3 x4 x5 x6 => exact va_Nw.use rfl (va_Nw.warmF hW (va_Nw.of rfl h))
    | methodLinkNest x1 x2 x3 x4 => exact va_Nw.use rfl (va_Nw.warmM hW (va_Nw.of rfl h))
    | castable x1 x2 => exact va_Nw.use rfl (va_Nw.warmC hW (va_Nw.of rfl h))
    | declares x1 =>
      have h1 : (Cond.declares x1).before a (s.setVm U.vm) = true := by rw [Cond.declares_setVm hW.alike]; exact h
      exact va_tabs rfl (rfl : (s.setVm U.vm).vm = U.vm) h1
    | arrayOver t =>
      cases t with
      | object C => exact va_AO.use (va_AO.moved hW.alike (va_AO.of h))
      | array C => exact over_moved hW.alike h
      | _ => exact absurd hg (by simp [isW2])
    | _ => exact absurd hg (by simp [isW2])
