/-! ===== words by numbers alone: days, plans, meetings ===== -/
def brC (c : Nat → Nat) (D : Nat) : Nat := if D < c 3 then 0 else if (D - c 3) % c 1 = 0 then c 2 - (D - c 3) / c 1 else 0
def cntB (L : List (Nat → Nat)) (D : Nat) : Nat → Nat
  | 0 => 0
  | k + 1 => if 0 < brC (cAt L k) D then cntB L D k + 1 else cntB L D k
def sumB (L : List (Nat → Nat)) (D : Nat) : Nat → Nat
  | 0 => 0
  | d + 1 => sumB L D d + cntB L (D + (d + 1)) L.length
def mIn (O : kO) (d : Int32) : kR := if rng d 0 60 then (0, nI (sumB O.1.1 (O.1.2.1 2) d.toNatClampNeg), O) else (1, 0, O)
def folM (D day b : Nat) (WP : Nat → Nat × Nat) (c : Nat × Nat) : Nat × Nat := if b = 0 ∨ D + 1 < day + (1 + b / 5) then c else offr c (b + (WP (day + (1 + b / 5))).1) (1 + (WP (day + (1 + b / 5))).2)
def daM (L : List (Nat → Nat)) (D0 D day : Nat) (WP : Nat → Nat × Nat) : Nat → Nat × Nat
  | 0 => WP (day + 1)
  | k + 1 => folM D day (brC (cAt L k) (D0 + day)) WP (daM L D0 D day WP k)
def plM (L : List (Nat → Nat)) (D0 D : Nat) : Nat → Nat → Nat × Nat
  | 0 => fun _ => (0, 0)
  | k + 1 => fun j => if j = D - k then daM L D0 D (D - k) (plM L D0 D k) L.length else plM L D0 D k j
def mWor (O : kO) (d : Int32) : kR := if rng d 0 60 then (0, nI (if d.toNatClampNeg = 0 then 0 else (plM O.1.1 (O.1.2.1 2) d.toNatClampNeg d.toNatClampNeg 1).1), O) else (1, 0, O)
def mFew (O : kO) (d : Int32) : kR := if rng d 0 60 then (0, nI (if d.toNatClampNeg = 0 then 0 else (plM O.1.1 (O.1.2.1 2) d.toNatClampNeg d.toNatClampNeg 1).2), O) else (1, 0, O)
abbrev pOn (c : Nat → Nat) (d : Nat) : Prop := c 3 ≤ d ∧ (d - c 3) % c 1 = 0
def scM (p : Nat) (c : Nat → Nat) (last : Nat) : Nat → Nat → Nat
  | 0, d => d
  | n + 1, d => if last < d then d else if pOn c d then d else scM p c last n (d + p)
def laM (a b : Nat → Nat) : Nat := a 3 + b 3 + a 1 * b 1
def dyM (a b : Nat → Nat) : Nat := scM (a 1) b (laM a b) (laM a b + 1) (a 3)
def mMeet (O : kO) (a b : Int32) : kR := match plV O.1.1 a, plV O.1.1 b with
  | some i, some j => if a = b then (2, 0, O) else if dyM (cAt O.1.1 i) (cAt O.1.1 j) ≤ laM (cAt O.1.1 i) (cAt O.1.1 j) then (0, nI (dyM (cAt O.1.1 i) (cAt O.1.1 j)), O) else (3, 0, O)
  | _, _ => (1, 0, O)
def lcmV (L : List (Nat → Nat)) : Nat → Nat
  | 0 => 1
  | i + 1 => Nat.lcm (lcmV L i) (cAt L i 1)
def mAli (O : kO) : Nat × Value × kO := if O.1.1.length = 0 then (1, .null, O) else (0, .long (lN (lcmV O.1.1 O.1.1.length)), O)
