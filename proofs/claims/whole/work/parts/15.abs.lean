/-! WHAT OF THE MATHEMATICAL STATE THE CLASS'S CELLS HOLD (x_), AND THE REFERENCE'S (y_) -/
def xS (M : am_M) (g : tG) : Prop := mI M 1 8 = nI (gs g 0) ∧ mI M 2 5 = nI (gs g 1) ∧ mI M 2 6 = nI (gs g 2) ∧ mI M 2 7 = nI (gs g 3) ∧ mI M 1 10 = nI (gs g 4) ∧ mI M 1 9 = nI (gs g 5) ∧ mI M 1 11 = nI (gs g 6) ∧ mI M 1 12 = nI (gs g 7) ∧ mI M 1 13 = nI (gs g 8) ∧ ∀ k, k < 4 → mI M 27 k = nI (gs g (9 + k))
def xV (M : am_M) (g : tG) : Prop := ∀ v, v < gs g 1 → mI M 3 v = nI (ga g 0 v) ∧ mI M 4 v = gi g 0 v ∧ mI M 9 v = gi g 1 v ∧ mI M 10 v = gi g 2 v ∧ mI M 11 v = nI (ga g 1 v)
def xA (M : am_M) (g : tG) : Prop := ∀ a, a < gs g 2 → mI M 5 a = nI (ga g 2 a) ∧ mI M 6 a = nI (ga g 3 a) ∧ mI M 7 a = gi g 3 a
def xN (M : am_M) (g : tG) : Prop := ∀ n, n < 5 → mI M (28 + 13 * n) 4 = nI (ga g 4 n) ∧ mI M (28 + 13 * n) 5 = nI (ga g 5 n) ∧ mI M (28 + 13 * n) 6 = nI (ga g 6 n)
/-- the letter at the cell a is t -/
def isL (M : am_M) (a : Nat) (t : tL) : Prop := am_ok M a 3 0 ∧ 126 ≤ a ∧ mI M a 0 = nI t.1 ∧ mI M a 1 = nI t.2.1 ∧ mI M a 2 = nI t.2.2.1 ∧ mI M a 3 = nI t.2.2.2.1 ∧ mI M a 4 = nI t.2.2.2.2.1 ∧
  ∃ p q r, mR M a 5 = some p ∧ mR M a 6 = some q ∧ mR M a 7 = some r ∧ am_ok M p 10 t.2.2.2.2.2.length ∧ am_ok M q 10 t.2.2.2.2.2.length ∧ am_ok M r 10 t.2.2.2.2.2.length ∧ 126 ≤ p ∧ 126 ≤ q ∧ 126 ≤ r ∧
  ∀ j e, t.2.2.2.2.2[j]? = some e → mI M p j = nI e.1 ∧ mI M q j = e.2.1 ∧ mI M r j = nI e.2.2
def isO (M : am_M) (r : Option Nat) (t : Option tL) : Prop := match r, t with
  | none, none => True
  | some a, some t => isL M a t
  | _, _ => False
def xE (M : am_M) (g : tG) : Prop := mI M 24 1 = nI (gn g).length ∧ (gn g).length ≤ 60 ∧ ∀ i t, (gn g)[i]? = some t → ∃ a, mR M 25 i = some a ∧ isL M a t
def xH (M : am_M) (g : tG) : Prop := ∀ n o w, n < 5 → o < 5 → w < 2 → isO M (mR M (28 + 13 * n + 1) ((ga g 4 n + w) % 2 * 5 + o)) (gl g w n o) ∧ isO M (mR M (28 + 13 * n + 2) ((ga g 4 n + 1 + w) % 2 * 5 + o)) (gl g (2 + w) n o)
def mkI (r : Option Nat) : Int32 := match r with
  | none => -1
  | some k => nI k
def mkV (M : am_M) (g : tG) (n p i : Nat) : Prop := mI M p 1 = mkI (gm g n i) ∧ (gm g n i ≠ none → ∀ v, v < gs g 1 → ga g 0 v = n → mI M (p + 2) v = (gv g n i v).1 ∧ mI M (p + 3) v = (gv g n i v).2.1 ∧ mI M (p + 4) v = nI (gv g n i v).2.2)
def xM (M : am_M) (g : tG) : Prop := ∀ n, n < 5 → ∃ p q, mR M (28 + 13 * n) 2 = some p ∧ mR M (28 + 13 * n) 3 = some q ∧ ((p = 28 + 13 * n + 3 ∧ q = 28 + 13 * n + 8) ∨ (p = 28 + 13 * n + 8 ∧ q = 28 + 13 * n + 3)) ∧ mkV M g n p 1 ∧ mkV M g n q 0
/-- the booleans among the cells of marks are booleans -/
def xZ (M : am_M) : Prop := ∀ n, n < 5 → ∀ v, v < 16 → (mI M (28 + 13 * n + 7) v = 0 ∨ mI M (28 + 13 * n + 7) v = 1) ∧ (mI M (28 + 13 * n + 12) v = 0 ∨ mI M (28 + 13 * n + 12) v = 1)
def absX (M : am_M) (g : tG) : Prop := xS M g ∧ xV M g ∧ xA M g ∧ xN M g ∧ xE M g ∧ xH M g ∧ xM M g ∧ xZ M
/-- bounds -/
def okL (g : tG) (t : tL) : Prop := t.1 ≤ gs g 7 ∧ t.2.1 ≤ 199 ∧ t.2.2.1 < gs g 0 ∧ t.2.2.2.1 < gs g 0 ∧ t.2.2.1 ≠ t.2.2.2.1 ∧ t.2.2.2.2.1 ≤ 16 ∧ t.2.2.2.2.2.length ≤ 40 ∧ ∀ e ∈ t.2.2.2.2.2, e.1 < gs g 1 ∧ e.2.2 < 40
def gB (g : tG) : Prop := 2 ≤ gs g 0 ∧ gs g 0 ≤ 5 ∧ gs g 1 ≤ 16 ∧ gs g 2 ≤ 40 ∧ gs g 3 ≤ 3 ∧ gs g 4 ≤ 1 ∧ gs g 5 ≤ 50 ∧ gs g 6 ≤ 1 ∧ gs g 7 ≤ 1000 ∧ (gs g 3 = 3 → gs g 4 = 0) ∧ (∀ v, v < gs g 1 → ga g 0 v < gs g 0 ∧ ga g 1 v ≤ 1) ∧ (∀ a, a < gs g 2 → ga g 2 a < gs g 1 ∧ ga g 3 a < gs g 1) ∧ (∀ n, n < 5 → ga g 4 n ≤ 200 ∧ ga g 5 n ≤ 1 ∧ ga g 6 n ≤ 1) ∧ (gn g).length ≤ 60 ∧ (∀ t ∈ gn g, okL g t) ∧ ∀ k n o t, gl g k n o = some t → okL g t
/-- of the reference -/
def yL (M : am_M) (s : Nat) (t : tL) : Prop := mI M 106 s = nI t.1 ∧ mI M 107 s = nI t.2.1 ∧ mI M 108 s = nI t.2.2.1 ∧ mI M 109 s = nI t.2.2.2.1 ∧ mI M 110 s = nI t.2.2.2.2.1 ∧ mI M 111 s = nI t.2.2.2.2.2.length ∧ ∀ j e, t.2.2.2.2.2[j]? = some e → mI M 112 (40 * s + j) = nI e.1 ∧ mI M 113 (40 * s + j) = e.2.1 ∧ mI M 114 (40 * s + j) = nI e.2.2
def yO (M : am_M) (s : Nat) (t : Option tL) : Prop := match t with
  | none => mI M 105 s = 0
  | some t => mI M 105 s = 1 ∧ yL M s t
