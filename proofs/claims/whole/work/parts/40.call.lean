/-! THE CALLS: what each answers and leaves (k_) -/
theorem ga_us (g : tG) (k v : Nat) : ga (us g k v) = ga g := rfl
theorem gi_us (g : tG) (k v : Nat) : gi (us g k v) = gi g := rfl
theorem gn_us (g : tG) (k v : Nat) : gn (us g k v) = gn g := rfl
theorem gl_us (g : tG) (k v : Nat) : gl (us g k v) = gl g := rfl
theorem gm_us (g : tG) (k v : Nat) : gm (us g k v) = gm g := rfl
theorem gv_us (g : tG) (k v : Nat) : gv (us g k v) = gv g := rfl
theorem gs_ua (g : tG) (k i v : Nat) : gs (ua g k i v) = gs g := rfl
theorem gi_ua (g : tG) (k i v : Nat) : gi (ua g k i v) = gi g := rfl
theorem gn_ua (g : tG) (k i v : Nat) : gn (ua g k i v) = gn g := rfl
theorem gl_ua (g : tG) (k i v : Nat) : gl (ua g k i v) = gl g := rfl
theorem gm_ua (g : tG) (k i v : Nat) : gm (ua g k i v) = gm g := rfl
theorem gv_ua (g : tG) (k i v : Nat) : gv (ua g k i v) = gv g := rfl
theorem gs_ui (g : tG) (k i : Nat) (v : Int32) : gs (ui g k i v) = gs g := rfl
theorem ga_ui (g : tG) (k i : Nat) (v : Int32) : ga (ui g k i v) = ga g := rfl
theorem gn_ui (g : tG) (k i : Nat) (v : Int32) : gn (ui g k i v) = gn g := rfl
theorem gl_ui (g : tG) (k i : Nat) (v : Int32) : gl (ui g k i v) = gl g := rfl
theorem gm_ui (g : tG) (k i : Nat) (v : Int32) : gm (ui g k i v) = gm g := rfl
theorem gv_ui (g : tG) (k i : Nat) (v : Int32) : gv (ui g k i v) = gv g := rfl
def inN (x : Int32) (k : Nat) : Option Nat := if x < 0 then none else if nI k ≤ x then none else some x.toNatClampNeg
theorem inN_cases (x : Int32) {k : Nat} (hk : k < 2 ^ 31) : (inN x k = none ∧ (x < 0 ∨ (¬ x < 0 ∧ nI k ≤ x))) ∨ ∃ j, j < k ∧ x = nI j ∧ inN x k = some j := by
  by_cases h0 : x < 0
  · exact Or.inl ⟨by unfold inN; rw [if_pos h0], Or.inl h0⟩
  · by_cases h1 : nI k ≤ x
    · exact Or.inl ⟨by unfold inN; rw [if_neg h0, if_pos h1], Or.inr ⟨h0, h1⟩⟩
    · obtain ⟨j, hj, rfl⟩ := nI_of h0
      refine Or.inr ⟨j, ?_, rfl, ?_⟩
      · exact Nat.lt_of_not_le (fun z => h1 (nI_le z hj))
      · unfold inN
        rw [if_neg h0, if_neg h1, nI_clamp hj]
theorem inN_no {x : Int32} {k : Nat} {α : Type} {a b : α} (h : x < 0 ∨ (¬ x < 0 ∧ nI k ≤ x)) : (if x < 0 then a else if nI k ≤ x then a else b) = a := by
  rcases h with h | h
  · rw [if_pos h]
  · rw [if_neg h.1, if_pos h.2]
theorem inN_yes {j k : Nat} {α : Type} {a b : α} (hj : j < k) (hk : k < 2 ^ 31) : (if nI j < 0 then a else if nI k ≤ nI j then a else b) = b := by
  rw [if_neg (nI_pos (by omega)), if_neg (nI_ge hj hk)]
def g_new (n : Nat) : tG := (fun k => if k = 0 then n else 0, fun _ _ => 0, fun _ _ => 0, [], fun _ _ _ => none, fun _ _ => none, fun _ _ _ => (0, 0, 0))
def g_vertex (n : Nat) (y : Int32) (g : tG) : tG := us (ui (ui (ui (ua (ua g 0 (gs g 1) n) 1 (gs g 1) 1) 0 (gs g 1) y) 1 (gs g 1) y) 2 (gs g 1) 0) 1 (gs g 1 + 1)
def g_arc (a b : Nat) (w : Int32) (g : tG) : tG := us (ui (ua (ua g 2 (gs g 2) a) 3 (gs g 2) b) 3 (gs g 2) w) 2 (gs g 2 + 1)
def k_nodes (x : Int32) (g : tG) : Int32 × tG := if x < 2 then (-1, g) else if 5 < x then (-1, g) else (nI (gs g 1), g_new x.toNatClampNeg)
def k_vertex (x y : Int32) (g : tG) : Int32 × tG := match inN x (gs g 0) with
  | none => (-1, g)
  | some n => if gs g 6 = 1 then (-2, g) else if 16 ≤ gs g 1 then (-3, g) else (nI (gs g 1), g_vertex n y g)
def k_arc (x y z : Int32) (g : tG) : Int32 × tG := match inN x (gs g 1) with
  | none => (-1, g)
  | some a => match inN y (gs g 1) with
    | none => (-1, g)
    | some b => if z < -1000 then (-1, g) else if 1000 < z then (-1, g) else if gs g 6 = 1 then (-2, g) else if 40 ≤ gs g 2 then (-3, g) else (nI (gs g 2), g_arc a b z g)
def k_kind (x : Int32) (g : tG) : Int32 × tG := match inN x 4 with
  | none => (-1, g)
  | some k => if gs g 6 = 1 then (-2, g) else (nI (gs g 3), us (us g 3 k) 4 0)
def k_joined (b : Nat) (g : tG) : Int32 × tG := if b = 1 ∧ gs g 3 = 3 then (-2, g) else (nI (gs g 4), us g 4 b)
def k_every (x : Int32) (g : tG) : Int32 × tG := match inN x 51 with
  | none => (-1, g)
  | some k => if gs g 6 = 1 then (-2, g) else (nI (gs g 5), us g 5 k)
def k_start (g : tG) : Int32 × tG := if gs g 6 = 1 then (-2, g) else (nI (gn (g_start g)).length, g_start g)
def t_says (t : tL) (y : Int32) : Int32 := if y = 0 then nI t.2.2.1 else if y = 1 then nI t.2.2.2.1 else if y = 2 then nI t.2.1 else if y = 3 then nI t.1 else if y = 4 then nI t.2.2.2.2.2.length else if y = 5 then nI t.2.2.2.2.1 else -1
def k_letter (x y : Int32) (g : tG) : Int32 := match inN x (gn g).length with
  | none => -1
  | some i => match (gn g)[i]? with
    | none => -1
    | some t => t_says t y
def k_NONE : Int64 := -9223372036854775808
def k_entry (x y z : Int32) (g : tG) : Int64 := match inN x (gn g).length with
  | none => k_NONE
  | some i => match (gn g)[i]? with
    | none => k_NONE
    | some t => match inN y t.2.2.2.2.2.length with
      | none => k_NONE
      | some j => match t.2.2.2.2.2[j]? with
        | none => k_NONE
        | some e => if z = 0 then (nI e.1).toInt64 else if z = 1 then e.2.1.toInt64 else k_NONE
def k_deliver (x : Int32) (g : tG) : Int32 × tG := match inN x (gn g).length with
  | none => (-1, g)
  | some i => match (gn g)[i]? with
    | none => (-1, g)
    | some t => (nI (t_how g t), g_deliver i t g)
def k_lose (x : Int32) (g : tG) : Int32 × tG := match inN x (gn g).length with
  | none => (-1, g)
  | some i => (nI ((gn g).length - 1), g_out i g)
def k_copy (x : Int32) (g : tG) : Int32 × tG := match inN x (gn g).length with
  | none => (-1, g)
  | some i => match (gn g)[i]? with
    | none => (-1, g)
    | some t => if (gn g).length < 60 then (nI ((gn g).length + 1), un g (gn g ++ [t])) else (-3, g)
def g_re1 (a b w : Nat) (g : tG) : tG := match gl g (2 + w) a b with
  | none => g
  | some t => un g (t_push (gn g) t)
def t_re1 (a b w : Nat) (g : tG) : Nat := match gl g (2 + w) a b with
  | none => 0
  | some _ => if (gn g).length < 60 then 1 else 0
def k_resend (x y : Int32) (g : tG) : Int32 × tG := match inN x (gs g 0) with
  | none => (-1, g)
  | some a => match inN y (gs g 0) with
    | none => (-1, g)
    | some b => if a = b then (-1, g) else if gs g 6 = 0 ∨ ga g 6 a = 1 then (-2, g) else (nI (t_re1 a b 0 g + t_re1 a b 1 (g_re1 a b 0 g)), g_re1 a b 1 (g_re1 a b 0 g))
def k_crash (x : Int32) (g : tG) : Int32 × tG := match inN x (gs g 0) with
  | none => (-1, g)
  | some n => if gs g 6 = 0 ∨ ga g 6 n = 1 then (-2, g) else (1, g_crash n g)
noncomputable def k_back (g : tG) : Int32 × tG := c_if (gs g 6 = 0 ∨ ¬ t_anyD g) (-2, g) (mkI (t_mm g), g_back ((t_mm g).getD 0) g)
noncomputable def k_move (x y : Int32) (g : tG) : Int32 × tG := match inN x (gs g 1) with
  | none => (-1, g)
  | some v => match inN y (gs g 0) with
    | none => (-1, g)
    | some n => c_if (gs g 6 = 0 ∨ ¬ t_lev g) (-2, g) (nI (ga g 0 v), g_move v n g)
def t_tell (h : tG) (v : Nat) (y : Int32) : Int64 := if y = 0 then (gi h 1 v).toInt64 else if y = 1 then (gi h 2 v).toInt64 else if y = 2 then (nI (ga h 1 v)).toInt64 else k_NONE
def k_of (x y : Int32) (g : tG) : Int64 := match inN x (gs g 1) with
  | none => k_NONE
  | some v => if y = 3 then (nI (ga g 0 v)).toInt64 else if ga g 6 (ga g 0 v) = 1 then k_NONE else t_tell g v y
/-- one node alone -/
def o_first (g : tG) : Nat → tG := fun i => itr (fun v h => ua (ui (ui h 1 v (gi g 0 v)) 2 v 0) 1 v 1) i g
def o_boxP (h : tG) (i : Nat) : tB := itr (fun a B => if ga h 1 (ga h 2 a) = 1 then t_hear (gs h 3) B (ga h 3 a) (t_msg (gs h 3) (gi h 1 (ga h 2 a)) (gi h 3 a)) a else B) i (fun _ => none)
def o_takeP (h : tG) (i : Nat) : tG := itr (fun v h' => g_settle (o_boxP h (gs h 2)) v h') i h
def o_round (h : tG) : tG := o_takeP h (gs h 1)
def o_at (g : tG) (r : Nat) : tG := itr (fun _ h => o_round h) r (o_first g (gs g 1))
def k_alone (x y z : Int32) (g : tG) : Int64 := match inN x (gs g 1) with
  | none => k_NONE
  | some v => match inN y 201 with
    | none => k_NONE
    | some r => t_tell (o_at g r) v z
def t_ats (g : tG) (n : Nat) : Nat := itr (fun v c => if ga g 0 v = n then c + 1 else c) (gs g 1) 0
def k_node (x y : Int32) (g : tG) : Int32 := match inN x (gs g 0) with
  | none => -1
  | some n => if y = 0 then nI (ga g 4 n) else if y = 1 then nI (ga g 5 n) else if y = 2 then nI (ga g 6 n) else if y = 3 then nI (t_held g n) else if y = 4 then nI (t_ats g n) else if y = 5 then mkI (gm g n 1) else -1
def k_told (x : Int32) (g : tG) : Int32 := if x = 0 then nI (gs g 1) else if x = 1 then nI (gs g 2) else if x = 2 then nI (gs g 0) else if x = 3 then nI (gs g 3) else if x = 4 then nI (gn g).length else if x = 5 then nI (gs g 8) else if x = 6 then nI (gs g 9) else if x = 7 then nI (gs g 10) else if x = 8 then nI (gs g 11) else if x = 9 then nI (gs g 12) else if x = 10 then nI (gs g 7) else if x = 11 then nI (gs g 5) else -1
/-! THE INVARIANT -/
def pm (B e r : Nat) : Nat := if e = 0 then B else if e * (r / e) ≤ B then B else e * (r / e)
def t_any (g : tG) (t : tL) : Prop := t ∈ gn g ∨ ∃ k n o, gl g k n o = some t
def gI0 (g : tG) : Prop := gn g = [] ∧ (∀ k n o, gl g k n o = none) ∧ (∀ n, ga g 4 n = 0 ∧ ga g 5 n = 0 ∧ ga g 6 n = 0) ∧ (∀ n i, gm g n i = none) ∧ gs g 7 = 0
def gIL (g : tG) : Prop := ∀ t, t_any g t → t.1 = gs g 7 → t.2.1 ≤ ga g 4 t.2.2.1
def gIR (g : tG) : Prop := ∀ n o, n < gs g 0 → o < gs g 0 → ga g 4 n ≤ ga g 4 o + 1
def gIH (g : tG) : Prop := ∀ w n o t, w < 2 → gl g w n o = some t → t.1 = gs g 7 ∧ t.2.1 = ga g 4 n + w ∧ t.2.2.1 = o ∧ t.2.2.2.1 = n
def gIE (g : tG) : Prop := ∀ n, n < gs g 0 → ga g 4 n = 200 → ga g 5 n = 1 ∨ ga g 6 n = 1
def gIM (g : tG) : Prop := ∃ B, ∀ n, n < gs g 0 → B ≤ min (ga g 4 n) 199 ∧ gm g n 1 = some (pm B (gs g 5) (min (ga g 4 n) 199)) ∧ (pm B (gs g 5) (min (ga g 4 n) 199) ≠ B → gm g n 0 = some (pm B (gs g 5) (pm B (gs g 5) (min (ga g 4 n) 199) - 1)))
def gVB (g : tG) : Prop := ∀ n i v, gm g n i ≠ none → v < gs g 1 → (gv g n i v).2.2 ≤ 1
def gI (c : Nat) (g : tG) : Prop := gB g ∧ gs g 7 ≤ c ∧ gMB g ∧ (gs g 6 = 0 → gI0 g) ∧ gIL g ∧ gIR g ∧ gIH g ∧ gIE g ∧ (gs g 6 = 1 → gIM g) ∧ gVB g
