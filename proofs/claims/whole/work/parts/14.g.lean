/-! THE MATHEMATICAL STATE: numbers by their names, arrays of numbers, arrays of ints, THE NET, kept and held letters, marks -/
/-- a loop over 0 .. n - 1 -/
def itr {α : Type} (f : Nat → α → α) : Nat → α → α
  | 0, x => x
  | n + 1, x => f n (itr f n x)
abbrev tE : Type := Nat × Int32 × Nat
/-- epoch, round, from, to, active ones, entries -/
abbrev tL : Type := Nat × Nat × Nat × Nat × Nat × List tE
/-- numbers (0 nodes, 1 vertices, 2 arcs, 3 kind, 4 joined, 5 every, 6 started, 7 epoch, 8 written, 9 .. 12 came), arrays of numbers (0 home, 1 active, 2 from, 3 to, 4 round, 5 ended, 6 down), of ints (0 first, 1 value, 2 total, 3 weight), the net, letters (0 held of the round, 1 of the next, 2 kept of the round before, 3 of the round), marks' rounds, marks -/
abbrev tG : Type := (Nat → Nat) × (Nat → Nat → Nat) × (Nat → Nat → Int32) × List tL × (Nat → Nat → Nat → Option tL) × (Nat → Nat → Option Nat) × (Nat → Nat → Nat → Int32 × Int32 × Nat)
def gs (g : tG) : Nat → Nat := g.1
def ga (g : tG) : Nat → Nat → Nat := g.2.1
def gi (g : tG) : Nat → Nat → Int32 := g.2.2.1
def gn (g : tG) : List tL := g.2.2.2.1
def gl (g : tG) : Nat → Nat → Nat → Option tL := g.2.2.2.2.1
def gm (g : tG) : Nat → Nat → Option Nat := g.2.2.2.2.2.1
def gv (g : tG) : Nat → Nat → Nat → Int32 × Int32 × Nat := g.2.2.2.2.2.2
def us (g : tG) (k v : Nat) : tG := (va_up g.1 k v, g.2)
def ua (g : tG) (k i v : Nat) : tG := (g.1, am_u g.2.1 k i v, g.2.2)
def ui (g : tG) (k i : Nat) (v : Int32) : tG := (g.1, g.2.1, am_u g.2.2.1 k i v, g.2.2.2)
def un (g : tG) (x : List tL) : tG := (g.1, g.2.1, g.2.2.1, x, g.2.2.2.2)
def ul (g : tG) (f : Nat → Nat → Nat → Option tL) : tG := (g.1, g.2.1, g.2.2.1, g.2.2.2.1, f, g.2.2.2.2.2)
def um (g : tG) (f : Nat → Nat → Option Nat) : tG := (g.1, g.2.1, g.2.2.1, g.2.2.2.1, g.2.2.2.2.1, f, g.2.2.2.2.2.2)
def uv (g : tG) (f : Nat → Nat → Nat → Int32 × Int32 × Nat) : tG := (g.1, g.2.1, g.2.2.1, g.2.2.2.1, g.2.2.2.2.1, g.2.2.2.2.2.1, f)
/-- the fold of two messages, a message -/
def t_fold (k : Nat) (a b : Int32) : Int32 := if k = 0 then (if b < a then b else a) else if k = 1 then (if a < b then b else a) else a + b
def t_msg (k : Nat) (x w : Int32) : Int32 := if k = 1 then (if w < x then w else x) else if k = 2 then x * w else x + w
def t_addJ (k v : Nat) (m : Int32) (a : Nat) : List tE → List tE
  | [] => [(v, m, a)]
  | e :: es => if e.1 = v then (e.1, t_fold k e.2.1 m, e.2.2) :: es else e :: t_addJ k v m a es
def t_add (j k : Nat) (es : List tE) (v : Nat) (m : Int32) (a : Nat) : List tE := if j = 0 then es ++ [(v, m, a)] else t_addJ k v m a es
/-- the entries of the letter from n to o: of vertex v, of all -/
def t_entV (g : tG) (o v : Nat) : Nat → List tE → List tE := itr (fun a es => if ga g 2 a = v ∧ ga g 0 (ga g 3 a) = o then t_add (gs g 4) (gs g 3) es (ga g 3 a) (t_msg (gs g 3) (gi g 1 v) (gi g 3 a)) a else es)
def t_ent (g : tG) (n o : Nat) : List tE := itr (fun v es => if ga g 0 v = n ∧ ga g 1 v = 1 then t_entV g o v (gs g 2) es else es) (gs g 1) []
def t_act (g : tG) (n : Nat) : Nat := itr (fun v c => if ga g 0 v = n ∧ ga g 1 v = 1 then c + 1 else c) (gs g 1) 0
def t_let (g : tG) (n o : Nat) : tL := (gs g 7, ga g 4 n, n, o, t_act g n, t_ent g n o)
def t_push (x : List tL) (t : tL) : List tL := if x.length < 60 then x ++ [t] else x
def l_set (f : Nat → Nat → Nat → Option tL) (k n o : Nat) (t : Option tL) : Nat → Nat → Nat → Option tL := fun k' n' o' => if k' = k ∧ n' = n ∧ o' = o then t else f k' n' o'
def g_write1 (n o : Nat) (g : tG) : tG := if o = n then g else un (us (ul g (l_set (gl g) 3 n o (some (t_let g n o)))) 8 (gs g 8 + 1)) (t_push (gn g) (t_let g n o))
def g_write (n : Nat) (g : tG) : tG := itr (fun o => g_write1 n o) (gs g 0) g
def g_mark (n : Nat) (g : tG) : tG := uv (um g (fun n' i => if n' = n then (if i = 0 then gm g n 1 else some (ga g 4 n)) else gm g n' i)) (fun n' i v => if n' = n then (if i = 0 then gv g n 1 v else (gi g 1 v, gi g 2 v, ga g 1 v)) else gv g n' i v)
def g_shift (n : Nat) (g : tG) : tG := ul g (fun k n' o => if n' = n then (if k = 0 then gl g 1 n o else if k = 2 then gl g 3 n o else if k = 1 ∨ k = 3 then none else gl g k n o) else gl g k n' o)
def t_isM (g : tG) (r : Nat) : Prop := r = 0 ∨ (0 < gs g 5 ∧ r % gs g 5 = 0)
def g_come (n r : Nat) (g : tG) : tG := if r = 200 then ua (g_shift n (ua g 4 n r)) 5 n 1 else if r = 0 ∨ (0 < gs g 5 ∧ r % gs g 5 = 0) then g_write n (g_mark n (g_shift n (ua g 4 n r))) else g_write n (g_shift n (ua g 4 n r))
/-- what was heard by each vertex -/
abbrev tB : Type := Nat → Option (Int32 × Nat)
def t_hear (k : Nat) (B : tB) (v : Nat) (m : Int32) (a : Nat) : tB := va_up B v (match B v with
  | none => some (m, a)
  | some (x, b) => if k = 3 then (if b < a then some (m, a) else some (x, b)) else some (t_fold k x m, b))
def t_hearL (k : Nat) (B : tB) (es : List tE) : tB := es.foldl (fun B e => t_hear k B e.1 e.2.1 e.2.2) B
def t_behind (k : Nat) (B : tB) (v : Nat) (x : Int32) : Int32 := match B v with
  | none => if k = 2 then 0 else x
  | some (m, _) => if k = 0 ∨ k = 1 then t_fold k x m else m
def t_loc (g : tG) (n : Nat) : tB := itr (fun a B => if ga g 0 (ga g 2 a) = n ∧ ga g 0 (ga g 3 a) = n ∧ ga g 1 (ga g 2 a) = 1 then t_hear (gs g 3) B (ga g 3 a) (t_msg (gs g 3) (gi g 1 (ga g 2 a)) (gi g 3 a)) a else B) (gs g 2) (fun _ => none)
def t_box (g : tG) (n : Nat) : tB := itr (fun o B => match gl g 0 n o with
  | none => B
  | some t => t_hearL (gs g 3) B t.2.2.2.2.2) (gs g 0) (t_loc g n)
def g_settle (B : tB) (v : Nat) (g : tG) : tG := if gs g 3 = 2 then ua (ui (ui g 1 v (t_behind 2 B v (gi g 1 v))) 2 v (gi g 2 v + t_behind 2 B v (gi g 1 v))) 1 v (if t_behind 2 B v (gi g 1 v) = 0 then 0 else 1) else ua (ui g 1 v (t_behind (gs g 3) B v (gi g 1 v))) 1 v (if t_behind (gs g 3) B v (gi g 1 v) = gi g 1 v then 0 else 1)
def g_take (n : Nat) (g : tG) : tG := itr (fun v h => if ga g 0 v = n then g_settle (t_box g n) v h else h) (gs g 1) g
def t_held (g : tG) (n : Nat) : Nat := itr (fun o c => if (gl g 0 n o).isSome = true then c + 1 else c) (gs g 0) 0
def t_toldA (g : tG) (n : Nat) : Nat := itr (fun o c => match gl g 0 n o with
  | none => c
  | some t => c + t.2.2.2.2.1) (gs g 0) (t_act g n)
def t_full (g : tG) (n : Nat) : Prop := ga g 5 n = 0 ∧ t_held g n = gs g 0 - 1
def g_fin (n : Nat) (g : tG) : tG := if t_toldA g n = 0 then ua g 5 n 1 else g_come n (ga g 4 n + 1) (g_take n g)
def g_on (n : Nat) : Nat → tG → tG
  | 0, g => g
  | f + 1, g => if ga g 5 n = 0 ∧ t_held g n = gs g 0 - 1 then g_on n f (g_fin n g) else g
/-- what comes of a letter that is delivered: 0 taken, 1 old, 2 twice, 3 gone -/
def t_how (g : tG) (t : tL) : Nat := if ga g 6 t.2.2.2.1 = 1 then 3 else if t.1 ≠ gs g 7 ∨ t.2.1 < ga g 4 t.2.2.2.1 ∨ ga g 5 t.2.2.2.1 = 1 then 1 else if (gl g (t.2.1 - ga g 4 t.2.2.2.1) t.2.2.2.1 t.2.2.1).isSome = true then 2 else 0
def g_out (i : Nat) (g : tG) : tG := un g ((gn g).eraseIdx i)
def g_deliver (i : Nat) (t : tL) (g : tG) : tG := if t_how g t = 0 then g_on t.2.2.2.1 201 (us (g_out i (ul g (l_set (gl g) (t.2.1 - ga g 4 t.2.2.2.1) t.2.2.2.1 t.2.2.1 (some t)))) 9 (gs g 9 + 1)) else us (g_out i g) (9 + t_how g t) (gs g (9 + t_how g t) + 1)
def g_start (g : tG) : tG := itr (fun n => g_come n 0) (gs g 0) (us g 6 1)
def g_forget (n : Nat) (g : tG) : tG := ul g (fun k n' o => if n' = n then none else gl g k n' o)
def g_crash (n : Nat) (g : tG) : tG := g_forget n (ua (ua g 5 n 0) 6 n 1)
def t_has (g : tG) (n : Nat) (r : Option Nat) : Prop := gm g n 1 = r ∨ gm g n 0 = r
def t_mAll (g : tG) (r : Option Nat) : Nat := itr (fun n c => if gm g n 1 = r ∨ gm g n 0 = r then c else 0) (gs g 0) 1
def t_m (g : tG) : Option Nat := if t_mAll g (gm g 0 1) = 1 then gm g 0 1 else gm g 0 0
def g_backM (n : Nat) (m : Nat) (g : tG) : tG := if gm g n 1 = some m then g else uv (um g (fun n' i => if n' = n then (if i = 0 then none else some m) else gm g n' i)) (fun n' i v => if n' = n ∧ i ≠ 0 then gv g n 0 v else gv g n' i v)
def g_restore (n v : Nat) (g : tG) : tG := if ga g 0 v = n then ua (ui (ui g 1 v (gv g n 1 v).1) 2 v (gv g n 1 v).2.1) 1 v (gv g n 1 v).2.2 else g
def g_back1 (n m : Nat) (g : tG) : tG := g_forget n (ua (ua (ua (itr (fun v => g_restore n v) (gs g 1) (g_backM n m g)) 4 n m) 5 n 0) 6 n 0)
def g_back (m : Nat) (g : tG) : tG := itr (fun n h => g_write n (g_back1 n m h)) (gs g 0) (us g 7 (gs g 7 + 1))
def g_move1 (n : Nat) (g : tG) : tG := um (g_mark n (g_forget n g)) (fun n' i => if n' = n ∧ i = 0 then none else gm (g_mark n (g_forget n g)) n' i)
def g_move (v n : Nat) (g : tG) : tG := itr (fun k h => g_write k (g_move1 k h)) (gs g 0) (us (ua g 0 v n) 7 (gs g 7 + 1))
