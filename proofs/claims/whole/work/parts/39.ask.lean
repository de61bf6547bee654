/-! WHAT IS ASKED OF THE NODES -/
theorem itr_cg {α : Type} {f f' : Nat → α → α} : ∀ (n : Nat) (x : α), (∀ i y, i < n → f i y = f' i y) → itr f n x = itr f' n x
  | 0, _, _ => rfl
  | n + 1, x, h => by rw [itr_s _ n _, itr_s _ n _, itr_cg n x (fun i y hi => h i y (by omega)), h n _ (by omega)]
theorem itr_tail {α : Type} {f : Nat → α → α} (n : Nat) (x : α) : ∀ k, (∀ i y, n ≤ i → f i y = y) → itr f (n + k) x = itr f n x
  | 0, _ => rfl
  | k + 1, h => by rw [← Nat.add_assoc, itr_s _ (n + k) _, h (n + k) _ (by omega), itr_tail n x k h]
theorem isO_some {M : am_M} {r : Option Nat} {t : Option tL} (h : isO M r t) : r.isSome = t.isSome := by
  cases r with
  | none => cases t with
    | none => rfl
    | some t => exact h.elim
  | some a => cases t with
    | none => exact h.elim
    | some t => rfl
theorem held5 {M : am_M} {g : tG} {n c p : Nat} (h : ∀ o, o < 5 → isO M (mR M c (p * 5 + o)) (gl g 0 n o)) (h5 : gs g 0 ≤ 5) (hO : ∀ o, gs g 0 ≤ o → gl g 0 n o = none) : itr (fun o c' => if (mR M c (p * 5 + o)).isSome = true then c' + 1 else c') 5 0 = t_held g n := by
  have e1 : itr (fun o c' => if (mR M c (p * 5 + o)).isSome = true then c' + 1 else c') 5 0 = itr (fun o c' => if (gl g 0 n o).isSome = true then c' + 1 else c') 5 0 := itr_cg 5 0 (fun i y hi => by rw [isO_some (h i hi)])
  have e2 := itr_tail (f := fun o c' => if (gl g 0 n o).isSome = true then c' + 1 else c') (gs g 0) 0 (5 - gs g 0) (fun i y hi => by rw [hO i hi]; rfl)
  rw [e1, show t_held g n = itr (fun o c' => if (gl g 0 n o).isSome = true then c' + 1 else c') (gs g 0) 0 from rfl, ← e2, show gs g 0 + (5 - gs g 0) = 5 by omega]
def t_anyD (g : tG) : Prop := ∃ n, n < gs g 0 ∧ ga g 6 n = 1
def t_lev (g : tG) : Prop := ∀ n, n < gs g 0 → ga g 6 n = 0 ∧ ga g 5 n = 0 ∧ ga g 4 n = ga g 4 0
def t_allM (g : tG) (r : Option Nat) : Prop := ∀ n, n < gs g 0 → gm g n 1 = r ∨ gm g n 0 = r
noncomputable def c_if {α : Type} (p : Prop) (a b : α) : α := @ite α p (Classical.propDecidable p) a b
theorem c_pos {α : Type} {p : Prop} {a b : α} (h : p) : c_if p a b = a := if_pos h
theorem c_neg {α : Type} {p : Prop} {a b : α} (h : ¬ p) : c_if p a b = b := if_neg h
noncomputable def t_mm (g : tG) : Option Nat := c_if (t_allM g (gm g 0 1)) (gm g 0 1) (gm g 0 0)
/-- marks' rounds are small -/
def gMB (g : tG) : Prop := ∀ n i m, gm g n i = some m → m ≤ 199
theorem mkI_inj {a b : Option Nat} (ha : ∀ m, a = some m → m ≤ 199) (hb : ∀ m, b = some m → m ≤ 199) (h : mkI a = mkI b) : a = b := by
  cases a with
  | none => cases b with
    | none => rfl
    | some y =>
      have := hb y rfl
      exact absurd (show nI y < 0 from (show nI y = -1 from h.symm) ▸ by decide) (nI_pos (by omega))
  | some x => cases b with
    | none =>
      have := ha x rfl
      exact absurd (show nI x < 0 from (show nI x = -1 from h) ▸ by decide) (nI_pos (by omega))
    | some y =>
      have := ha x rfl
      have := hb y rfl
      rw [(nI_eq (by omega) (by omega)).mp (show nI x = nI y from h)]
theorem how1 {g : tG} {t : tL} (h1 : ¬ ga g 6 t.2.2.2.1 = 1) (h2 : t.1 ≠ gs g 7 ∨ t.2.1 < ga g 4 t.2.2.2.1 ∨ ga g 5 t.2.2.2.1 = 1) : t_how g t = 1 := by
  show (if ga g 6 t.2.2.2.1 = 1 then 3 else if t.1 ≠ gs g 7 ∨ t.2.1 < ga g 4 t.2.2.2.1 ∨ ga g 5 t.2.2.2.1 = 1 then 1 else _) = _
  rw [if_neg h1, if_pos h2]
theorem r_fun {l : Launch} {y : MethodName} {cc : ByteArray} {nL : Nat} {rt : Option FieldType} {d mc ms : Nat} {X : Nat × (Nat → Int32)} {As : List Value} {M : am_M} {Post : Option Value → am_M → Prop} {w : Option Value} (h : am_C l y cc nL rt d mc ms X As M Post) (hp : ∀ v M', Post v M' → v = w ∧ M' = M) : am_F l y cc nL rt d mc ms X As M w M := h.mono hp
set_option maxHeartbeats 4000000 in
set_option maxRecDepth 100000 in
theorem c_X8_isComplete {l : Launch} {X : Nat × (Nat → Int32)} {M : am_M} (hL : Lay M) {g : tG} {n : Nat} (hX : absX M g) (hB : gB g) (hn : n < 5) (hO : ∀ o, gs g 0 ≤ o → gl g 0 n o = none)  : am_F l yX8_isComplete cX8_isComplete 2 (some .boolean) 3 0 0 X [.ref 1, .ref (28 + 13 * n)] M (some (.int (if ga g 5 n = 0 ∧ t_held g n = gs g 0 - 1 then 1 else 0))) (M) := by
  refine am_C.of (by decide) (by simp [Value.category, va_rf]) (Nat.le_of_ble_eq_true rfl) ?_
  obtain ⟨b0, b1, b2, b3, b4, b5, -, -, -, -, bV, bA, bN, -, -, bh⟩ := id hB
  obtain ⟨x4, x5, x6⟩ := hX.2.2.2.1 n hn
  have y5 := (bN n hn).2.1
  have hp4 : mI M (28 + 13 * n) 4 &&& 1 = nI (ga g 4 n % 2) := by rw [x4]; exact and1 (by have := (bN n hn).1; omega)
  have hh := held5 (M := M) (g := g) (n := n) (c := 28 + 13 * n + 1) (p := ga g 4 n % 2) (fun o ho => (hX.2.2.2.2.2.1 n o 0 hn ho (by omega)).1) b1 hO
  have h5 : t_held g n ≤ gs g 0 := by
    have : ∀ k, itr (fun o c => if (gl g 0 n o).isSome = true then c + 1 else c) k 0 ≤ k := fun k => by
      induction k with
      | zero => exact Nat.le_refl _
      | succ k ih =>
        rw [itr_s _ k _]
        split <;> omega
    exact this _
  refine r_aload_n dX8_isComplete_0 rfl ?_
  refine r_getE (nI (ga g 5 n)) kX6 (k := 5) (by decide) rfl fl_X8_236 (lay_ok hL (sh_n0 hn)) dX8_isComplete_1 x5 ?_
  refine r_if_ne 24 dX8_isComplete_4 (by decide) (fun c4 => ?_) (fun c4 => ?_)
  · refine r_iconst (0) dX8_isComplete_24 (by decide) ?_
    exact r_iret (Or.inr ⟨rfl, by decide⟩) dX8_isComplete_25 ⟨by first | (rw [if_neg (fun z => c4 (by rw [z.1]; rfl))]) | (rw [if_neg (fun z => c17 (by rw [z.2]))]) | (rw [if_pos ⟨by rcases (show ga g 5 n = 0 ∨ ga g 5 n = 1 by omega) with e | e; exact e; exact absurd (show nI (ga g 5 n) = 0 from c4) (by rw [e]; decide), (nI_eq (by omega) (by omega)).mp c17⟩]), rfl⟩
  · refine r_aload_n dX8_isComplete_7 rfl ?_
    refine r_cV ca_yX6_lettersHeld ml_X8_239 im_yX6_lettersHeld se_yX6_lettersHeld (by decide) rfl (lay_ok hL (sh_n0 hn)) (c_X6_lettersHeld hL hn hp4 (by omega)) ⟨by decide, by decide⟩ (by first | decide | omega) (by first | decide | omega) rfl (Nat.le_of_ble_eq_true rfl) dX8_isComplete_8 ?_
    refine r_top (nI (t_held g n)) (by rw [hh]) ?_
    refine r_aload_n dX8_isComplete_11 rfl ?_
    refine r_getE (nI (gs g 0)) kX8 (k := 8) (by decide) rfl fl_X8_60 (lay_ok hL rfl) dX8_isComplete_12 hX.1.1 ?_
    refine r_iconst (1) dX8_isComplete_15 (by decide) ?_
    refine r_isub dX8_isComplete_16 ?_
    refine r_top (nI (gs g 0 - 1)) (nI_sub1 (by omega)) ?_
    refine r_icmp_ne 24 dX8_isComplete_17 (by decide) (fun c17 => ?_) (fun c17 => ?_)
    · refine r_iconst (0) dX8_isComplete_24 (by decide) ?_
      exact r_iret (Or.inr ⟨rfl, by decide⟩) dX8_isComplete_25 ⟨by first | (rw [if_neg (fun z => c4 (by rw [z.1]; rfl))]) | (rw [if_neg (fun z => c17 (by rw [z.2]))]) | (rw [if_pos ⟨by rcases (show ga g 5 n = 0 ∨ ga g 5 n = 1 by omega) with e | e; exact e; exact absurd (show nI (ga g 5 n) = 0 from c4) (by rw [e]; decide), (nI_eq (by omega) (by omega)).mp c17⟩]), rfl⟩
    · refine r_iconst (1) dX8_isComplete_20 (by decide) ?_
      refine r_goto 25 dX8_isComplete_21 (by decide) ?_
      exact r_iret (Or.inr ⟨rfl, by decide⟩) dX8_isComplete_25 ⟨by first | (rw [if_neg (fun z => c4 (by rw [z.1]; rfl))]) | (rw [if_neg (fun z => c17 (by rw [z.2]))]) | (rw [if_pos ⟨by rcases (show ga g 5 n = 0 ∨ ga g 5 n = 1 by omega) with e | e; exact e; exact absurd (show nI (ga g 5 n) = 0 from c4) (by rw [e]; decide), (nI_eq (by omega) (by omega)).mp c17⟩]), rfl⟩
set_option maxHeartbeats 4000000 in
set_option maxRecDepth 100000 in
theorem c_X8_outcomeOf {l : Launch} {X : Nat × (Nat → Int32)} {M : am_M} (hL : Lay M) {g : tG} {a : Nat} {t : tL} (hX : absX M g) (hB : gB g) (ht : okL g t) (hl : isL M a t) (hw : t.1 = gs g 7 → t.2.1 ≤ ga g 4 t.2.2.2.1 + 1)  : am_F l yX8_outcomeOf cX8_outcomeOf 3 (some .int) 2 0 0 X [.ref 1, .ref a] M (some (.int (nI (t_how g t)))) (M) := by
  refine am_C.of (by decide) (by simp [Value.category, va_rf]) (Nat.le_of_ble_eq_true rfl) ?_
  obtain ⟨b0, b1, b2, b3, b4, b5, b6, b7, b8, -, bV, bA, bN, -, -, bh⟩ := id hB
  obtain ⟨t1, t2, t3, t4, t5, t6, t7, t8⟩ := id ht
  obtain ⟨l1, l2, l3, l4, l5, l6, l7, -⟩ := id hl
  have hn : t.2.2.2.1 < 5 := by omega
  obtain ⟨x4, x5, x6⟩ := hX.2.2.2.1 _ hn
  obtain ⟨y4, y5, y6⟩ := bN _ hn
  have x7 := hX.1.2.2.2.2.2.2.2.1
  refine r_aload_n dX8_outcomeOf_0 rfl ?_
  refine r_getF kX8 (k := 6) (by decide) rfl fl_X8_51 (lay_ok hL rfl) (lay_r hL rfl) dX8_outcomeOf_1 ?_
  refine r_aload_n dX8_outcomeOf_4 rfl ?_
  refine r_getE (nI t.2.2.2.1) kX3 (k := 3) (by decide) rfl fl_X8_134 l1 dX8_outcomeOf_5 l6 ?_
  refine r_aaldF (Or.inr rfl) (lay_ok hL rfl) (by omega) (by decide) (lay_r hL (rf_row hn)) dX8_outcomeOf_8 ?_
  refine r_astore_n _ dX8_outcomeOf_9 (by decide) rfl ?_
  refine r_aload_n dX8_outcomeOf_10 rfl ?_
  refine r_getE (nI (ga g 6 t.2.2.2.1)) kX6 (k := 6) (by decide) rfl fl_X8_175 (lay_ok hL (sh_n0 hn)) dX8_outcomeOf_11 x6 ?_
  refine r_if_eq 19 dX8_outcomeOf_14 (by decide) (fun c14 => ?_) (fun c14 => ?_)
  · refine r_aload_n dX8_outcomeOf_19 rfl ?_
    refine r_getE (nI t.1) kX3 (k := 0) (by decide) rfl fl_X8_140 l1 dX8_outcomeOf_20 l3 ?_
    refine r_aload_n dX8_outcomeOf_23 rfl ?_
    refine r_getE (nI (gs g 7)) kX8 (k := 12) (by decide) rfl fl_X8_88 (lay_ok hL rfl) dX8_outcomeOf_24 x7 ?_
    refine r_icmp_ne 48 dX8_outcomeOf_27 (by decide) (fun c27 => ?_) (fun c27 => ?_)
    · refine r_iconst (1) dX8_outcomeOf_48 (by decide) ?_
      exact r_iret (Or.inl rfl) dX8_outcomeOf_49 ⟨by rw [how1 (by intro z; rw [z] at c14; exact absurd c14 (by decide)) (by first | exact Or.inl (fun z => c27 (by rw [z])) | exact Or.inr (Or.inl ((nI_ltI (by omega) (by omega)).mp c38)) | exact Or.inr (Or.inr (by rcases (show ga g 5 t.2.2.2.1 = 0 ∨ ga g 5 t.2.2.2.1 = 1 by omega) with e | e; exact absurd (by rw [e]; rfl) c45; exact e)))]; rfl, rfl⟩
    · refine r_aload_n dX8_outcomeOf_30 rfl ?_
      refine r_getE (nI t.2.1) kX3 (k := 1) (by decide) rfl fl_X8_137 l1 dX8_outcomeOf_31 l4 ?_
      refine r_aload_n dX8_outcomeOf_34 rfl ?_
      refine r_getE (nI (ga g 4 t.2.2.2.1)) kX6 (k := 4) (by decide) rfl fl_X8_178 (lay_ok hL (sh_n0 hn)) dX8_outcomeOf_35 x4 ?_
      refine r_icmp_lt 48 dX8_outcomeOf_38 (by decide) (fun c38 => ?_) (fun c38 => ?_)
      · refine r_iconst (1) dX8_outcomeOf_48 (by decide) ?_
        exact r_iret (Or.inl rfl) dX8_outcomeOf_49 ⟨by rw [how1 (by intro z; rw [z] at c14; exact absurd c14 (by decide)) (by first | exact Or.inl (fun z => c27 (by rw [z])) | exact Or.inr (Or.inl ((nI_ltI (by omega) (by omega)).mp c38)) | exact Or.inr (Or.inr (by rcases (show ga g 5 t.2.2.2.1 = 0 ∨ ga g 5 t.2.2.2.1 = 1 by omega) with e | e; exact absurd (by rw [e]; rfl) c45; exact e)))]; rfl, rfl⟩
      · refine r_aload_n dX8_outcomeOf_41 rfl ?_
        refine r_getE (nI (ga g 5 t.2.2.2.1)) kX6 (k := 5) (by decide) rfl fl_X8_236 (lay_ok hL (sh_n0 hn)) dX8_outcomeOf_42 x5 ?_
        refine r_if_eq 50 dX8_outcomeOf_45 (by decide) (fun c45 => ?_) (fun c45 => ?_)
        · refine r_aload_n dX8_outcomeOf_50 rfl ?_
          refine r_aload_n dX8_outcomeOf_51 rfl ?_
          have u1 : ¬ ga g 6 t.2.2.2.1 = 1 := fun z => by rw [z] at c14; exact absurd c14 (by decide)
          have u2 : ¬ (t.1 ≠ gs g 7 ∨ t.2.1 < ga g 4 t.2.2.2.1 ∨ ga g 5 t.2.2.2.1 = 1) := by
            rintro (z | z | z)
            · exact z ((nI_eq (by omega) (by omega)).mp c27)
            · exact c38 (nI_lt z (by omega))
            · rw [z] at c45; exact absurd c45 (by decide)
          have u3 : t.1 = gs g 7 := Classical.byContradiction (fun z => u2 (Or.inl z))
          have u4 : ga g 4 t.2.2.2.1 ≤ t.2.1 := Nat.le_of_not_lt (fun z => u2 (Or.inr (Or.inl z)))
          have u5 := hw u3
          have u6 : (mR M (28 + 13 * t.2.2.2.1 + 1) (t.2.1 % 2 * 5 + t.2.2.1)).isSome = (gl g (t.2.1 - ga g 4 t.2.2.2.1) t.2.2.2.1 t.2.2.1).isSome := by
            have z := isO_some (hX.2.2.2.2.2.1 t.2.2.2.1 t.2.2.1 (t.2.1 - ga g 4 t.2.2.2.1) hn (by omega) (by omega)).1
            rw [show ga g 4 t.2.2.2.1 + (t.2.1 - ga g 4 t.2.2.2.1) = t.2.1 by omega] at z
            exact z
          have u7 : t_how g t = if (gl g (t.2.1 - ga g 4 t.2.2.2.1) t.2.2.2.1 t.2.2.1).isSome = true then 2 else 0 := by
            show (if ga g 6 t.2.2.2.1 = 1 then 3 else if t.1 ≠ gs g 7 ∨ t.2.1 < ga g 4 t.2.2.2.1 ∨ ga g 5 t.2.2.2.1 = 1 then 1 else _) = _
            rw [if_neg u1, if_neg u2]
          refine r_cV ca_yX6_holds ml_X8_247 im_yX6_holds se_yX6_holds (by decide) rfl (lay_ok hL (sh_n0 hn)) (c_X6_holds hL hn l1 (p := t.2.1 % 2) (q := t.2.2.1) (by rw [l4]; exact and1 (by omega)) (by omega) l5 (by omega)) ⟨by decide, by decide⟩ (by first | decide | omega) (by first | decide | omega) rfl (Nat.le_of_ble_eq_true rfl) dX8_outcomeOf_52 ?_
          rw [u6]
          refine r_if_eq 62 dX8_outcomeOf_55 (by decide) (fun c55 => ?_) (fun c55 => ?_)
          · refine r_iconst (0) dX8_outcomeOf_62 (by decide) ?_
            exact r_iret (Or.inl rfl) dX8_outcomeOf_63 ⟨by rw [u7]; first | (rw [if_pos (Classical.byContradiction (fun z => c55 (by rw [if_neg z])))]; rfl) | (rw [if_neg (fun z => absurd c55 (by rw [if_pos z]; decide))]; rfl), rfl⟩
          · refine r_iconst (2) dX8_outcomeOf_58 (by decide) ?_
            refine r_goto 63 dX8_outcomeOf_59 (by decide) ?_
            exact r_iret (Or.inl rfl) dX8_outcomeOf_63 ⟨by rw [u7]; first | (rw [if_pos (Classical.byContradiction (fun z => c55 (by rw [if_neg z])))]; rfl) | (rw [if_neg (fun z => absurd c55 (by rw [if_pos z]; decide))]; rfl), rfl⟩
        · refine r_iconst (1) dX8_outcomeOf_48 (by decide) ?_
          exact r_iret (Or.inl rfl) dX8_outcomeOf_49 ⟨by rw [how1 (by intro z; rw [z] at c14; exact absurd c14 (by decide)) (by first | exact Or.inl (fun z => c27 (by rw [z])) | exact Or.inr (Or.inl ((nI_ltI (by omega) (by omega)).mp c38)) | exact Or.inr (Or.inr (by rcases (show ga g 5 t.2.2.2.1 = 0 ∨ ga g 5 t.2.2.2.1 = 1 by omega) with e | e; exact absurd (by rw [e]; rfl) c45; exact e)))]; rfl, rfl⟩
  · refine r_iconst (3) dX8_outcomeOf_17 (by decide) ?_
    exact r_iret (Or.inl rfl) dX8_outcomeOf_18 ⟨by rw [show t_how g t = 3 from if_pos (by rcases (show ga g 6 t.2.2.2.1 = 0 ∨ ga g 6 t.2.2.2.1 = 1 by omega) with e | e; exact absurd (by rw [e]; rfl) c14; exact e)]; rfl, rfl⟩
set_option maxHeartbeats 4000000 in
set_option maxRecDepth 100000 in
theorem l_X8_isAnyDown {l : Launch} {X : Nat × (Nat → Int32)} {M : am_M} (hL : Lay M) {g : tG} (hX : absX M g) (hB : gB g) : ∀ k i : Nat, i + k = gs g 0 → (∀ n, n < i → ¬ ga g 6 n = 1) → am_V l yX8_isAnyDown cX8_isAnyDown 2 (some .boolean) (am_R 0 0 0) 0 0 X (fun v M' => M' = M ∧ ((v = some (.int 1) ∧ t_anyD g) ∨ (v = some (.int 0) ∧ ¬ t_anyD g))) 0 0 2 [some (.ref 1), some (.int (nI i))] [] M := by
  intro k
  obtain ⟨b0, b1, b2, b3, b4, b5, b6, b7, b8, -, bV, bA, bN, -, -, bh⟩ := id hB
  induction k with
  | zero =>
    intro i hi hP
    obtain rfl : i = gs g 0 := by omega
    refine r_iload_n dX8_isAnyDown_2 rfl ?_
    refine r_aload_n dX8_isAnyDown_3 rfl ?_
    refine r_getE (nI (gs g 0)) kX8 (k := 8) (by decide) rfl fl_X8_60 (lay_ok hL rfl) dX8_isAnyDown_4 hX.1.1 ?_
    refine r_icmp_ge 30 dX8_isAnyDown_7 (by decide) (fun _ => ?_) (fun hq => absurd (nI_le (Nat.le_refl _) (by omega)) hq)
    refine r_iconst (0) dX8_isAnyDown_30 (by decide) ?_
    exact r_iret (Or.inr ⟨rfl, by decide⟩) dX8_isAnyDown_31 ⟨rfl, Or.inr ⟨rfl, fun ⟨n, h1, h2⟩ => hP n h1 h2⟩⟩
  | succ k ih =>
    intro i hi hP
    have hn : i < 5 := by omega
    obtain ⟨x4, x5, x6⟩ := hX.2.2.2.1 i hn
    obtain ⟨y4, y5, y6⟩ := bN i hn
    refine r_iload_n dX8_isAnyDown_2 rfl ?_
    refine r_aload_n dX8_isAnyDown_3 rfl ?_
    refine r_getE (nI (gs g 0)) kX8 (k := 8) (by decide) rfl fl_X8_60 (lay_ok hL rfl) dX8_isAnyDown_4 hX.1.1 ?_
    refine r_icmp_ge 30 dX8_isAnyDown_7 (by decide) (fun hq => absurd hq (nI_ge (by omega) (by omega))) (fun _ => ?_)
    refine r_aload_n dX8_isAnyDown_10 rfl ?_
    refine r_getF kX8 (k := 6) (by decide) rfl fl_X8_51 (lay_ok hL rfl) (lay_r hL rfl) dX8_isAnyDown_11 ?_
    refine r_iload_n dX8_isAnyDown_14 rfl ?_
    refine r_aaldF (Or.inr rfl) (lay_ok hL rfl) (by omega) (by decide) (lay_r hL (rf_row hn)) dX8_isAnyDown_15 ?_
    refine r_getE (nI (ga g 6 i)) kX6 (k := 6) (by decide) rfl fl_X8_175 (lay_ok hL (sh_n0 hn)) dX8_isAnyDown_16 x6 ?_
    refine r_if_eq 24 dX8_isAnyDown_19 (by decide) (fun c19 => ?_) (fun c19 => ?_)
    · refine r_iinc (nI (i + 1)) _ dX8_isAnyDown_24 (by decide) rfl (nI_1 _) rfl ?_
      refine r_goto 2 dX8_isAnyDown_27 (by decide) ?_
      exact ih (i + 1) (by omega) (fun n hn2 => by rcases Nat.lt_or_ge n i with z | z; exact hP n z; rw [show n = i by omega]; intro z2; rw [z2] at c19; exact absurd c19 (by decide))
    · refine r_iconst (1) dX8_isAnyDown_22 (by decide) ?_
      exact r_iret (Or.inr ⟨rfl, by decide⟩) dX8_isAnyDown_23 ⟨rfl, Or.inl ⟨rfl, i, by omega, by rcases (show ga g 6 i = 0 ∨ ga g 6 i = 1 by omega) with e | e; exact absurd (by rw [e]; rfl) c19; exact e⟩⟩
set_option maxHeartbeats 4000000 in
set_option maxRecDepth 100000 in
theorem c_X8_isAnyDown {l : Launch} {X : Nat × (Nat → Int32)} {M : am_M} (hL : Lay M) {g : tG} (hX : absX M g) (hB : gB g) : am_C l yX8_isAnyDown cX8_isAnyDown 2 (some .boolean) 0 0 0 X [.ref 1] M (fun v M' => M' = M ∧ ((v = some (.int 1) ∧ t_anyD g) ∨ (v = some (.int 0) ∧ ¬ t_anyD g))) := by
  refine am_C.of (by decide) (by simp [Value.category, va_rf]) (Nat.le_of_ble_eq_true rfl) ?_
  refine r_iconst (nI 0) dX8_isAnyDown_0 (by decide) ?_
  refine r_istore_n _ dX8_isAnyDown_1 (by decide) rfl ?_
  exact l_X8_isAnyDown hL hX hB (gs g 0) 0 (by omega) (fun n h => absurd h (by omega))
set_option maxHeartbeats 4000000 in
set_option maxRecDepth 100000 in
theorem l_X8_isLevel {l : Launch} {X : Nat × (Nat → Int32)} {M : am_M} (hL : Lay M) {g : tG} (hX : absX M g) (hB : gB g) : ∀ k i : Nat, i + k = gs g 0 → (∀ n, n < i → ga g 6 n = 0 ∧ ga g 5 n = 0 ∧ ga g 4 n = ga g 4 0) → am_V l yX8_isLevel cX8_isLevel 3 (some .boolean) (am_R 0 0 0) 0 0 X (fun v M' => M' = M ∧ ((v = some (.int 1) ∧ t_lev g) ∨ (v = some (.int 0) ∧ ¬ t_lev g))) 0 0 2 [some (.ref 1), some (.int (nI i))] [] M := by
  intro k
  obtain ⟨b0, b1, b2, b3, b4, b5, b6, b7, b8, -, bV, bA, bN, -, -, bh⟩ := id hB
  induction k with
  | zero =>
    intro i hi hP
    obtain rfl : i = gs g 0 := by omega
    refine r_iload_n dX8_isLevel_2 rfl ?_
    refine r_aload_n dX8_isLevel_3 rfl ?_
    refine r_getE (nI (gs g 0)) kX8 (k := 8) (by decide) rfl fl_X8_60 (lay_ok hL rfl) dX8_isLevel_4 hX.1.1 ?_
    refine r_icmp_ge 55 dX8_isLevel_7 (by decide) (fun _ => ?_) (fun hq => absurd (nI_le (Nat.le_refl _) (by omega)) hq)
    refine r_iconst (1) dX8_isLevel_55 (by decide) ?_
    exact r_iret (Or.inr ⟨rfl, by decide⟩) dX8_isLevel_56 ⟨rfl, Or.inl ⟨rfl, hP⟩⟩
  | succ k ih =>
    intro i hi hP
    have hn : i < 5 := by omega
    obtain ⟨x4, x5, x6⟩ := hX.2.2.2.1 i hn
    obtain ⟨y4, y5, y6⟩ := bN i hn
    refine r_iload_n dX8_isLevel_2 rfl ?_
    refine r_aload_n dX8_isLevel_3 rfl ?_
    refine r_getE (nI (gs g 0)) kX8 (k := 8) (by decide) rfl fl_X8_60 (lay_ok hL rfl) dX8_isLevel_4 hX.1.1 ?_
    refine r_icmp_ge 55 dX8_isLevel_7 (by decide) (fun hq => absurd hq (nI_ge (by omega) (by omega))) (fun _ => ?_)
    refine r_aload_n dX8_isLevel_10 rfl ?_
    refine r_getF kX8 (k := 6) (by decide) rfl fl_X8_51 (lay_ok hL rfl) (lay_r hL rfl) dX8_isLevel_11 ?_
    refine r_iload_n dX8_isLevel_14 rfl ?_
    refine r_aaldF (Or.inr rfl) (lay_ok hL rfl) (by omega) (by decide) (lay_r hL (rf_row hn)) dX8_isLevel_15 ?_
    refine r_astore_n _ dX8_isLevel_16 (by decide) rfl ?_
    refine r_aload_n dX8_isLevel_17 rfl ?_
    refine r_getE (nI (ga g 6 i)) kX6 (k := 6) (by decide) rfl fl_X8_175 (lay_ok hL (sh_n0 hn)) dX8_isLevel_18 x6 ?_
    refine r_if_ne 47 dX8_isLevel_21 (by decide) (fun c21 => ?_) (fun c21 => ?_)
    · refine r_iconst (0) dX8_isLevel_47 (by decide) ?_
      exact r_iret (Or.inr ⟨rfl, by decide⟩) dX8_isLevel_48 ⟨rfl, Or.inr ⟨rfl, fun z => by have z2 := z i (by omega); first | exact c21 (by rw [z2.1]; rfl) | exact c28 (by rw [z2.2.1]; rfl) | exact c44 (by rw [z2.2.2])⟩⟩
    · refine r_aload_n dX8_isLevel_24 rfl ?_
      refine r_getE (nI (ga g 5 i)) kX6 (k := 5) (by decide) rfl fl_X8_236 (lay_ok hL (sh_n0 hn)) dX8_isLevel_25 x5 ?_
      refine r_if_ne 47 dX8_isLevel_28 (by decide) (fun c28 => ?_) (fun c28 => ?_)
      · refine r_iconst (0) dX8_isLevel_47 (by decide) ?_
        exact r_iret (Or.inr ⟨rfl, by decide⟩) dX8_isLevel_48 ⟨rfl, Or.inr ⟨rfl, fun z => by have z2 := z i (by omega); first | exact c21 (by rw [z2.1]; rfl) | exact c28 (by rw [z2.2.1]; rfl) | exact c44 (by rw [z2.2.2])⟩⟩
      · refine r_aload_n dX8_isLevel_31 rfl ?_
        refine r_getE (nI (ga g 4 i)) kX6 (k := 4) (by decide) rfl fl_X8_178 (lay_ok hL (sh_n0 hn)) dX8_isLevel_32 x4 ?_
        refine r_aload_n dX8_isLevel_35 rfl ?_
        refine r_getF kX8 (k := 6) (by decide) rfl fl_X8_51 (lay_ok hL rfl) (lay_r hL rfl) dX8_isLevel_36 ?_
        refine r_iconst (0) dX8_isLevel_39 (by decide) ?_
        refine r_aaldF (i := 0) (Or.inr rfl) (lay_ok hL rfl) (by decide) (by decide) (lay_r hL rfl) dX8_isLevel_40 ?_
        refine r_getE (nI (ga g 4 0)) kX6 (k := 4) (by decide) rfl fl_X8_178 (lay_ok hL rfl) dX8_isLevel_41 (hX.2.2.2.1 0 (by decide)).1 ?_
        refine r_icmp_eq 49 dX8_isLevel_44 (by decide) (fun c44 => ?_) (fun c44 => ?_)
        · refine r_iinc (nI (i + 1)) _ dX8_isLevel_49 (by decide) rfl (nI_1 _) rfl ?_
          refine r_goto 2 dX8_isLevel_52 (by decide) ?_
          refine r_take 2 ?_
          exact ih (i + 1) (by omega) (fun n hn2 => by rcases Nat.lt_or_ge n i with z | z; exact hP n z; rw [show n = i by omega]; have q0 := (bN 0 (by omega)).1; refine ⟨?_, ?_, (nI_eq (by omega) (by omega)).mp c44⟩; rcases (show ga g 6 i = 0 ∨ ga g 6 i = 1 by omega) with e | e; exact e; rw [e] at c21; exact absurd c21 (by decide); rcases (show ga g 5 i = 0 ∨ ga g 5 i = 1 by omega) with e | e; exact e; rw [e] at c28; exact absurd c28 (by decide))
        · refine r_iconst (0) dX8_isLevel_47 (by decide) ?_
          exact r_iret (Or.inr ⟨rfl, by decide⟩) dX8_isLevel_48 ⟨rfl, Or.inr ⟨rfl, fun z => by have z2 := z i (by omega); first | exact c21 (by rw [z2.1]; rfl) | exact c28 (by rw [z2.2.1]; rfl) | exact c44 (by rw [z2.2.2])⟩⟩
set_option maxHeartbeats 4000000 in
set_option maxRecDepth 100000 in
theorem c_X8_isLevel {l : Launch} {X : Nat × (Nat → Int32)} {M : am_M} (hL : Lay M) {g : tG} (hX : absX M g) (hB : gB g) : am_C l yX8_isLevel cX8_isLevel 3 (some .boolean) 0 0 0 X [.ref 1] M (fun v M' => M' = M ∧ ((v = some (.int 1) ∧ t_lev g) ∨ (v = some (.int 0) ∧ ¬ t_lev g))) := by
  refine am_C.of (by decide) (by simp [Value.category, va_rf]) (Nat.le_of_ble_eq_true rfl) ?_
  refine r_iconst (nI 0) dX8_isLevel_0 (by decide) ?_
  refine r_istore_n _ dX8_isLevel_1 (by decide) rfl ?_
  exact l_X8_isLevel hL hX hB (gs g 0) 0 (by omega) (fun n h => absurd h (by omega))
set_option maxHeartbeats 4000000 in
set_option maxRecDepth 100000 in
theorem l_X8_isMarkedByAll {l : Launch} {X : Nat × (Nat → Int32)} {M : am_M} (hL : Lay M) {g : tG} (hX : absX M g) (hB : gB g) {r : Option Nat} (hM : gMB g) (hr : ∀ m, r = some m → m ≤ 199) : ∀ k i : Nat, i + k = gs g 0 → (∀ n, n < i → gm g n 1 = r ∨ gm g n 0 = r) → am_V l yX8_isMarkedByAll cX8_isMarkedByAll 3 (some .boolean) (am_R 0 0 0) 0 0 X (fun v M' => M' = M ∧ ((v = some (.int 1) ∧ t_allM g r) ∨ (v = some (.int 0) ∧ ¬ t_allM g r))) 0 0 2 [some (.ref 1), some (.int (mkI r)), some (.int (nI i))] [] M := by
  intro k
  obtain ⟨b0, b1, b2, b3, b4, b5, b6, b7, b8, -, bV, bA, bN, -, -, bh⟩ := id hB
  induction k with
  | zero =>
    intro i hi hP
    obtain rfl : i = gs g 0 := by omega
    refine r_iload_n dX8_isMarkedByAll_2 rfl ?_
    refine r_aload_n dX8_isMarkedByAll_3 rfl ?_
    refine r_getE (nI (gs g 0)) kX8 (k := 8) (by decide) rfl fl_X8_60 (lay_ok hL rfl) dX8_isMarkedByAll_4 hX.1.1 ?_
    refine r_icmp_ge 50 dX8_isMarkedByAll_7 (by decide) (fun _ => ?_) (fun hq => absurd (nI_le (Nat.le_refl _) (by omega)) hq)
    refine r_iconst (1) dX8_isMarkedByAll_50 (by decide) ?_
    exact r_iret (Or.inr ⟨rfl, by decide⟩) dX8_isMarkedByAll_51 ⟨rfl, Or.inl ⟨rfl, hP⟩⟩
  | succ k ih =>
    intro i hi hP
    have hn : i < 5 := by omega
    obtain ⟨x4, x5, x6⟩ := hX.2.2.2.1 i hn
    obtain ⟨y4, y5, y6⟩ := bN i hn
    obtain ⟨p, q, e2, e3, e4, e5, e6⟩ := hX.2.2.2.2.2.2.1 i hn
    have pp : p = 28 + 13 * i + 3 ∨ p = 28 + 13 * i + 8 := by omega
    have qq : q = 28 + 13 * i + 3 ∨ q = 28 + 13 * i + 8 := by omega
    have pf := mk_facts hL hn pp
    have qf := mk_facts hL hn qq
    refine r_iload_n dX8_isMarkedByAll_2 rfl ?_
    refine r_aload_n dX8_isMarkedByAll_3 rfl ?_
    refine r_getE (nI (gs g 0)) kX8 (k := 8) (by decide) rfl fl_X8_60 (lay_ok hL rfl) dX8_isMarkedByAll_4 hX.1.1 ?_
    refine r_icmp_ge 50 dX8_isMarkedByAll_7 (by decide) (fun hq => absurd hq (nI_ge (by omega) (by omega))) (fun _ => ?_)
    refine r_aload_n dX8_isMarkedByAll_10 rfl ?_
    refine r_getF kX8 (k := 6) (by decide) rfl fl_X8_51 (lay_ok hL rfl) (lay_r hL rfl) dX8_isMarkedByAll_11 ?_
    refine r_iload_n dX8_isMarkedByAll_14 rfl ?_
    refine r_aaldF (Or.inr rfl) (lay_ok hL rfl) (by omega) (by decide) (lay_r hL (rf_row hn)) dX8_isMarkedByAll_15 ?_
    refine r_getF (r := p) kX6 (k := 2) (by decide) rfl fl_X8_197 (lay_ok hL (sh_n0 hn)) e2 dX8_isMarkedByAll_16 ?_
    refine r_getE (mkI (gm g i 1)) kX4 (k := 1) (by decide) rfl fl_X8_246 pf.1 dX8_isMarkedByAll_19 e5.1 ?_
    refine r_iload_n dX8_isMarkedByAll_22 rfl ?_
    refine r_icmp_eq 44 dX8_isMarkedByAll_23 (by decide) (fun c23 => ?_) (fun c23 => ?_)
    · refine r_iinc (nI (i + 1)) _ dX8_isMarkedByAll_44 (by decide) rfl (nI_1 _) rfl ?_
      refine r_goto 2 dX8_isMarkedByAll_47 (by decide) ?_
      exact ih (i + 1) (by omega) (fun n hn2 => by rcases Nat.lt_or_ge n i with z | z; exact hP n z; rw [show n = i by omega]; first | exact Or.inl (mkI_inj (hM i 1) hr c23) | exact Or.inr (mkI_inj (hM i 0) hr c39))
    · refine r_aload_n dX8_isMarkedByAll_26 rfl ?_
      refine r_getF kX8 (k := 6) (by decide) rfl fl_X8_51 (lay_ok hL rfl) (lay_r hL rfl) dX8_isMarkedByAll_27 ?_
      refine r_iload_n dX8_isMarkedByAll_30 rfl ?_
      refine r_aaldF (Or.inr rfl) (lay_ok hL rfl) (by omega) (by decide) (lay_r hL (rf_row hn)) dX8_isMarkedByAll_31 ?_
      refine r_getF (r := q) kX6 (k := 3) (by decide) rfl fl_X8_319 (lay_ok hL (sh_n0 hn)) e3 dX8_isMarkedByAll_32 ?_
      refine r_getE (mkI (gm g i 0)) kX4 (k := 1) (by decide) rfl fl_X8_246 qf.1 dX8_isMarkedByAll_35 e6.1 ?_
      refine r_iload_n dX8_isMarkedByAll_38 rfl ?_
      refine r_icmp_eq 44 dX8_isMarkedByAll_39 (by decide) (fun c39 => ?_) (fun c39 => ?_)
      · refine r_iinc (nI (i + 1)) _ dX8_isMarkedByAll_44 (by decide) rfl (nI_1 _) rfl ?_
        refine r_goto 2 dX8_isMarkedByAll_47 (by decide) ?_
        exact ih (i + 1) (by omega) (fun n hn2 => by rcases Nat.lt_or_ge n i with z | z; exact hP n z; rw [show n = i by omega]; first | exact Or.inl (mkI_inj (hM i 1) hr c23) | exact Or.inr (mkI_inj (hM i 0) hr c39))
      · refine r_iconst (0) dX8_isMarkedByAll_42 (by decide) ?_
        exact r_iret (Or.inr ⟨rfl, by decide⟩) dX8_isMarkedByAll_43 ⟨rfl, Or.inr ⟨rfl, fun z => by rcases z i (by omega) with z | z; exact c23 (by rw [z]); exact c39 (by rw [z])⟩⟩
set_option maxHeartbeats 4000000 in
set_option maxRecDepth 100000 in
theorem c_X8_isMarkedByAll {l : Launch} {X : Nat × (Nat → Int32)} {M : am_M} (hL : Lay M) {g : tG} (hX : absX M g) (hB : gB g) {r : Option Nat} (hM : gMB g) (hr : ∀ m, r = some m → m ≤ 199) : am_C l yX8_isMarkedByAll cX8_isMarkedByAll 3 (some .boolean) 0 0 0 X [.ref 1, .int (mkI r)] M (fun v M' => M' = M ∧ ((v = some (.int 1) ∧ t_allM g r) ∨ (v = some (.int 0) ∧ ¬ t_allM g r))) := by
  refine am_C.of (by decide) (by simp [Value.category, va_rf]) (Nat.le_of_ble_eq_true rfl) ?_
  refine r_iconst (nI 0) dX8_isMarkedByAll_0 (by decide) ?_
  refine r_istore_n _ dX8_isMarkedByAll_1 (by decide) rfl ?_
  exact l_X8_isMarkedByAll hL hX hB hM hr (gs g 0) 0 (by omega) (fun n h => absurd h (by omega))
set_option maxHeartbeats 4000000 in
set_option maxRecDepth 100000 in
theorem c_X8_wholeMark {l : Launch} {X : Nat × (Nat → Int32)} {M : am_M} (hL : Lay M) {g : tG} (hX : absX M g) (hB : gB g) (hM : gMB g)  : am_F l yX8_wholeMark cX8_wholeMark 2 (some .int) 1 0 0 X [.ref 1] M (some (.int (mkI (t_mm g)))) (M) := by
  refine am_C.of (by decide) (by simp [Value.category, va_rf]) (Nat.le_of_ble_eq_true rfl) ?_
  have hn : 0 < 5 := by decide
  obtain ⟨p, q, e2, e3, e4, e5, e6⟩ := hX.2.2.2.2.2.2.1 0 hn
  have pp : p = 28 + 13 * 0 + 3 ∨ p = 28 + 13 * 0 + 8 := by omega
  have qq : q = 28 + 13 * 0 + 3 ∨ q = 28 + 13 * 0 + 8 := by omega
  have pf := mk_facts hL hn pp
  have qf := mk_facts hL hn qq
  refine r_aload_n dX8_wholeMark_0 rfl ?_
  refine r_getF kX8 (k := 6) (by decide) rfl fl_X8_51 (lay_ok hL rfl) (lay_r hL rfl) dX8_wholeMark_1 ?_
  refine r_iconst (0) dX8_wholeMark_4 (by decide) ?_
  refine r_aaldF (i := 0) (Or.inr rfl) (lay_ok hL rfl) (by decide) (by decide) (lay_r hL rfl) dX8_wholeMark_5 ?_
  refine r_getF (r := p) kX6 (k := 2) (by decide) rfl fl_X8_197 (lay_ok hL rfl) e2 dX8_wholeMark_6 ?_
  refine r_getE (mkI (gm g 0 1)) kX4 (k := 1) (by decide) rfl fl_X8_246 pf.1 dX8_wholeMark_9 e5.1 ?_
  refine r_istore_n _ dX8_wholeMark_12 (by decide) rfl ?_
  refine r_aload_n dX8_wholeMark_13 rfl ?_
  refine r_iload_n dX8_wholeMark_14 rfl ?_
  refine r_callV ca_yX8_isMarkedByAll ml_X8_316 im_yX8_isMarkedByAll se_yX8_isMarkedByAll (by decide) rfl (lay_ok hL rfl) (c_X8_isMarkedByAll hL hX hB (r := gm g 0 1) hM (hM 0 1)) ⟨by decide, by decide⟩ (by first | decide | omega) (by first | decide | omega) rfl (Nat.le_of_ble_eq_true rfl) dX8_wholeMark_15 (fun v0 M1 hp1 => ?_)
  obtain ⟨e1, hq⟩ := hp1
  rw [e1]
  rcases hq with ⟨rfl, hq⟩ | ⟨rfl, hq⟩
  · refine r_if_eq 25 dX8_wholeMark_18 (by decide) (fun hq => absurd hq (by decide)) (fun _ => ?_)
    refine r_iload_n dX8_wholeMark_21 rfl ?_
    refine r_goto 37 dX8_wholeMark_22 (by decide) ?_
    exact r_iret (Or.inl rfl) dX8_wholeMark_37 ⟨by rw [show t_mm g = gm g 0 1 from c_pos hq], rfl⟩
  · refine r_if_eq 25 dX8_wholeMark_18 (by decide) (fun _ => ?_) (fun hq => absurd (by decide) hq)
    refine r_aload_n dX8_wholeMark_25 rfl ?_
    refine r_getF kX8 (k := 6) (by decide) rfl fl_X8_51 (lay_ok hL rfl) (lay_r hL rfl) dX8_wholeMark_26 ?_
    refine r_iconst (0) dX8_wholeMark_29 (by decide) ?_
    refine r_aaldF (i := 0) (Or.inr rfl) (lay_ok hL rfl) (by decide) (by decide) (lay_r hL rfl) dX8_wholeMark_30 ?_
    refine r_getF (r := q) kX6 (k := 3) (by decide) rfl fl_X8_319 (lay_ok hL rfl) e3 dX8_wholeMark_31 ?_
    refine r_getE (mkI (gm g 0 0)) kX4 (k := 1) (by decide) rfl fl_X8_246 qf.1 dX8_wholeMark_34 e6.1 ?_
    exact r_iret (Or.inl rfl) dX8_wholeMark_37 ⟨by rw [show t_mm g = gm g 0 0 from c_neg hq], rfl⟩
