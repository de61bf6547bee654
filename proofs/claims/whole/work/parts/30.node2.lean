set_option maxHeartbeats 4000000 in
set_option maxRecDepth 100000 in
theorem l_X6_enter {l : Launch} {X : Nat × (Nat → Int32)} {M : am_M} (hL : Lay M) {n : Nat} (hn : n < 5) {p q : Nat} {x : Int32} (hr : mI M (28 + 13 * n) 4 &&& 1 = nI p) (hp : p ≤ 1) (hx : x &&& 1 = nI q) (hq : q ≤ 1) : ∀ k i : Nat, i + k = 5 → am_V l yX6_enter cX6_enter 3 (none) (am_R 1 0 0) 0 0 X (fun v M1 => v = none ∧ M1 = wI (wQ (wQ M (28 + 13 * n + 1) (fb (mR M (28 + 13 * n + 1)) (p * 5) 5 none)) (28 + 13 * n + 2) (fb (mR M (28 + 13 * n + 2)) (q * 5) 5 none)) (28 + 13 * n) 4 x) 0 0 2 [some (.ref (28 + 13 * n)), some (.int x), some (.int (nI i))] [] (wQ (wQ M (28 + 13 * n + 1) (fb (mR M (28 + 13 * n + 1)) (p * 5) i none)) (28 + 13 * n + 2) (fb (mR M (28 + 13 * n + 2)) (q * 5) i none)) := by
  intro k
  induction k with
  | zero =>
    intro i hi
    obtain rfl : i = 5 := by omega
    have hL := lay_wQ (lay_wQ hL (fb (mR M (28 + 13 * n + 1)) (p * 5) 5 none) (a := (28 + 13 * n + 1)) (fun _ => rf_n1 hn)) (fb (mR M (28 + 13 * n + 2)) (q * 5) 5 none) (a := (28 + 13 * n + 2)) (fun _ => rf_n2 hn)
    refine r_iload_n dX6_enter_2 rfl ?_
    refine r_iconst (nI 5) dX6_enter_3 (by decide) ?_
    refine r_icmp_ge 38 dX6_enter_4 (by decide) (fun _ => ?_) (fun hq => absurd (nI_le (Nat.le_refl 5) (by decide)) hq)
    refine r_aload_n dX6_enter_38 rfl ?_
    refine r_iload_n dX6_enter_39 rfl ?_
    refine r_putI kX6 (k := 4) (by decide) rfl (Or.inl rfl) fl_X6_36 (lay_ok hL (sh_n0 hn)) ⟨rfl, rfl⟩ dX6_enter_40 ?_
    refine r_lay (lay_wI hL _ _ _) (fun hL => ?_)
    exact r_vret rfl dX6_enter_43 ⟨rfl, rfl⟩
  | succ k ih =>
    intro i hi
    have hL := lay_wQ (lay_wQ hL (fb (mR M (28 + 13 * n + 1)) (p * 5) i none) (a := (28 + 13 * n + 1)) (fun _ => rf_n1 hn)) (fb (mR M (28 + 13 * n + 2)) (q * 5) i none) (a := (28 + 13 * n + 2)) (fun _ => rf_n2 hn)
    refine r_iload_n dX6_enter_2 rfl ?_
    refine r_iconst (nI 5) dX6_enter_3 (by decide) ?_
    refine r_icmp_ge 38 dX6_enter_4 (by decide) (fun hq => absurd hq (nI_ge (by omega) (by decide))) (fun _ => ?_)
    refine r_aload_n dX6_enter_7 rfl ?_
    refine r_getF kX6 (k := 0) (by decide) rfl fl_X6_11 (lay_ok hL (sh_n0 hn)) (lay_r hL (rf_n0_0 hn)) dX6_enter_8 ?_
    refine r_aload_n dX6_enter_11 rfl ?_
    refine r_getI kX6 (k := 4) (by decide) rfl fl_X6_36 (lay_ok hL (sh_n0 hn)) dX6_enter_12 ?_
    refine r_iload_n dX6_enter_15 rfl ?_
    refine r_cS ca_yX6_slot ml_X6_48 sm_yX6_slot (c_X6_slot hL (p := p) (q := i) hr) ⟨by decide, by decide⟩ (by decide) (by decide) rfl (Nat.le_of_ble_eq_true rfl) dX6_enter_16 ?_
    refine r_null dX6_enter_19 ?_
    refine r_aastZ (Or.inl rfl) (lay_ok hL (sh_n1 hn)) (by omega) (by decide) dX6_enter_20 ?_
    refine r_lay (lay_wR hL _ (rf_n1 hn)) (fun hL => ?_)
    refine r_aload_n dX6_enter_21 rfl ?_
    refine r_getF kX6 (k := 1) (by decide) rfl fl_X6_17 (lay_ok hL (sh_n0 hn)) (lay_r hL (rf_n0_1 hn)) dX6_enter_22 ?_
    refine r_iload_n dX6_enter_25 rfl ?_
    refine r_iload_n dX6_enter_26 rfl ?_
    refine r_cS ca_yX6_slot ml_X6_48 sm_yX6_slot (c_X6_slot hL (p := q) (q := i) hx) ⟨by decide, by decide⟩ (by decide) (by decide) rfl (Nat.le_of_ble_eq_true rfl) dX6_enter_27 ?_
    refine r_null dX6_enter_30 ?_
    refine r_aastZ (Or.inl rfl) (lay_ok hL (sh_n2 hn)) (by omega) (by decide) dX6_enter_31 ?_
    refine r_lay (lay_wR hL _ (rf_n2 hn)) (fun hL => ?_)
    refine r_iinc (nI (i + 1)) _ dX6_enter_32 (by decide) rfl (nI_1 _) rfl ?_
    refine r_goto 2 dX6_enter_35 (by decide) ?_
    have q1 := ih (i + 1) (by omega)
    rw [← fb_s (mR M (28 + 13 * n + 1)) (p * 5) i none, ← fb_s (mR M (28 + 13 * n + 2)) (q * 5) i none, ← wR_wQ, ← wR_wQ2 M (show (28 + 13 * n + 1) ≠ (28 + 13 * n + 2) by omega)] at q1
    exact q1
set_option maxHeartbeats 4000000 in
set_option maxRecDepth 100000 in
theorem c_X6_enter {l : Launch} {X : Nat × (Nat → Int32)} {M : am_M} (hL : Lay M) {n : Nat} (hn : n < 5) {p q : Nat} {x : Int32} (hr : mI M (28 + 13 * n) 4 &&& 1 = nI p) (hp : p ≤ 1) (hx : x &&& 1 = nI q) (hq : q ≤ 1)  : am_F l yX6_enter cX6_enter 3 (none) 1 0 0 X [.ref (28 + 13 * n), .int x] M (none) (wI (wQ (wQ M (28 + 13 * n + 1) (fb (mR M (28 + 13 * n + 1)) (p * 5) 5 none)) (28 + 13 * n + 2) (fb (mR M (28 + 13 * n + 2)) (q * 5) 5 none)) (28 + 13 * n) 4 x) := by
  refine am_C.of (by decide) (by simp [Value.category, va_rf]) (Nat.le_of_ble_eq_true rfl) ?_
  refine r_iconst (nI 0) dX6_enter_0 (by decide) ?_
  refine r_istore_n _ dX6_enter_1 (by decide) rfl ?_
  have q1 := l_X6_enter (l := l) (X := X) hL hn hr hp hx hq 5 0 (by omega)
  rw [fb_0, fb_0, wQ_id, show mR M (28 + 13 * n + 2) = mR M (28 + 13 * n + 2) from rfl, wQ_id] at q1
  exact q1
set_option maxHeartbeats 4000000 in
set_option maxRecDepth 100000 in
theorem l_X6_lettersHeld {l : Launch} {X : Nat × (Nat → Int32)} {M : am_M} (hL : Lay M) {n : Nat} (hn : n < 5) {p : Nat} (hr : mI M (28 + 13 * n) 4 &&& 1 = nI p) (hp : p ≤ 1) : ∀ k i : Nat, i + k = 5 → am_V l yX6_lettersHeld cX6_lettersHeld 3 (some .int) (am_R 2 0 0) 0 0 X (fun v M' => v = some (.int (nI (itr (fun o c => if (mR M (28 + 13 * n + 1) (p * 5 + o)).isSome = true then c + 1 else c) 5 0))) ∧ M' = M) 0 0 4 [some (.ref (28 + 13 * n)), some (.int (nI (itr (fun o c => if (mR M (28 + 13 * n + 1) (p * 5 + o)).isSome = true then c + 1 else c) i 0))), some (.int (nI i))] [] (M) := by
  intro k
  induction k with
  | zero =>
    intro i hi
    obtain rfl : i = 5 := by omega
    refine r_iload_n dX6_lettersHeld_4 rfl ?_
    refine r_iconst (nI 5) dX6_lettersHeld_5 (by decide) ?_
    refine r_icmp_ge 26 dX6_lettersHeld_6 (by decide) (fun _ => ?_) (fun hq => absurd (nI_le (Nat.le_refl 5) (by decide)) hq)
    refine r_iload_n dX6_lettersHeld_26 rfl ?_
    exact r_iret (Or.inl rfl) dX6_lettersHeld_27 ⟨rfl, rfl⟩
  | succ k ih =>
    intro i hi
    refine r_iload_n dX6_lettersHeld_4 rfl ?_
    refine r_iconst (nI 5) dX6_lettersHeld_5 (by decide) ?_
    refine r_icmp_ge 26 dX6_lettersHeld_6 (by decide) (fun hq => absurd hq (nI_ge (by omega) (by decide))) (fun _ => ?_)
    refine r_aload_n dX6_lettersHeld_9 rfl ?_
    refine r_iload_n dX6_lettersHeld_10 rfl ?_
    refine r_cV ca_yX6_heldFrom ml_X6_56 im_yX6_heldFrom se_yX6_heldFrom (by decide) rfl (lay_ok hL (sh_n0 hn)) (c_X6_heldFrom hL hn hr hp (q := i) (by omega)) ⟨by decide, by decide⟩ (by decide) (by decide) rfl (Nat.le_of_ble_eq_true rfl) dX6_lettersHeld_11 ?_
    refine r_ifnull 20 dX6_lettersHeld_14 (by decide) (fun c14 => ?_) (fun v14 c14 => ?_)
    · refine r_iinc (nI (i + 1)) _ dX6_lettersHeld_20 (by decide) rfl (nI_1 _) rfl ?_
      refine r_goto 4 dX6_lettersHeld_23 (by decide) ?_
      have q := ih (i + 1) (by omega)
      first | (rw [itr_s _ i 0, if_neg (by rw [c14]; decide)] at q; exact q) | (rw [itr_s _ i 0, if_pos (by rw [c14]; rfl)] at q; exact q)
    · refine r_iinc (nI ((itr (fun o c => if (mR M (28 + 13 * n + 1) (p * 5 + o)).isSome = true then c + 1 else c) i 0) + 1)) _ dX6_lettersHeld_17 (by decide) rfl (nI_1 _) rfl ?_
      refine r_iinc (nI (i + 1)) _ dX6_lettersHeld_20 (by decide) rfl (nI_1 _) rfl ?_
      refine r_goto 4 dX6_lettersHeld_23 (by decide) ?_
      have q := ih (i + 1) (by omega)
      first | (rw [itr_s _ i 0, if_neg (by rw [c14]; decide)] at q; exact q) | (rw [itr_s _ i 0, if_pos (by rw [c14]; rfl)] at q; exact q)
set_option maxHeartbeats 4000000 in
set_option maxRecDepth 100000 in
theorem c_X6_lettersHeld {l : Launch} {X : Nat × (Nat → Int32)} {M : am_M} (hL : Lay M) {n : Nat} (hn : n < 5) {p : Nat} (hr : mI M (28 + 13 * n) 4 &&& 1 = nI p) (hp : p ≤ 1)  : am_F l yX6_lettersHeld cX6_lettersHeld 3 (some .int) 2 0 0 X [.ref (28 + 13 * n)] M (some (.int (nI (itr (fun o c => if (mR M (28 + 13 * n + 1) (p * 5 + o)).isSome = true then c + 1 else c) 5 0)))) (M) := by
  refine am_C.of (by decide) (by simp [Value.category, va_rf]) (Nat.le_of_ble_eq_true rfl) ?_
  refine r_iconst (nI 0) dX6_lettersHeld_0 (by decide) ?_
  refine r_istore_n _ dX6_lettersHeld_1 (by decide) rfl ?_
  refine r_iconst (nI 0) dX6_lettersHeld_2 (by decide) ?_
  refine r_istore_n _ dX6_lettersHeld_3 (by decide) rfl ?_
  exact l_X6_lettersHeld hL hn hr hp 5 0 (by omega)
set_option maxHeartbeats 4000000 in
set_option maxRecDepth 100000 in
theorem l_X6_isToldActive {l : Launch} {X : Nat × (Nat → Int32)} {M : am_M} (hL : Lay M) {n : Nat} (hn : n < 5) {p : Nat} (hr : mI M (28 + 13 * n) 4 &&& 1 = nI p) (hp : p ≤ 1) (hA : ∀ o a, o < 5 → mR M (28 + 13 * n + 1) (p * 5 + o) = some a → am_ok M a 3 0) : ∀ k i : Nat, i + k = 5 → (∀ o a, o < i → mR M (28 + 13 * n + 1) (p * 5 + o) = some a → ¬ 0 < mI M a 4) → am_V l yX6_isToldActive cX6_isToldActive 3 (some .boolean) (am_R 2 0 0) 0 0 X (fun v M' => M' = M ∧ ((v = some (.int 1) ∧ ∃ o a, o < 5 ∧ mR M (28 + 13 * n + 1) (p * 5 + o) = some a ∧ 0 < mI M a 4) ∨ (v = some (.int 0) ∧ ∀ o a, o < 5 → mR M (28 + 13 * n + 1) (p * 5 + o) = some a → ¬ 0 < mI M a 4))) 0 0 2 [some (.ref (28 + 13 * n)), some (.int (nI i))] [] (M) := by
  intro k
  induction k with
  | zero =>
    intro i hi hb
    obtain rfl : i = 5 := by omega
    refine r_iload_n dX6_isToldActive_2 rfl ?_
    refine r_iconst (nI 5) dX6_isToldActive_3 (by decide) ?_
    refine r_icmp_ge 32 dX6_isToldActive_4 (by decide) (fun _ => ?_) (fun hq => absurd (nI_le (Nat.le_refl 5) (by decide)) hq)
    refine r_iconst (0) dX6_isToldActive_32 (by decide) ?_
    exact r_iret (Or.inr ⟨rfl, by first | exact Or.inl rfl | exact Or.inr rfl⟩) dX6_isToldActive_33 ⟨rfl, Or.inr ⟨rfl, hb⟩⟩
  | succ k ih =>
    intro i hi hb
    refine r_iload_n dX6_isToldActive_2 rfl ?_
    refine r_iconst (nI 5) dX6_isToldActive_3 (by decide) ?_
    refine r_icmp_ge 32 dX6_isToldActive_4 (by decide) (fun hq => absurd hq (nI_ge (by omega) (by decide))) (fun _ => ?_)
    refine r_aload_n dX6_isToldActive_7 rfl ?_
    refine r_iload_n dX6_isToldActive_8 rfl ?_
    refine r_cV ca_yX6_heldFrom ml_X6_56 im_yX6_heldFrom se_yX6_heldFrom (by decide) rfl (lay_ok hL (sh_n0 hn)) (c_X6_heldFrom hL hn hr hp (q := i) (by omega)) ⟨by decide, by decide⟩ (by decide) (by decide) rfl (Nat.le_of_ble_eq_true rfl) dX6_isToldActive_9 ?_
    refine r_astore_nq _ dX6_isToldActive_12 (by decide) rfl ?_
    refine r_aload_nq dX6_isToldActive_13 rfl ?_
    refine r_ifnull 26 dX6_isToldActive_14 (by decide) (fun c14 => ?_) (fun v14 c14 => ?_)
    · refine r_iinc (nI (i + 1)) _ dX6_isToldActive_26 (by decide) rfl (nI_1 _) rfl ?_
      refine r_goto 2 dX6_isToldActive_29 (by decide) ?_
      refine r_take 2 ?_
      refine ih (i + 1) (by omega) (fun o a ho ha => ?_)
      rcases Nat.lt_or_ge o i with z | z
      · exact hb o a z ha
      · obtain rfl : o = i := by omega
        first | (rw [c14] at ha; cases ha; done) | (rw [c14] at ha; cases ha; exact Int32.not_lt.mpr c21)
    · have hao := hA i v14 (by omega) c14
      refine r_aload_nq dX6_isToldActive_17 rfl ?_
      rw [c14]
      refine r_getI kX3 (k := 4) (by decide) rfl fl_X6_60 hao dX6_isToldActive_18 ?_
      refine r_if_le 26 dX6_isToldActive_21 (by decide) (fun c21 => ?_) (fun c21 => ?_)
      · refine r_iinc (nI (i + 1)) _ dX6_isToldActive_26 (by decide) rfl (nI_1 _) rfl ?_
        refine r_goto 2 dX6_isToldActive_29 (by decide) ?_
        refine r_take 2 ?_
        refine ih (i + 1) (by omega) (fun o a ho ha => ?_)
        rcases Nat.lt_or_ge o i with z | z
        · exact hb o a z ha
        · obtain rfl : o = i := by omega
          first | (rw [c14] at ha; cases ha; done) | (rw [c14] at ha; cases ha; exact Int32.not_lt.mpr c21)
      · refine r_iconst (1) dX6_isToldActive_24 (by decide) ?_
        exact r_iret (Or.inr ⟨rfl, by first | exact Or.inl rfl | exact Or.inr rfl⟩) dX6_isToldActive_25 ⟨rfl, Or.inl ⟨rfl, i, v14, by omega, c14, Int32.not_le.mp c21⟩⟩
set_option maxHeartbeats 4000000 in
set_option maxRecDepth 100000 in
theorem c_X6_isToldActive {l : Launch} {X : Nat × (Nat → Int32)} {M : am_M} (hL : Lay M) {n : Nat} (hn : n < 5) {p : Nat} (hr : mI M (28 + 13 * n) 4 &&& 1 = nI p) (hp : p ≤ 1) (hA : ∀ o a, o < 5 → mR M (28 + 13 * n + 1) (p * 5 + o) = some a → am_ok M a 3 0) : am_C l yX6_isToldActive cX6_isToldActive 3 (some .boolean) 2 0 0 X [.ref (28 + 13 * n)] M (fun v M' => M' = M ∧ ((v = some (.int 1) ∧ ∃ o a, o < 5 ∧ mR M (28 + 13 * n + 1) (p * 5 + o) = some a ∧ 0 < mI M a 4) ∨ (v = some (.int 0) ∧ ∀ o a, o < 5 → mR M (28 + 13 * n + 1) (p * 5 + o) = some a → ¬ 0 < mI M a 4))) := by
  refine am_C.of (by decide) (by simp [Value.category, va_rf]) (Nat.le_of_ble_eq_true rfl) ?_
  refine r_iconst (nI 0) dX6_isToldActive_0 (by decide) ?_
  refine r_istore_n _ dX6_isToldActive_1 (by decide) rfl ?_
  exact l_X6_isToldActive hL hn hr hp hA 5 0 (by omega) (fun o a ho => by omega)
