set_option maxHeartbeats 4000000 in
set_option maxRecDepth 100000 in
theorem l_X1_verticesAt {l : Launch} {X : Nat × (Nat → Int32)} {M : am_M} (hL : Lay M) {nv n : Nat} {hm : Nat → Nat} (h5 : mI M 2 5 = nI nv) (hnv : nv ≤ 16) (hH : ∀ v, v < nv → mI M 3 v = nI (hm v) ∧ hm v < 5) (hn : n < 5) : ∀ k i : Nat, i + k = nv → am_V l yX1_verticesAt cX1_verticesAt 4 (some .int) (am_R 0 0 0) 0 0 X (fun v M' => v = some (.int (nI (itr (fun v c => if hm v = n then c + 1 else c) nv 0))) ∧ M' = M) 0 0 4 [some (.ref 2), some (.int (nI n)), some (.int (nI (itr (fun v c => if hm v = n then c + 1 else c) i 0))), some (.int (nI i))] [] (M) := by
  intro k
  induction k with
  | zero =>
    intro i hi
    obtain rfl : i = nv := by omega
    refine r_iload_n dX1_verticesAt_4 rfl ?_
    refine r_aload_n dX1_verticesAt_5 rfl ?_
    refine r_getE (nI i) kX1 (k := 5) (by decide) rfl fl_X1_27 (lay_ok hL rfl) dX1_verticesAt_6 h5 ?_
    refine r_icmp_ge 31 dX1_verticesAt_9 (by decide) (fun _ => ?_) (fun hq => absurd (nI_le (Nat.le_refl i) (by omega)) hq)
    refine r_iload_n dX1_verticesAt_31 rfl ?_
    exact r_iret (Or.inl rfl) dX1_verticesAt_32 ⟨rfl, rfl⟩
  | succ k ih =>
    intro i hi
    obtain ⟨e1, e2⟩ := hH i (by omega)
    refine r_iload_n dX1_verticesAt_4 rfl ?_
    refine r_aload_n dX1_verticesAt_5 rfl ?_
    refine r_getE (nI nv) kX1 (k := 5) (by decide) rfl fl_X1_27 (lay_ok hL rfl) dX1_verticesAt_6 h5 ?_
    refine r_icmp_ge 31 dX1_verticesAt_9 (by decide) (fun hq => absurd hq (nI_ge (by omega) (by omega))) (fun _ => ?_)
    refine r_aload_n dX1_verticesAt_12 rfl ?_
    refine r_getF kX1 (k := 0) (by decide) rfl fl_X1_9 (lay_ok hL rfl) (lay_r hL rfl) dX1_verticesAt_13 ?_
    refine r_iload_n dX1_verticesAt_16 rfl ?_
    refine r_ialdE (nI (hm i)) (lay_ok hL rfl) (by omega) (by omega) dX1_verticesAt_17 e1 ?_
    refine r_iload_n dX1_verticesAt_18 rfl ?_
    refine r_icmp_ne 25 dX1_verticesAt_19 (by decide) (fun c19 => ?_) (fun c19 => ?_)
    · refine r_iinc (nI (i + 1)) _ dX1_verticesAt_25 (by decide) rfl (nI_1 _) rfl ?_
      refine r_goto 4 dX1_verticesAt_28 (by decide) ?_
      first | (have q := ih (i + 1) (by omega); rw [itr_s, if_neg (fun h => c19 (by rw [h]))] at q; exact q) | (have q := ih (i + 1) (by omega); rw [itr_s, if_pos ((nI_eq (by omega) (by omega)).mp c19)] at q; exact q)
    · refine r_iinc (nI ((itr (fun v c => if hm v = n then c + 1 else c) i 0) + 1)) _ dX1_verticesAt_22 (by decide) rfl (nI_1 _) rfl ?_
      refine r_iinc (nI (i + 1)) _ dX1_verticesAt_25 (by decide) rfl (nI_1 _) rfl ?_
      refine r_goto 4 dX1_verticesAt_28 (by decide) ?_
      first | (have q := ih (i + 1) (by omega); rw [itr_s, if_neg (fun h => c19 (by rw [h]))] at q; exact q) | (have q := ih (i + 1) (by omega); rw [itr_s, if_pos ((nI_eq (by omega) (by omega)).mp c19)] at q; exact q)
set_option maxHeartbeats 4000000 in
set_option maxRecDepth 100000 in
theorem c_X1_verticesAt {l : Launch} {X : Nat × (Nat → Int32)} {M : am_M} (hL : Lay M) {nv n : Nat} {hm : Nat → Nat} (h5 : mI M 2 5 = nI nv) (hnv : nv ≤ 16) (hH : ∀ v, v < nv → mI M 3 v = nI (hm v) ∧ hm v < 5) (hn : n < 5) : am_F l yX1_verticesAt cX1_verticesAt 4 (some .int) 0 0 0 X [.ref 2, .int (nI n)] M (some (.int (nI (itr (fun v c => if hm v = n then c + 1 else c) nv 0)))) (M) := by
  refine am_C.of (by decide) (by simp [Value.category, va_rf]) (Nat.le_of_ble_eq_true rfl) ?_
  refine r_iconst (nI 0) dX1_verticesAt_0 (by decide) ?_
  refine r_istore_n _ dX1_verticesAt_1 (by decide) rfl ?_
  refine r_iconst (nI 0) dX1_verticesAt_2 (by decide) ?_
  refine r_istore_n _ dX1_verticesAt_3 (by decide) rfl ?_
  exact l_X1_verticesAt hL h5 hnv hH hn nv 0 (by omega)
set_option maxHeartbeats 4000000 in
set_option maxRecDepth 100000 in
theorem l_X1_activeAt {l : Launch} {X : Nat × (Nat → Int32)} {M : am_M} (hL : Lay M) {nv n va p q r : Nat} {hm ac : Nat → Nat} (hva : am_ok M va 7 0) (hp : mR M va 0 = some p) (hq : mR M va 1 = some q) (hr : mR M va 2 = some r) (hpo : am_ok M p 10 16) (hqo : am_ok M q 10 16) (hro : am_ok M r 11 16) (h5 : mI M 2 5 = nI nv) (hnv : nv ≤ 16) (hH : ∀ v, v < nv → mI M 3 v = nI (hm v) ∧ hm v < 5 ∧ mI M r v = nI (ac v) ∧ ac v ≤ 1) (hn : n < 5) : ∀ k i : Nat, i + k = nv → am_V l yX1_activeAt cX1_activeAt 5 (some .int) (am_R 0 0 0) 0 0 X (fun v M' => v = some (.int (nI (itr (fun v c => if hm v = n ∧ ac v = 1 then c + 1 else c) nv 0))) ∧ M' = M) 0 0 5 [some (.ref 2), some (.int (nI n)), some (.ref va), some (.int (nI (itr (fun v c => if hm v = n ∧ ac v = 1 then c + 1 else c) i 0))), some (.int (nI i))] [] (M) := by
  intro k
  induction k with
  | zero =>
    intro i hi
    obtain rfl : i = nv := by omega
    refine r_iload dX1_activeAt_5 rfl ?_
    refine r_aload_n dX1_activeAt_7 rfl ?_
    refine r_getE (nI i) kX1 (k := 5) (by decide) rfl fl_X1_27 (lay_ok hL rfl) dX1_activeAt_8 h5 ?_
    refine r_icmp_ge 44 dX1_activeAt_11 (by decide) (fun _ => ?_) (fun hq => absurd (nI_le (Nat.le_refl i) (by omega)) hq)
    refine r_iload_n dX1_activeAt_44 rfl ?_
    exact r_iret (Or.inl rfl) dX1_activeAt_45 ⟨rfl, rfl⟩
  | succ k ih =>
    intro i hi
    obtain ⟨e1, e2, e3, e4⟩ := hH i (by omega)
    refine r_iload dX1_activeAt_5 rfl ?_
    refine r_aload_n dX1_activeAt_7 rfl ?_
    refine r_getE (nI nv) kX1 (k := 5) (by decide) rfl fl_X1_27 (lay_ok hL rfl) dX1_activeAt_8 h5 ?_
    refine r_icmp_ge 44 dX1_activeAt_11 (by decide) (fun hq => absurd hq (nI_ge (by omega) (by omega))) (fun _ => ?_)
    refine r_aload_n dX1_activeAt_14 rfl ?_
    refine r_getF kX1 (k := 0) (by decide) rfl fl_X1_9 (lay_ok hL rfl) (lay_r hL rfl) dX1_activeAt_15 ?_
    refine r_iload dX1_activeAt_18 rfl ?_
    refine r_ialdE (nI (hm i)) (lay_ok hL rfl) (by omega) (by omega) dX1_activeAt_20 e1 ?_
    refine r_iload_n dX1_activeAt_21 rfl ?_
    refine r_icmp_ne 38 dX1_activeAt_22 (by decide) (fun c22 => ?_) (fun c22 => ?_)
    · refine r_iinc (nI (i + 1)) _ dX1_activeAt_38 (by decide) rfl (nI_1 _) rfl ?_
      refine r_goto 5 dX1_activeAt_41 (by decide) ?_
      first | (have q := ih (i + 1) (by omega); rw [itr_s, if_neg (fun h => c22 (by rw [h.1]))] at q; exact q) | (have q := ih (i + 1) (by omega); rw [itr_s, if_neg (fun h => absurd c32 (by rw [h.2]; decide))] at q; exact q) | (have q := ih (i + 1) (by omega); rw [itr_s, if_pos ⟨(nI_eq (by omega) (by omega)).mp c22, by rcases (show ac i = 0 ∨ ac i = 1 by omega) with z | z; exact absurd (by rw [z]; rfl) c32; exact z⟩] at q; exact q)
    · refine r_aload_n dX1_activeAt_25 rfl ?_
      refine r_getF kX7 (k := 2) (by decide) rfl fl_X1_48 hva hr dX1_activeAt_26 ?_
      refine r_iload dX1_activeAt_29 rfl ?_
      refine r_zaldE (nI (ac i)) hro (by omega) (by omega) dX1_activeAt_31 e3 ?_
      refine r_if_eq 38 dX1_activeAt_32 (by decide) (fun c32 => ?_) (fun c32 => ?_)
      · refine r_iinc (nI (i + 1)) _ dX1_activeAt_38 (by decide) rfl (nI_1 _) rfl ?_
        refine r_goto 5 dX1_activeAt_41 (by decide) ?_
        first | (have q := ih (i + 1) (by omega); rw [itr_s, if_neg (fun h => c22 (by rw [h.1]))] at q; exact q) | (have q := ih (i + 1) (by omega); rw [itr_s, if_neg (fun h => absurd c32 (by rw [h.2]; decide))] at q; exact q) | (have q := ih (i + 1) (by omega); rw [itr_s, if_pos ⟨(nI_eq (by omega) (by omega)).mp c22, by rcases (show ac i = 0 ∨ ac i = 1 by omega) with z | z; exact absurd (by rw [z]; rfl) c32; exact z⟩] at q; exact q)
      · refine r_iinc (nI ((itr (fun v c => if hm v = n ∧ ac v = 1 then c + 1 else c) i 0) + 1)) _ dX1_activeAt_35 (by decide) rfl (nI_1 _) rfl ?_
        refine r_iinc (nI (i + 1)) _ dX1_activeAt_38 (by decide) rfl (nI_1 _) rfl ?_
        refine r_goto 5 dX1_activeAt_41 (by decide) ?_
        first | (have q := ih (i + 1) (by omega); rw [itr_s, if_neg (fun h => c22 (by rw [h.1]))] at q; exact q) | (have q := ih (i + 1) (by omega); rw [itr_s, if_neg (fun h => absurd c32 (by rw [h.2]; decide))] at q; exact q) | (have q := ih (i + 1) (by omega); rw [itr_s, if_pos ⟨(nI_eq (by omega) (by omega)).mp c22, by rcases (show ac i = 0 ∨ ac i = 1 by omega) with z | z; exact absurd (by rw [z]; rfl) c32; exact z⟩] at q; exact q)
set_option maxHeartbeats 4000000 in
set_option maxRecDepth 100000 in
theorem c_X1_activeAt {l : Launch} {X : Nat × (Nat → Int32)} {M : am_M} (hL : Lay M) {nv n va p q r : Nat} {hm ac : Nat → Nat} (hva : am_ok M va 7 0) (hp : mR M va 0 = some p) (hq : mR M va 1 = some q) (hr : mR M va 2 = some r) (hpo : am_ok M p 10 16) (hqo : am_ok M q 10 16) (hro : am_ok M r 11 16) (h5 : mI M 2 5 = nI nv) (hnv : nv ≤ 16) (hH : ∀ v, v < nv → mI M 3 v = nI (hm v) ∧ hm v < 5 ∧ mI M r v = nI (ac v) ∧ ac v ≤ 1) (hn : n < 5) : am_F l yX1_activeAt cX1_activeAt 5 (some .int) 0 0 0 X [.ref 2, .int (nI n), .ref va] M (some (.int (nI (itr (fun v c => if hm v = n ∧ ac v = 1 then c + 1 else c) nv 0)))) (M) := by
  refine am_C.of (by decide) (by simp [Value.category, va_rf]) (Nat.le_of_ble_eq_true rfl) ?_
  refine r_iconst (nI 0) dX1_activeAt_0 (by decide) ?_
  refine r_istore_n _ dX1_activeAt_1 (by decide) rfl ?_
  refine r_iconst (nI 0) dX1_activeAt_2 (by decide) ?_
  refine r_istore _ dX1_activeAt_3 (by decide) rfl ?_
  exact l_X1_activeAt hL hva hp hq hr hpo hqo hro h5 hnv hH hn nv 0 (by omega)
set_option maxHeartbeats 4000000 in
set_option maxRecDepth 100000 in
theorem l_X2_clear {l : Launch} {X : Nat × (Nat → Int32)} {M : am_M} (hL : Lay M)  : ∀ k i : Nat, i + k = 16 → am_V l yX2_clear cX2_clear 2 (none) (am_R 0 0 0) 0 0 X (fun v M' => v = none ∧ M' = wF M 17 (fl (mI M 17) 16 0)) 0 0 2 [some (.ref 16), some (.int (nI i))] [] (wF M 17 (fl (mI M 17) i 0)) := by
  intro k
  induction k with
  | zero =>
    intro i hi
    obtain rfl : i = 16 := by omega
    refine r_iload_n dX2_clear_2 rfl ?_
    refine r_bipush (nI 16) dX2_clear_3 (by decide) ?_
    refine r_icmp_ge 21 dX2_clear_5 (by decide) (fun _ => ?_) (fun hq => absurd (nI_le (Nat.le_refl 16) (by decide)) hq)
    exact r_vret rfl dX2_clear_21 ⟨rfl, rfl⟩
  | succ k ih =>
    intro i hi
    have hL := lay_wF hL 17 (fl (mI M 17) i 0)
    refine r_iload_n dX2_clear_2 rfl ?_
    refine r_bipush (nI 16) dX2_clear_3 (by decide) ?_
    refine r_icmp_ge 21 dX2_clear_5 (by decide) (fun hq => absurd hq (nI_ge (by omega) (by decide))) (fun _ => ?_)
    refine r_aload_n dX2_clear_8 rfl ?_
    refine r_getF kX2 (k := 0) (by decide) rfl fl_X2_9 (lay_ok hL rfl) (lay_r hL rfl) dX2_clear_9 ?_
    refine r_iload_n dX2_clear_12 rfl ?_
    refine r_iconst (0) dX2_clear_13 (by decide) ?_
    refine r_zastN (lay_ok hL rfl) (by omega) (by decide) (by decide) dX2_clear_14 ?_
    refine r_lay (lay_wI hL _ _ _) (fun hL => ?_)
    refine r_iinc (nI (i + 1)) _ dX2_clear_15 (by decide) rfl (nI_1 _) rfl ?_
    refine r_goto 2 dX2_clear_18 (by decide) ?_
    have q := ih (i + 1) (by omega)
    rw [← fl_s (mI M 17) i 0, ← wI_wF] at q
    exact q
set_option maxHeartbeats 4000000 in
set_option maxRecDepth 100000 in
theorem c_X2_clear {l : Launch} {X : Nat × (Nat → Int32)} {M : am_M} (hL : Lay M)  : am_F l yX2_clear cX2_clear 2 (none) 0 0 0 X [.ref 16] M (none) (wF M 17 (fl (mI M 17) 16 0)) := by
  refine am_C.of (by decide) (by simp [Value.category, va_rf]) (Nat.le_of_ble_eq_true rfl) ?_
  refine r_iconst (nI 0) dX2_clear_0 (by decide) ?_
  refine r_istore_n _ dX2_clear_1 (by decide) rfl ?_
  have q := l_X2_clear (l := l) (X := X) hL 16 0 (by omega)
  rw [fl_0, wF_id] at q
  exact q
set_option maxHeartbeats 4000000 in
set_option maxRecDepth 100000 in
theorem l_X5_clear {l : Launch} {X : Nat × (Nat → Int32)} {M : am_M} (hL : Lay M)  : ∀ k i : Nat, i + k = 60 → am_V l yX5_clear cX5_clear 2 (none) (am_R 0 0 0) 0 0 X (fun v M' => v = none ∧ M' = wI (wQ M 25 (fl (mR M 25) 60 none)) 24 1 0) 0 0 2 [some (.ref 24), some (.int (nI i))] [] (wQ M 25 (fl (mR M 25) i none)) := by
  intro k
  induction k with
  | zero =>
    intro i hi
    obtain rfl : i = 60 := by omega
    have hL := lay_wQ hL (fl (mR M 25) 60 none) (a := 25) (fun _ => rfl)
    refine r_iload_n dX5_clear_2 rfl ?_
    refine r_bipush (nI 60) dX5_clear_3 (by decide) ?_
    refine r_icmp_ge 21 dX5_clear_5 (by decide) (fun _ => ?_) (fun hq => absurd (nI_le (Nat.le_refl 60) (by decide)) hq)
    refine r_aload_n dX5_clear_21 rfl ?_
    refine r_iconst (0) dX5_clear_22 (by decide) ?_
    refine r_putI kX5 (k := 1) (by decide) rfl (Or.inl rfl) fl_X5_17 (lay_ok hL rfl) ⟨rfl, rfl⟩ dX5_clear_23 ?_
    refine r_lay (lay_wI hL _ _ _) (fun hL => ?_)
    exact r_vret rfl dX5_clear_26 ⟨rfl, rfl⟩
  | succ k ih =>
    intro i hi
    have hL := lay_wQ hL (fl (mR M 25) i none) (a := 25) (fun _ => rfl)
    refine r_iload_n dX5_clear_2 rfl ?_
    refine r_bipush (nI 60) dX5_clear_3 (by decide) ?_
    refine r_icmp_ge 21 dX5_clear_5 (by decide) (fun hq => absurd hq (nI_ge (by omega) (by decide))) (fun _ => ?_)
    refine r_aload_n dX5_clear_8 rfl ?_
    refine r_getF kX5 (k := 0) (by decide) rfl fl_X5_11 (lay_ok hL rfl) (lay_r hL rfl) dX5_clear_9 ?_
    refine r_iload_n dX5_clear_12 rfl ?_
    refine r_null dX5_clear_13 ?_
    refine r_aastZ (Or.inl rfl) (lay_ok hL rfl) (by omega) (by decide) dX5_clear_14 ?_
    refine r_lay (lay_wR hL _ rfl) (fun hL => ?_)
    refine r_iinc (nI (i + 1)) _ dX5_clear_15 (by decide) rfl (nI_1 _) rfl ?_
    refine r_goto 2 dX5_clear_18 (by decide) ?_
    have q := ih (i + 1) (by omega)
    rw [← fl_s (mR M 25) i none, ← wR_wQ] at q
    exact q
set_option maxHeartbeats 4000000 in
set_option maxRecDepth 100000 in
theorem c_X5_clear {l : Launch} {X : Nat × (Nat → Int32)} {M : am_M} (hL : Lay M)  : am_F l yX5_clear cX5_clear 2 (none) 0 0 0 X [.ref 24] M (none) (wI (wQ M 25 (fl (mR M 25) 60 none)) 24 1 0) := by
  refine am_C.of (by decide) (by simp [Value.category, va_rf]) (Nat.le_of_ble_eq_true rfl) ?_
  refine r_iconst (nI 0) dX5_clear_0 (by decide) ?_
  refine r_istore_n _ dX5_clear_1 (by decide) rfl ?_
  have q := l_X5_clear (l := l) (X := X) hL 60 0 (by omega)
  rw [fl_0, wQ_id] at q
  exact q
set_option maxHeartbeats 4000000 in
set_option maxRecDepth 100000 in
theorem c_X5_at {l : Launch} {X : Nat × (Nat → Int32)} {M : am_M} (hL : Lay M) {x : Int32} {k : Nat} (hk : mI M 24 1 = nI k) (hk2 : k ≤ 60) : am_F l yX5_at cX5_at 2 (some (.object "SplitNodes$Letter")) 0 0 0 X [.ref 24, .int x] M (some (va_rf (if x < 0 then none else if nI k ≤ x then none else mR M 25 x.toNatClampNeg))) (M) := by
  refine am_C.of (by decide) (by simp [Value.category, va_rf]) (Nat.le_of_ble_eq_true rfl) ?_
  refine r_iload_n dX5_at_0 rfl ?_
  refine r_if_lt 21 dX5_at_1 (by decide) (fun c1 => ?_) (fun c1 => ?_)
  · refine r_null dX5_at_21 ?_
    first | exact r_aret (r := none) (Or.inl ⟨_, rfl⟩) dX5_at_22 ⟨by simp [*], rfl⟩ | exact r_aret (Or.inl ⟨_, rfl⟩) dX5_at_22 ⟨by simp [*], rfl⟩
  · refine r_iload_n dX5_at_4 rfl ?_
    refine r_aload_n dX5_at_5 rfl ?_
    refine r_getE (nI k) kX5 (k := 1) (by decide) rfl fl_X5_17 (lay_ok hL rfl) dX5_at_6 hk ?_
    refine r_icmp_ge 21 dX5_at_9 (by decide) (fun c9 => ?_) (fun c9 => ?_)
    · refine r_null dX5_at_21 ?_
      first | exact r_aret (r := none) (Or.inl ⟨_, rfl⟩) dX5_at_22 ⟨by simp [*], rfl⟩ | exact r_aret (Or.inl ⟨_, rfl⟩) dX5_at_22 ⟨by simp [*], rfl⟩
    · refine r_aload_n dX5_at_12 rfl ?_
      refine r_getF kX5 (k := 0) (by decide) rfl fl_X5_11 (lay_ok hL rfl) (lay_r hL rfl) dX5_at_13 ?_
      refine r_iload_n dX5_at_16 rfl ?_
      refine r_aald (Or.inl rfl) (lay_ok hL rfl) (vp_in_iff.mpr ⟨by have := Int32.not_lt.mp c1; simpa using Int32.le_iff_toInt_le.mp this, by have := Int32.lt_iff_toInt_lt.mp (Int32.not_le.mp c9); rw [nI_toInt (by omega)] at this; omega⟩) dX5_at_17 ?_
      refine r_goto 22 dX5_at_18 (by decide) ?_
      first | exact r_aret (r := none) (Or.inl ⟨_, rfl⟩) dX5_at_22 ⟨by simp [*], rfl⟩ | exact r_aret (Or.inl ⟨_, rfl⟩) dX5_at_22 ⟨by simp [*], rfl⟩
set_option maxHeartbeats 4000000 in
set_option maxRecDepth 100000 in
theorem c_X5_add {l : Launch} {X : Nat × (Nat → Int32)} {M : am_M} (hL : Lay M) {a k n0 : Nat} (hla : am_ok M a 3 n0) (hk : mI M 24 1 = nI k) (hk2 : k ≤ 60) : am_F l yX5_add cX5_add 2 (some .boolean) 0 0 0 X [.ref 24, .ref a] M (some (.int (if k < 60 then 1 else 0))) (if k < 60 then wI (wR M 25 k (some a)) 24 1 (nI (k + 1)) else M) := by
  refine am_C.of (by decide) (by simp [Value.category, va_rf]) (Nat.le_of_ble_eq_true rfl) ?_
  refine r_aload_n dX5_add_0 rfl ?_
  refine r_getE (nI k) kX5 (k := 1) (by decide) rfl fl_X5_17 (lay_ok hL rfl) dX5_add_1 hk ?_
  refine r_bipush (nI 60) dX5_add_4 (by decide) ?_
  refine r_icmp_lt 11 dX5_add_6 (by decide) (fun c6 => ?_) (fun c6 => ?_)
  · refine r_aload_n dX5_add_11 rfl ?_
    refine r_getF kX5 (k := 0) (by decide) rfl fl_X5_11 (lay_ok hL rfl) (lay_r hL rfl) dX5_add_12 ?_
    refine r_aload_n dX5_add_15 rfl ?_
    refine r_getE (nI k) kX5 (k := 1) (by decide) rfl fl_X5_17 (lay_ok hL rfl) dX5_add_16 hk ?_
    refine r_aload_n dX5_add_19 rfl ?_
    have c6 := (nI_ltI (by omega) (by decide)).mp c6
    refine r_aastO (Or.inl ⟨rfl, rfl⟩) (lay_ok hL rfl) (by omega) (by decide) hla dX5_add_20 ?_
    refine r_lay (lay_wR hL _ rfl) (fun hL => ?_)
    refine r_aload_n dX5_add_21 rfl ?_
    refine r_dup dX5_add_22 rfl ?_
    refine r_getE (nI k) kX5 (k := 1) (by decide) rfl fl_X5_17 (lay_ok hL rfl) dX5_add_23 hk ?_
    refine r_iconst (1) dX5_add_26 (by decide) ?_
    refine r_iadd dX5_add_27 ?_
    refine r_top (nI (k + 1)) (nI_1 k) ?_
    refine r_putI kX5 (k := 1) (by decide) rfl (Or.inl rfl) fl_X5_17 (lay_ok hL rfl) ⟨rfl, rfl⟩ dX5_add_28 ?_
    refine r_lay (lay_wI hL _ _ _) (fun hL => ?_)
    refine r_iconst (1) dX5_add_31 (by decide) ?_
    exact r_iret (Or.inr ⟨rfl, by first | exact Or.inl rfl | exact Or.inr rfl⟩) dX5_add_32 ⟨by rw [if_pos c6], by rw [if_pos c6]⟩
  · refine r_iconst (0) dX5_add_9 (by decide) ?_
    exact r_iret (Or.inr ⟨rfl, by first | exact Or.inl rfl | exact Or.inr rfl⟩) dX5_add_10 ⟨by rw [if_neg (fun h => c6 ((nI_ltI (by omega) (by decide)).mpr h))], by rw [if_neg (fun h => c6 ((nI_ltI (by omega) (by decide)).mpr h))]⟩
