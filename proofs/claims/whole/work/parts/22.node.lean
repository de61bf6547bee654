theorem nI_sub1 {m : Nat} (h : 0 < m) : nI m - 1 = nI (m - 1) := by
  obtain ⟨j, rfl⟩ : ∃ j, m = j + 1 := ⟨m - 1, by omega⟩
  exact nI_pred j
def sft {α : Type} (f : Nat → α) (j m : Nat) : Nat → α := fun t => if j ≤ t ∧ t + 1 < m then f (t + 1) else f t
theorem sft_0 {α : Type} (f : Nat → α) (j : Nat) : sft f j (j + 1) = f := by funext t; simp [sft]; omega
theorem sft_s {α : Type} (f : Nat → α) {j m : Nat} (h : j < m) : va_up (sft f j m) (m - 1) (f m) = sft f j (m + 1) := by
  funext t
  by_cases e : t = m - 1
  · subst e
    have h1 : j ≤ m - 1 ∧ m - 1 + 1 < m + 1 := by omega
    simp [va_up, sft, h1, show m - 1 + 1 = m by omega]
  · by_cases h2 : j ≤ t ∧ t + 1 < m
    · have h3 : j ≤ t ∧ t + 1 < m + 1 := by omega
      simp [va_up, sft, e, h2, h3]
    · have h3 : ¬ (j ≤ t ∧ t + 1 < m + 1) := by omega
      simp only [va_up, sft, if_neg e, if_neg h2, if_neg h3]
theorem wR_wQ2 (M : am_M) {a b : Nat} (h : a ≠ b) (k : Nat) (f f' : Nat → Option Nat) (v : Option Nat) : wR (wQ (wQ M a f) b f') a k v = wQ (wQ M a (va_up f k v)) b f' := by
  rw [wQ_comm M h, wR_wQ, wQ_comm M (Ne.symm h)]
set_option maxHeartbeats 4000000 in
set_option maxRecDepth 100000 in
theorem l_X5_remove {l : Launch} {X : Nat × (Nat → Int32)} {M : am_M} (hL : Lay M) {j k : Nat} (hk : mI M 24 1 = nI k) (hk2 : k ≤ 60) (hj : j < k) (hA : ∀ t, t < k → ∃ a, mR M 25 t = some a ∧ am_ok M a 3 0) : ∀ r m : Nat, m + r = k → j < m → am_V l yX5_remove cX5_remove 3 (none) (am_R 0 0 0) 0 0 X (fun v M1 => v = none ∧ M1 = wR (wI (wQ M 25 (sft (mR M 25) j k)) 24 1 (nI (k - 1))) 25 (k - 1) none) 0 0 4 [some (.ref 24), some (.int (nI j)), some (.int (nI m))] [] (wQ M 25 (sft (mR M 25) j m)) := by
  intro r
  induction r with
  | zero =>
    intro m hm hjm
    obtain rfl : m = k := by omega
    have hL := lay_wQ hL (sft (mR M 25) j m) (a := 25) (fun _ => rfl)
    refine r_iload_n dX5_remove_4 rfl ?_
    refine r_aload_n dX5_remove_5 rfl ?_
    refine r_getE (nI m) kX5 (k := 1) (by decide) rfl fl_X5_17 (lay_ok hL rfl) dX5_remove_6 hk ?_
    refine r_icmp_ge 32 dX5_remove_9 (by decide) (fun _ => ?_) (fun hq => absurd (nI_le (Nat.le_refl m) (by omega)) hq)
    refine r_aload_n dX5_remove_32 rfl ?_
    refine r_dup dX5_remove_33 rfl ?_
    refine r_getE (nI m) kX5 (k := 1) (by decide) rfl fl_X5_17 (lay_ok hL rfl) dX5_remove_34 hk ?_
    refine r_iconst (1) dX5_remove_37 (by decide) ?_
    refine r_isub dX5_remove_38 ?_
    refine r_top (nI (m - 1)) (nI_sub1 (by omega)) ?_
    refine r_putI kX5 (k := 1) (by decide) rfl (Or.inl rfl) fl_X5_17 (lay_ok hL rfl) ⟨rfl, rfl⟩ dX5_remove_39 ?_
    refine r_lay (lay_wI hL _ _ _) (fun hL => ?_)
    refine r_aload_n dX5_remove_42 rfl ?_
    refine r_getF kX5 (k := 0) (by decide) rfl fl_X5_11 (lay_ok hL rfl) (lay_r hL rfl) dX5_remove_43 ?_
    refine r_aload_n dX5_remove_46 rfl ?_
    refine r_getE (nI (m - 1)) kX5 (k := 1) (by decide) rfl fl_X5_17 (lay_ok hL rfl) dX5_remove_47 (by simp [mI_wI]) ?_
    refine r_null dX5_remove_50 ?_
    refine r_aastZ (Or.inl rfl) (lay_ok hL rfl) (by omega) (by decide) dX5_remove_51 ?_
    refine r_lay (lay_wR hL _ rfl) (fun hL => ?_)
    exact r_vret rfl dX5_remove_52 ⟨rfl, rfl⟩
  | succ r ih =>
    intro m hm hjm
    have hL := lay_wQ hL (sft (mR M 25) j m) (a := 25) (fun _ => rfl)
    obtain ⟨a, ha, hao⟩ := hA m (by omega)
    refine r_iload_n dX5_remove_4 rfl ?_
    refine r_aload_n dX5_remove_5 rfl ?_
    refine r_getE (nI k) kX5 (k := 1) (by decide) rfl fl_X5_17 (lay_ok hL rfl) dX5_remove_6 hk ?_
    refine r_icmp_ge 32 dX5_remove_9 (by decide) (fun hq => absurd hq (nI_ge (by omega) (by omega))) (fun _ => ?_)
    refine r_aload_n dX5_remove_12 rfl ?_
    refine r_getF kX5 (k := 0) (by decide) rfl fl_X5_11 (lay_ok hL rfl) (lay_r hL rfl) dX5_remove_13 ?_
    refine r_iload_n dX5_remove_16 rfl ?_
    refine r_iconst (1) dX5_remove_17 (by decide) ?_
    refine r_isub dX5_remove_18 ?_
    refine r_top (nI (m - 1)) (nI_sub1 (by omega)) ?_
    refine r_aload_n dX5_remove_19 rfl ?_
    refine r_getF kX5 (k := 0) (by decide) rfl fl_X5_11 (lay_ok hL rfl) (lay_r hL rfl) dX5_remove_20 ?_
    refine r_iload_n dX5_remove_23 rfl ?_
    refine r_aaldF (r := a) (Or.inl rfl) (lay_ok hL rfl) (by omega) (by decide) (by rw [mR_wQ_s]; simp only [sft]; rw [if_neg (by omega)]; exact ha) dX5_remove_24 ?_
    refine r_aastO (Or.inl ⟨rfl, rfl⟩) (lay_ok hL rfl) (by omega) (by decide) hao dX5_remove_25 ?_
    refine r_lay (lay_wR hL _ rfl) (fun hL => ?_)
    refine r_iinc (nI (m + 1)) _ dX5_remove_26 (by decide) rfl (nI_1 _) rfl ?_
    refine r_goto 4 dX5_remove_29 (by decide) ?_
    have q := ih (m + 1) (by omega) (by omega)
    rw [← sft_s (mR M 25) hjm, ha, ← wR_wQ] at q
    exact q
set_option maxHeartbeats 4000000 in
set_option maxRecDepth 100000 in
theorem c_X5_remove {l : Launch} {X : Nat × (Nat → Int32)} {M : am_M} (hL : Lay M) {j k : Nat} (hk : mI M 24 1 = nI k) (hk2 : k ≤ 60) (hj : j < k) (hA : ∀ t, t < k → ∃ a, mR M 25 t = some a ∧ am_ok M a 3 0) : am_F l yX5_remove cX5_remove 3 (none) 0 0 0 X [.ref 24, .int (nI j)] M (none) (wR (wI (wQ M 25 (sft (mR M 25) j k)) 24 1 (nI (k - 1))) 25 (k - 1) none) := by
  refine am_C.of (by decide) (by simp [Value.category, va_rf]) (Nat.le_of_ble_eq_true rfl) ?_
  refine r_iload_n dX5_remove_0 rfl ?_
  refine r_iconst (1) dX5_remove_1 (by decide) ?_
  refine r_iadd dX5_remove_2 ?_
  refine r_top (nI (j + 1)) (nI_1 j) ?_
  refine r_istore_n _ dX5_remove_3 (by decide) rfl ?_
  have q := l_X5_remove (l := l) (X := X) hL hk hk2 hj hA (k - (j + 1)) (j + 1) (by omega) (by omega)
  rw [sft_0, wQ_id] at q
  exact q
set_option maxHeartbeats 4000000 in
set_option maxRecDepth 100000 in
theorem c_X6_slot {l : Launch} {X : Nat × (Nat → Int32)} {M : am_M} (hL : Lay M) {r : Int32} {p q : Nat} (hr : r &&& 1 = nI p)  : am_F l yX6_slot cX6_slot 2 (some .int) 0 0 0 X [.int r, .int (nI q)] M (some (.int (nI (p * 5 + q)))) (M) := by
  refine am_C.of (by decide) (by simp [Value.category, va_rf]) (Nat.le_of_ble_eq_true rfl) ?_
  refine r_iload_n dX6_slot_0 rfl ?_
  refine r_iconst (1) dX6_slot_1 (by decide) ?_
  refine r_iand dX6_slot_2 ?_
  refine r_top (nI p) hr ?_
  refine r_iconst (nI 5) dX6_slot_3 (by decide) ?_
  refine r_imul dX6_slot_4 ?_
  refine r_top (nI (p * 5)) (pk_mul p 5) ?_
  refine r_iload_n dX6_slot_5 rfl ?_
  refine r_iadd dX6_slot_6 ?_
  refine r_top (nI (p * 5 + q)) (nI_add _ _) ?_
  exact r_iret (Or.inl rfl) dX6_slot_7 ⟨rfl, rfl⟩
set_option maxHeartbeats 4000000 in
set_option maxRecDepth 100000 in
theorem l_X6_forgetLetters {l : Launch} {X : Nat × (Nat → Int32)} {M : am_M} (hL : Lay M) {n : Nat} (hn : n < 5) : ∀ k i : Nat, i + k = 10 → am_V l yX6_forgetLetters cX6_forgetLetters 2 (none) (am_R 0 0 0) 0 0 X (fun v M1 => v = none ∧ M1 = wQ (wQ M (28 + 13 * n + 1) (fl (mR M (28 + 13 * n + 1)) 10 none)) (28 + 13 * n + 2) (fl (mR M (28 + 13 * n + 2)) 10 none)) 0 0 2 [some (.ref (28 + 13 * n)), some (.int (nI i))] [] (wQ (wQ M (28 + 13 * n + 1) (fl (mR M (28 + 13 * n + 1)) i none)) (28 + 13 * n + 2) (fl (mR M (28 + 13 * n + 2)) i none)) := by
  intro k
  induction k with
  | zero =>
    intro i hi
    obtain rfl : i = 10 := by omega
    refine r_iload_n dX6_forgetLetters_2 rfl ?_
    refine r_bipush (nI 10) dX6_forgetLetters_3 (by decide) ?_
    refine r_icmp_ge 28 dX6_forgetLetters_5 (by decide) (fun _ => ?_) (fun hq => absurd (nI_le (Nat.le_refl 10) (by decide)) hq)
    exact r_vret rfl dX6_forgetLetters_28 ⟨rfl, rfl⟩
  | succ k ih =>
    intro i hi
    have hL := lay_wQ (lay_wQ hL (fl (mR M (28 + 13 * n + 1)) i none) (a := (28 + 13 * n + 1)) (fun _ => rf_n1 hn)) (fl (mR M (28 + 13 * n + 2)) i none) (a := (28 + 13 * n + 2)) (fun _ => rf_n2 hn)
    refine r_iload_n dX6_forgetLetters_2 rfl ?_
    refine r_bipush (nI 10) dX6_forgetLetters_3 (by decide) ?_
    refine r_icmp_ge 28 dX6_forgetLetters_5 (by decide) (fun hq => absurd hq (nI_ge (by omega) (by decide))) (fun _ => ?_)
    refine r_aload_n dX6_forgetLetters_8 rfl ?_
    refine r_getF kX6 (k := 0) (by decide) rfl fl_X6_11 (lay_ok hL (sh_n0 hn)) (lay_r hL (rf_n0_0 hn)) dX6_forgetLetters_9 ?_
    refine r_iload_n dX6_forgetLetters_12 rfl ?_
    refine r_null dX6_forgetLetters_13 ?_
    refine r_aastZ (Or.inl rfl) (lay_ok hL (sh_n1 hn)) (by omega) (by decide) dX6_forgetLetters_14 ?_
    refine r_lay (lay_wR hL _ (rf_n1 hn)) (fun hL => ?_)
    refine r_aload_n dX6_forgetLetters_15 rfl ?_
    refine r_getF kX6 (k := 1) (by decide) rfl fl_X6_17 (lay_ok hL (sh_n0 hn)) (lay_r hL (rf_n0_1 hn)) dX6_forgetLetters_16 ?_
    refine r_iload_n dX6_forgetLetters_19 rfl ?_
    refine r_null dX6_forgetLetters_20 ?_
    refine r_aastZ (Or.inl rfl) (lay_ok hL (sh_n2 hn)) (by omega) (by decide) dX6_forgetLetters_21 ?_
    refine r_lay (lay_wR hL _ (rf_n2 hn)) (fun hL => ?_)
    refine r_iinc (nI (i + 1)) _ dX6_forgetLetters_22 (by decide) rfl (nI_1 _) rfl ?_
    refine r_goto 2 dX6_forgetLetters_25 (by decide) ?_
    have q := ih (i + 1) (by omega)
    rw [← fl_s (mR M (28 + 13 * n + 1)) i none, ← fl_s (mR M (28 + 13 * n + 2)) i none, ← wR_wQ, ← wR_wQ2 M (show (28 + 13 * n + 1) ≠ (28 + 13 * n + 2) by omega)] at q
    exact q
set_option maxHeartbeats 4000000 in
set_option maxRecDepth 100000 in
theorem c_X6_forgetLetters {l : Launch} {X : Nat × (Nat → Int32)} {M : am_M} (hL : Lay M) {n : Nat} (hn : n < 5)  : am_F l yX6_forgetLetters cX6_forgetLetters 2 (none) 0 0 0 X [.ref (28 + 13 * n)] M (none) (wQ (wQ M (28 + 13 * n + 1) (fl (mR M (28 + 13 * n + 1)) 10 none)) (28 + 13 * n + 2) (fl (mR M (28 + 13 * n + 2)) 10 none)) := by
  refine am_C.of (by decide) (by simp [Value.category, va_rf]) (Nat.le_of_ble_eq_true rfl) ?_
  refine r_iconst (nI 0) dX6_forgetLetters_0 (by decide) ?_
  refine r_istore_n _ dX6_forgetLetters_1 (by decide) rfl ?_
  have q := l_X6_forgetLetters (l := l) (X := X) hL hn 10 0 (by omega)
  rw [fl_0, fl_0, wQ_id, show mR M (28 + 13 * n + 2) = mR M (28 + 13 * n + 2) from rfl, wQ_id] at q
  exact q
set_option maxHeartbeats 4000000 in
set_option maxRecDepth 100000 in
theorem c_X6_forgetMarks {l : Launch} {X : Nat × (Nat → Int32)} {M : am_M} (hL : Lay M) {n : Nat} (hn : n < 5) {p q : Nat} (h2 : mR M (28 + 13 * n) 2 = some p) (h3 : mR M (28 + 13 * n) 3 = some q) (hpo : am_ok M p 4 0) (hqo : am_ok M q 4 0)  : am_F l yX6_forgetMarks cX6_forgetMarks 1 (none) 0 0 0 X [.ref (28 + 13 * n)] M (none) (wI (wI M p 1 (-1)) q 1 (-1)) := by
  refine am_C.of (by decide) (by simp [Value.category, va_rf]) (Nat.le_of_ble_eq_true rfl) ?_
  refine r_aload_n dX6_forgetMarks_0 rfl ?_
  refine r_getF kX6 (k := 2) (by decide) rfl fl_X6_23 (lay_ok hL (sh_n0 hn)) h2 dX6_forgetMarks_1 ?_
  refine r_iconst (-1) dX6_forgetMarks_4 (by decide) ?_
  refine r_putI kX4 (k := 1) (by decide) rfl (Or.inl rfl) fl_X6_47 hpo ⟨rfl, rfl⟩ dX6_forgetMarks_5 ?_
  refine r_lay (lay_wI hL _ _ _) (fun hL => ?_)
  refine r_aload_n dX6_forgetMarks_8 rfl ?_
  refine r_getF kX6 (k := 3) (by decide) rfl fl_X6_27 (lay_ok hL (sh_n0 hn)) h3 dX6_forgetMarks_9 ?_
  refine r_iconst (-1) dX6_forgetMarks_12 (by decide) ?_
  refine r_putI kX4 (k := 1) (by decide) rfl (Or.inl rfl) fl_X6_47 hqo ⟨rfl, rfl⟩ dX6_forgetMarks_13 ?_
  refine r_lay (lay_wI hL _ _ _) (fun hL => ?_)
  exact r_vret rfl dX6_forgetMarks_16 ⟨rfl, rfl⟩
set_option maxHeartbeats 4000000 in
set_option maxRecDepth 100000 in
theorem c_X6_swapMarks {l : Launch} {X : Nat × (Nat → Int32)} {M : am_M} (hL : Lay M) {n : Nat} (hn : n < 5) {p q : Nat} (h2 : mR M (28 + 13 * n) 2 = some p) (h3 : mR M (28 + 13 * n) 3 = some q) (hpo : am_ok M p 4 0) (hqo : am_ok M q 4 0)  : am_F l yX6_swapMarks cX6_swapMarks 2 (none) 0 0 0 X [.ref (28 + 13 * n)] M (none) (wR (wR M (28 + 13 * n) 3 (some p)) (28 + 13 * n) 2 (some q)) := by
  refine am_C.of (by decide) (by simp [Value.category, va_rf]) (Nat.le_of_ble_eq_true rfl) ?_
  refine r_aload_n dX6_swapMarks_0 rfl ?_
  refine r_getF kX6 (k := 3) (by decide) rfl fl_X6_27 (lay_ok hL (sh_n0 hn)) h3 dX6_swapMarks_1 ?_
  refine r_astore_n _ dX6_swapMarks_4 (by decide) rfl ?_
  refine r_aload_n dX6_swapMarks_5 rfl ?_
  refine r_aload_n dX6_swapMarks_6 rfl ?_
  refine r_getF kX6 (k := 2) (by decide) rfl fl_X6_23 (lay_ok hL (sh_n0 hn)) h2 dX6_swapMarks_7 ?_
  refine r_putF kX6 (k := 3) (by decide) rfl (Or.inl rfl) fl_X6_27 (lay_ok hL (sh_n0 hn)) dX6_swapMarks_10 ?_
  refine r_lay (lay_wR hL _ (rf_n0_3 hn)) (fun hL => ?_)
  refine r_aload_n dX6_swapMarks_13 rfl ?_
  refine r_aload_n dX6_swapMarks_14 rfl ?_
  refine r_putF kX6 (k := 2) (by decide) rfl (Or.inl rfl) fl_X6_23 (lay_ok hL (sh_n0 hn)) dX6_swapMarks_15 ?_
  refine r_lay (lay_wR hL _ (rf_n0_2 hn)) (fun hL => ?_)
  exact r_vret rfl dX6_swapMarks_18 ⟨rfl, rfl⟩
set_option maxHeartbeats 4000000 in
set_option maxRecDepth 100000 in
theorem c_X6_nextMark {l : Launch} {X : Nat × (Nat → Int32)} {M : am_M} (hL : Lay M) {n : Nat} (hn : n < 5) {p q : Nat} (h2 : mR M (28 + 13 * n) 2 = some p) (h3 : mR M (28 + 13 * n) 3 = some q) (hpo : am_ok M p 4 0) (hqo : am_ok M q 4 0)  : am_F l yX6_nextMark cX6_nextMark 1 (some (.object "SplitNodes$Mark")) 1 0 0 X [.ref (28 + 13 * n)] M (some (.ref q)) (wI (wR (wR M (28 + 13 * n) 3 (some p)) (28 + 13 * n) 2 (some q)) q 1 (mI M (28 + 13 * n) 4)) := by
  refine am_C.of (by decide) (by simp [Value.category, va_rf]) (Nat.le_of_ble_eq_true rfl) ?_
  refine r_aload_n dX6_nextMark_0 rfl ?_
  refine r_cV ca_yX6_swapMarks ml_X6_66 im_yX6_swapMarks se_yX6_swapMarks (by decide) rfl (lay_ok hL (sh_n0 hn)) (c_X6_swapMarks hL hn h2 h3 hpo hqo) ⟨by decide, by decide⟩ (by decide) (by decide) rfl (Nat.le_of_ble_eq_true rfl) dX6_nextMark_1 ?_
  refine r_lay (lay_wR (lay_wR hL _ (rf_n0_3 hn)) _ (rf_n0_2 hn)) (fun hL => ?_)
  refine r_aload_n dX6_nextMark_4 rfl ?_
  refine r_getF (r := q) kX6 (k := 2) (by decide) rfl fl_X6_23 (lay_ok hL (sh_n0 hn)) (by simp [mR_wR]) dX6_nextMark_5 ?_
  refine r_aload_n dX6_nextMark_8 rfl ?_
  refine r_getE (mI M (28 + 13 * n) 4) kX6 (k := 4) (by decide) rfl fl_X6_36 (lay_ok hL (sh_n0 hn)) dX6_nextMark_9 rfl ?_
  refine r_putI kX4 (k := 1) (by decide) rfl (Or.inl rfl) fl_X6_47 hqo ⟨rfl, rfl⟩ dX6_nextMark_12 ?_
  refine r_lay (lay_wI hL _ _ _) (fun hL => ?_)
  refine r_aload_n dX6_nextMark_15 rfl ?_
  refine r_getF (r := q) kX6 (k := 2) (by decide) rfl fl_X6_23 (lay_ok hL (sh_n0 hn)) (by simp [mR_wI, mR_wR]) dX6_nextMark_16 ?_
  exact r_aret (r := some q) (Or.inl ⟨_, rfl⟩) dX6_nextMark_19 ⟨rfl, rfl⟩
set_option maxHeartbeats 4000000 in
set_option maxRecDepth 100000 in
theorem c_X6_fail {l : Launch} {X : Nat × (Nat → Int32)} {M : am_M} (hL : Lay M) {n : Nat} (hn : n < 5)  : am_F l yX6_fail cX6_fail 1 (none) 1 0 0 X [.ref (28 + 13 * n)] M (none) (wI (wI (wQ (wQ (M) (28 + 13 * n + 1) (fl (mR (M) (28 + 13 * n + 1)) 10 none)) (28 + 13 * n + 2) (fl (mR (M) (28 + 13 * n + 2)) 10 none)) (28 + 13 * n) 5 0) (28 + 13 * n) 6 1) := by
  refine am_C.of (by decide) (by simp [Value.category, va_rf]) (Nat.le_of_ble_eq_true rfl) ?_
  refine r_aload_n dX6_fail_0 rfl ?_
  refine r_cV ca_yX6_forgetLetters ml_X6_30 im_yX6_forgetLetters se_yX6_forgetLetters (by decide) rfl (lay_ok hL (sh_n0 hn)) (c_X6_forgetLetters hL hn) ⟨by decide, by decide⟩ (by decide) (by decide) rfl (Nat.le_of_ble_eq_true rfl) dX6_fail_1 ?_
  refine r_lay (lay_wQ (lay_wQ hL _ (fun _ => rf_n1 hn)) _ (fun _ => rf_n2 hn)) (fun hL => ?_)
  refine r_aload_n dX6_fail_4 rfl ?_
  refine r_iconst (0) dX6_fail_5 (by decide) ?_
  refine r_putI kX6 (k := 5) (by decide) rfl (Or.inl rfl) fl_X6_40 (lay_ok hL (sh_n0 hn)) (by decide) dX6_fail_6 ?_
  refine r_lay (lay_wI hL _ _ _) (fun hL => ?_)
  refine r_aload_n dX6_fail_9 rfl ?_
  refine r_iconst (1) dX6_fail_10 (by decide) ?_
  refine r_putI kX6 (k := 6) (by decide) rfl (Or.inl rfl) fl_X6_44 (lay_ok hL (sh_n0 hn)) (by decide) dX6_fail_11 ?_
  refine r_lay (lay_wI hL _ _ _) (fun hL => ?_)
  exact r_vret rfl dX6_fail_14 ⟨rfl, rfl⟩
set_option maxHeartbeats 4000000 in
set_option maxRecDepth 100000 in
theorem c_X6_clear {l : Launch} {X : Nat × (Nat → Int32)} {M : am_M} (hL : Lay M) {n : Nat} (hn : n < 5) {p q : Nat} (h2 : mR M (28 + 13 * n) 2 = some p) (h3 : mR M (28 + 13 * n) 3 = some q) (hpo : am_ok M p 4 0) (hqo : am_ok M q 4 0)  : am_F l yX6_clear cX6_clear 1 (none) 1 0 0 X [.ref (28 + 13 * n)] M (none) (wI (wI (wI (wI (wI (wQ (wQ (M) (28 + 13 * n + 1) (fl (mR (M) (28 + 13 * n + 1)) 10 none)) (28 + 13 * n + 2) (fl (mR (M) (28 + 13 * n + 2)) 10 none)) p 1 (-1)) q 1 (-1)) (28 + 13 * n) 4 0) (28 + 13 * n) 5 0) (28 + 13 * n) 6 0) := by
  refine am_C.of (by decide) (by simp [Value.category, va_rf]) (Nat.le_of_ble_eq_true rfl) ?_
  refine r_aload_n dX6_clear_0 rfl ?_
  refine r_cV ca_yX6_forgetLetters ml_X6_30 im_yX6_forgetLetters se_yX6_forgetLetters (by decide) rfl (lay_ok hL (sh_n0 hn)) (c_X6_forgetLetters hL hn) ⟨by decide, by decide⟩ (by decide) (by decide) rfl (Nat.le_of_ble_eq_true rfl) dX6_clear_1 ?_
  refine r_lay (lay_wQ (lay_wQ hL _ (fun _ => rf_n1 hn)) _ (fun _ => rf_n2 hn)) (fun hL => ?_)
  refine r_aload_n dX6_clear_4 rfl ?_
  refine r_cV ca_yX6_forgetMarks ml_X6_33 im_yX6_forgetMarks se_yX6_forgetMarks (by decide) rfl (lay_ok hL (sh_n0 hn)) (c_X6_forgetMarks hL hn (p := p) (q := q) (by simp [mR_wQ, h2]) (by simp [mR_wQ, h3]) hpo hqo) ⟨by decide, by decide⟩ (by decide) (by decide) rfl (Nat.le_of_ble_eq_true rfl) dX6_clear_5 ?_
  refine r_lay (lay_wI (lay_wI hL _ _ _) _ _ _) (fun hL => ?_)
  refine r_aload_n dX6_clear_8 rfl ?_
  refine r_iconst (0) dX6_clear_9 (by decide) ?_
  refine r_putI kX6 (k := 4) (by decide) rfl (Or.inl rfl) fl_X6_36 (lay_ok hL (sh_n0 hn)) ⟨rfl, rfl⟩ dX6_clear_10 ?_
  refine r_lay (lay_wI hL _ _ _) (fun hL => ?_)
  refine r_aload_n dX6_clear_13 rfl ?_
  refine r_iconst (0) dX6_clear_14 (by decide) ?_
  refine r_putI kX6 (k := 5) (by decide) rfl (Or.inl rfl) fl_X6_40 (lay_ok hL (sh_n0 hn)) (by decide) dX6_clear_15 ?_
  refine r_lay (lay_wI hL _ _ _) (fun hL => ?_)
  refine r_aload_n dX6_clear_18 rfl ?_
  refine r_iconst (0) dX6_clear_19 (by decide) ?_
  refine r_putI kX6 (k := 6) (by decide) rfl (Or.inl rfl) fl_X6_44 (lay_ok hL (sh_n0 hn)) (by decide) dX6_clear_20 ?_
  refine r_lay (lay_wI hL _ _ _) (fun hL => ?_)
  exact r_vret rfl dX6_clear_23 ⟨rfl, rfl⟩
set_option maxHeartbeats 4000000 in
set_option maxRecDepth 100000 in
theorem c_X6_hold {l : Launch} {X : Nat × (Nat → Int32)} {M : am_M} (hL : Lay M) {n : Nat} (hn : n < 5) {a n0 p q : Nat} (hla : am_ok M a 3 n0) (hr : mI M a 1 &&& 1 = nI p) (hp : p ≤ 1) (ho : mI M a 2 = nI q) (hq : q < 5) : am_F l yX6_hold cX6_hold 2 (none) 1 0 0 X [.ref (28 + 13 * n), .ref a] M (none) (wR M (28 + 13 * n + 1) (p * 5 + q) (some a)) := by
  refine am_C.of (by decide) (by simp [Value.category, va_rf]) (Nat.le_of_ble_eq_true rfl) ?_
  refine r_aload_n dX6_hold_0 rfl ?_
  refine r_getF kX6 (k := 0) (by decide) rfl fl_X6_11 (lay_ok hL (sh_n0 hn)) (lay_r hL (rf_n0_0 hn)) dX6_hold_1 ?_
  refine r_aload_n dX6_hold_4 rfl ?_
  refine r_getI kX3 (k := 1) (by decide) rfl fl_X6_52 hla dX6_hold_5 ?_
  refine r_aload_n dX6_hold_8 rfl ?_
  refine r_getE (nI q) kX3 (k := 2) (by decide) rfl fl_X6_53 hla dX6_hold_9 ho ?_
  refine r_cS ca_yX6_slot ml_X6_48 sm_yX6_slot (c_X6_slot hL (p := p) (q := q) hr) ⟨by decide, by decide⟩ (by decide) (by decide) rfl (Nat.le_of_ble_eq_true rfl) dX6_hold_12 ?_
  refine r_aload_n dX6_hold_15 rfl ?_
  refine r_aastO (Or.inl ⟨rfl, rfl⟩) (lay_ok hL (sh_n1 hn)) (by omega) (by decide) hla dX6_hold_16 ?_
  refine r_lay (lay_wR hL _ (rf_n1 hn)) (fun hL => ?_)
  exact r_vret rfl dX6_hold_17 ⟨rfl, rfl⟩
set_option maxHeartbeats 4000000 in
set_option maxRecDepth 100000 in
theorem c_X6_keep {l : Launch} {X : Nat × (Nat → Int32)} {M : am_M} (hL : Lay M) {n : Nat} (hn : n < 5) {a n0 p q : Nat} (hla : am_ok M a 3 n0) (hr : mI M a 1 &&& 1 = nI p) (hp : p ≤ 1) (ho : mI M a 3 = nI q) (hq : q < 5) : am_F l yX6_keep cX6_keep 2 (none) 1 0 0 X [.ref (28 + 13 * n), .ref a] M (none) (wR M (28 + 13 * n + 2) (p * 5 + q) (some a)) := by
  refine am_C.of (by decide) (by simp [Value.category, va_rf]) (Nat.le_of_ble_eq_true rfl) ?_
  refine r_aload_n dX6_keep_0 rfl ?_
  refine r_getF kX6 (k := 1) (by decide) rfl fl_X6_17 (lay_ok hL (sh_n0 hn)) (lay_r hL (rf_n0_1 hn)) dX6_keep_1 ?_
  refine r_aload_n dX6_keep_4 rfl ?_
  refine r_getI kX3 (k := 1) (by decide) rfl fl_X6_52 hla dX6_keep_5 ?_
  refine r_aload_n dX6_keep_8 rfl ?_
  refine r_getE (nI q) kX3 (k := 3) (by decide) rfl fl_X6_63 hla dX6_keep_9 ho ?_
  refine r_cS ca_yX6_slot ml_X6_48 sm_yX6_slot (c_X6_slot hL (p := p) (q := q) hr) ⟨by decide, by decide⟩ (by decide) (by decide) rfl (Nat.le_of_ble_eq_true rfl) dX6_keep_12 ?_
  refine r_aload_n dX6_keep_15 rfl ?_
  refine r_aastO (Or.inl ⟨rfl, rfl⟩) (lay_ok hL (sh_n2 hn)) (by omega) (by decide) hla dX6_keep_16 ?_
  refine r_lay (lay_wR hL _ (rf_n2 hn)) (fun hL => ?_)
  exact r_vret rfl dX6_keep_17 ⟨rfl, rfl⟩
set_option maxHeartbeats 4000000 in
set_option maxRecDepth 100000 in
theorem c_X6_holds {l : Launch} {X : Nat × (Nat → Int32)} {M : am_M} (hL : Lay M) {n : Nat} (hn : n < 5) {a n0 p q : Nat} (hla : am_ok M a 3 n0) (hr : mI M a 1 &&& 1 = nI p) (hp : p ≤ 1) (ho : mI M a 2 = nI q) (hq : q < 5) : am_F l yX6_holds cX6_holds 2 (some .boolean) 1 0 0 X [.ref (28 + 13 * n), .ref a] M (some (.int (if (mR M (28 + 13 * n + 1) (p * 5 + q)).isSome = true then 1 else 0))) (M) := by
  refine am_C.of (by decide) (by simp [Value.category, va_rf]) (Nat.le_of_ble_eq_true rfl) ?_
  refine r_aload_n dX6_holds_0 rfl ?_
  refine r_getF kX6 (k := 0) (by decide) rfl fl_X6_11 (lay_ok hL (sh_n0 hn)) (lay_r hL (rf_n0_0 hn)) dX6_holds_1 ?_
  refine r_aload_n dX6_holds_4 rfl ?_
  refine r_getI kX3 (k := 1) (by decide) rfl fl_X6_52 hla dX6_holds_5 ?_
  refine r_aload_n dX6_holds_8 rfl ?_
  refine r_getE (nI q) kX3 (k := 2) (by decide) rfl fl_X6_53 hla dX6_holds_9 ho ?_
  refine r_cS ca_yX6_slot ml_X6_48 sm_yX6_slot (c_X6_slot hL (p := p) (q := q) hr) ⟨by decide, by decide⟩ (by decide) (by decide) rfl (Nat.le_of_ble_eq_true rfl) dX6_holds_12 ?_
  refine r_aaldN (Or.inl rfl) (lay_ok hL (sh_n1 hn)) (by omega) (by decide) dX6_holds_15 ?_
  refine r_ifnull 23 dX6_holds_16 (by decide) (fun c16 => ?_) (fun v16 c16 => ?_)
  · refine r_iconst (0) dX6_holds_23 (by decide) ?_
    exact r_iret (Or.inr ⟨rfl, by first | exact Or.inl rfl | exact Or.inr rfl⟩) dX6_holds_24 ⟨by simp [*], rfl⟩
  · refine r_iconst (1) dX6_holds_19 (by decide) ?_
    refine r_goto 24 dX6_holds_20 (by decide) ?_
    exact r_iret (Or.inr ⟨rfl, by first | exact Or.inl rfl | exact Or.inr rfl⟩) dX6_holds_24 ⟨by simp [*], rfl⟩
set_option maxHeartbeats 4000000 in
set_option maxRecDepth 100000 in
theorem c_X6_heldFrom {l : Launch} {X : Nat × (Nat → Int32)} {M : am_M} (hL : Lay M) {n : Nat} (hn : n < 5) {p q : Nat} (hr : mI M (28 + 13 * n) 4 &&& 1 = nI p) (hp : p ≤ 1) (hq : q < 5)  : am_F l yX6_heldFrom cX6_heldFrom 2 (some (.object "SplitNodes$Letter")) 1 0 0 X [.ref (28 + 13 * n), .int (nI q)] M (some (va_rf (mR M (28 + 13 * n + 1) (p * 5 + q)))) (M) := by
  refine am_C.of (by decide) (by simp [Value.category, va_rf]) (Nat.le_of_ble_eq_true rfl) ?_
  refine r_aload_n dX6_heldFrom_0 rfl ?_
  refine r_getF kX6 (k := 0) (by decide) rfl fl_X6_11 (lay_ok hL (sh_n0 hn)) (lay_r hL (rf_n0_0 hn)) dX6_heldFrom_1 ?_
  refine r_aload_n dX6_heldFrom_4 rfl ?_
  refine r_getI kX6 (k := 4) (by decide) rfl fl_X6_36 (lay_ok hL (sh_n0 hn)) dX6_heldFrom_5 ?_
  refine r_iload_n dX6_heldFrom_8 rfl ?_
  refine r_cS ca_yX6_slot ml_X6_48 sm_yX6_slot (c_X6_slot hL (p := p) (q := q) hr) ⟨by decide, by decide⟩ (by decide) (by decide) rfl (Nat.le_of_ble_eq_true rfl) dX6_heldFrom_9 ?_
  refine r_aaldN (Or.inl rfl) (lay_ok hL (sh_n1 hn)) (by omega) (by decide) dX6_heldFrom_12 ?_
  exact r_aret (Or.inl ⟨_, rfl⟩) dX6_heldFrom_13 ⟨rfl, rfl⟩
set_option maxHeartbeats 4000000 in
set_option maxRecDepth 100000 in
theorem c_X6_keptFor {l : Launch} {X : Nat × (Nat → Int32)} {M : am_M} (hL : Lay M) {n : Nat} (hn : n < 5) {p q : Nat} {r : Int32} (hr : r &&& 1 = nI p) (hp : p ≤ 1) (hq : q < 5)  : am_F l yX6_keptFor cX6_keptFor 3 (some (.object "SplitNodes$Letter")) 1 0 0 X [.ref (28 + 13 * n), .int (nI q), .int r] M (some (va_rf (mR M (28 + 13 * n + 2) (p * 5 + q)))) (M) := by
  refine am_C.of (by decide) (by simp [Value.category, va_rf]) (Nat.le_of_ble_eq_true rfl) ?_
  refine r_aload_n dX6_keptFor_0 rfl ?_
  refine r_getF kX6 (k := 1) (by decide) rfl fl_X6_17 (lay_ok hL (sh_n0 hn)) (lay_r hL (rf_n0_1 hn)) dX6_keptFor_1 ?_
  refine r_iload_n dX6_keptFor_4 rfl ?_
  refine r_iload_n dX6_keptFor_5 rfl ?_
  refine r_cS ca_yX6_slot ml_X6_48 sm_yX6_slot (c_X6_slot hL (p := p) (q := q) hr) ⟨by decide, by decide⟩ (by decide) (by decide) rfl (Nat.le_of_ble_eq_true rfl) dX6_keptFor_6 ?_
  refine r_aaldN (Or.inl rfl) (lay_ok hL (sh_n2 hn)) (by omega) (by decide) dX6_keptFor_9 ?_
  exact r_aret (Or.inl ⟨_, rfl⟩) dX6_keptFor_10 ⟨rfl, rfl⟩
set_option maxHeartbeats 4000000 in
set_option maxRecDepth 100000 in
theorem c_X6_goBack {l : Launch} {X : Nat × (Nat → Int32)} {M : am_M} (hL : Lay M) {n : Nat} (hn : n < 5) {p q : Nat} (h2 : mR M (28 + 13 * n) 2 = some p) (h3 : mR M (28 + 13 * n) 3 = some q) (hpo : am_ok M p 4 0) (hqo : am_ok M q 4 0) {x : Int32}  : am_F l yX6_goBack cX6_goBack 2 (none) 1 0 0 X [.ref (28 + 13 * n), .int x] M (none) (if mI M p 1 = x then wI (wI (wI (wQ (wQ (M) (28 + 13 * n + 1) (fl (mR (M) (28 + 13 * n + 1)) 10 none)) (28 + 13 * n + 2) (fl (mR (M) (28 + 13 * n + 2)) 10 none)) (28 + 13 * n) 4 x) (28 + 13 * n) 5 0) (28 + 13 * n) 6 0 else wI (wI (wI (wQ (wQ (wI (wR (wR M (28 + 13 * n) 3 (some p)) (28 + 13 * n) 2 (some q)) p 1 (-1)) (28 + 13 * n + 1) (fl (mR (wI (wR (wR M (28 + 13 * n) 3 (some p)) (28 + 13 * n) 2 (some q)) p 1 (-1)) (28 + 13 * n + 1)) 10 none)) (28 + 13 * n + 2) (fl (mR (wI (wR (wR M (28 + 13 * n) 3 (some p)) (28 + 13 * n) 2 (some q)) p 1 (-1)) (28 + 13 * n + 2)) 10 none)) (28 + 13 * n) 4 x) (28 + 13 * n) 5 0) (28 + 13 * n) 6 0) := by
  refine am_C.of (by decide) (by simp [Value.category, va_rf]) (Nat.le_of_ble_eq_true rfl) ?_
  refine r_aload_n dX6_goBack_0 rfl ?_
  refine r_getF kX6 (k := 2) (by decide) rfl fl_X6_23 (lay_ok hL (sh_n0 hn)) h2 dX6_goBack_1 ?_
  refine r_getI kX4 (k := 1) (by decide) rfl fl_X6_47 hpo dX6_goBack_4 ?_
  refine r_iload_n dX6_goBack_7 rfl ?_
  refine r_icmp_eq 23 dX6_goBack_8 (by decide) (fun c8 => ?_) (fun c8 => ?_)
  · refine r_aload_n dX6_goBack_23 rfl ?_
    refine r_cV ca_yX6_forgetLetters ml_X6_30 im_yX6_forgetLetters se_yX6_forgetLetters (by decide) rfl (lay_ok hL (sh_n0 hn)) (c_X6_forgetLetters hL hn) ⟨by decide, by decide⟩ (by decide) (by decide) rfl (Nat.le_of_ble_eq_true rfl) dX6_goBack_24 ?_
    refine r_lay (lay_wQ (lay_wQ hL _ (fun _ => rf_n1 hn)) _ (fun _ => rf_n2 hn)) (fun hL => ?_)
    refine r_aload_n dX6_goBack_27 rfl ?_
    refine r_iload_n dX6_goBack_28 rfl ?_
    refine r_putI kX6 (k := 4) (by decide) rfl (Or.inl rfl) fl_X6_36 (lay_ok hL (sh_n0 hn)) ⟨rfl, rfl⟩ dX6_goBack_29 ?_
    refine r_lay (lay_wI hL _ _ _) (fun hL => ?_)
    refine r_aload_n dX6_goBack_32 rfl ?_
    refine r_iconst (0) dX6_goBack_33 (by decide) ?_
    refine r_putI kX6 (k := 5) (by decide) rfl (Or.inl rfl) fl_X6_40 (lay_ok hL (sh_n0 hn)) (by decide) dX6_goBack_34 ?_
    refine r_lay (lay_wI hL _ _ _) (fun hL => ?_)
    refine r_aload_n dX6_goBack_37 rfl ?_
    refine r_iconst (0) dX6_goBack_38 (by decide) ?_
    refine r_putI kX6 (k := 6) (by decide) rfl (Or.inl rfl) fl_X6_44 (lay_ok hL (sh_n0 hn)) (by decide) dX6_goBack_39 ?_
    refine r_lay (lay_wI hL _ _ _) (fun hL => ?_)
    exact r_vret rfl dX6_goBack_42 ⟨rfl, by simp only [c8, if_true, if_false]⟩
  · refine r_aload_n dX6_goBack_11 rfl ?_
    refine r_cV ca_yX6_swapMarks ml_X6_66 im_yX6_swapMarks se_yX6_swapMarks (by decide) rfl (lay_ok hL (sh_n0 hn)) (c_X6_swapMarks hL hn h2 h3 hpo hqo) ⟨by decide, by decide⟩ (by decide) (by decide) rfl (Nat.le_of_ble_eq_true rfl) dX6_goBack_12 ?_
    refine r_lay (lay_wR (lay_wR hL _ (rf_n0_3 hn)) _ (rf_n0_2 hn)) (fun hL => ?_)
    refine r_aload_n dX6_goBack_15 rfl ?_
    refine r_getF (r := p) kX6 (k := 3) (by decide) rfl fl_X6_27 (lay_ok hL (sh_n0 hn)) (by simp [mR_wR]) dX6_goBack_16 ?_
    refine r_iconst (-1) dX6_goBack_19 (by decide) ?_
    refine r_putI kX4 (k := 1) (by decide) rfl (Or.inl rfl) fl_X6_47 hpo ⟨rfl, rfl⟩ dX6_goBack_20 ?_
    refine r_lay (lay_wI hL _ _ _) (fun hL => ?_)
    refine r_aload_n dX6_goBack_23 rfl ?_
    refine r_cV ca_yX6_forgetLetters ml_X6_30 im_yX6_forgetLetters se_yX6_forgetLetters (by decide) rfl (lay_ok hL (sh_n0 hn)) (c_X6_forgetLetters hL hn) ⟨by decide, by decide⟩ (by decide) (by decide) rfl (Nat.le_of_ble_eq_true rfl) dX6_goBack_24 ?_
    refine r_lay (lay_wQ (lay_wQ hL _ (fun _ => rf_n1 hn)) _ (fun _ => rf_n2 hn)) (fun hL => ?_)
    refine r_aload_n dX6_goBack_27 rfl ?_
    refine r_iload_n dX6_goBack_28 rfl ?_
    refine r_putI kX6 (k := 4) (by decide) rfl (Or.inl rfl) fl_X6_36 (lay_ok hL (sh_n0 hn)) ⟨rfl, rfl⟩ dX6_goBack_29 ?_
    refine r_lay (lay_wI hL _ _ _) (fun hL => ?_)
    refine r_aload_n dX6_goBack_32 rfl ?_
    refine r_iconst (0) dX6_goBack_33 (by decide) ?_
    refine r_putI kX6 (k := 5) (by decide) rfl (Or.inl rfl) fl_X6_40 (lay_ok hL (sh_n0 hn)) (by decide) dX6_goBack_34 ?_
    refine r_lay (lay_wI hL _ _ _) (fun hL => ?_)
    refine r_aload_n dX6_goBack_37 rfl ?_
    refine r_iconst (0) dX6_goBack_38 (by decide) ?_
    refine r_putI kX6 (k := 6) (by decide) rfl (Or.inl rfl) fl_X6_44 (lay_ok hL (sh_n0 hn)) (by decide) dX6_goBack_39 ?_
    refine r_lay (lay_wI hL _ _ _) (fun hL => ?_)
    exact r_vret rfl dX6_goBack_42 ⟨rfl, by simp only [c8, if_true, if_false]⟩
