/-! THE REFERENCE'S CALLS -/
set_option maxHeartbeats 4000000 in
set_option maxRecDepth 100000 in
theorem l3_X9_wipe {l : Launch} {X : Nat × (Nat → Int32)} {M : am_M} {n : Nat} (hz : yZ M) : ∀ (k i : Nat) (N : am_M), i + k = 160 → Lay N → mI N 93 0 = nI n → (∀ f, (1 ≤ f ∧ f ≤ 6) ∨ f = 18 ∨ f = 33 ∨ f = 34 → mI N 93 f = 0) → (∀ k, k < 4 → mI N 119 k = 0) → (∀ m, m < 5 → mI N 102 m = 0 ∧ mI N 103 m = 0 ∧ mI N 104 m = 0 ∧ mI N 115 (2 * m) = -1 ∧ mI N 115 (2 * m + 1) = -1) → (∀ s, s < i → mI N 105 s = 0) → mI N 118 = mI M 118 → mI N 111 = mI M 111 → am_fr rS M N → am_V l yX9_wipe cX9_wipe 3 (none) (am_R 0 0 0) 0 0 X (fun v M' => v = none ∧ absM M' (g_new n) ∧ Lay M' ∧ am_fr rS M M') 0 0 126 [some (.ref 93), some (.int (nI n)), some (.int (nI i))] [] N := by
  intro k
  induction k with
  | zero =>
    intro i N hi hL h0 h1 h2 h3 h4 h5 h6 hf
    obtain rfl : i = 160 := by omega
    refine r_iload_n dX9_wipe_126 rfl ?_
    refine r_sipush (nI 160) dX9_wipe_127 (by decide) ?_
    refine r_icmp_ge 146 dX9_wipe_130 (by decide) (fun _ => ?_) (fun hq => absurd (nI_le (Nat.le_refl 160) (by decide)) hq)
    exact r_vret rfl dX9_wipe_146 ⟨rfl, absM_new h0 h1 h2 h3 h4 (by rw [h5]; exact hz.2.1) (by rw [h6]; exact hz.2.2), hL, hf⟩
  | succ k ih =>
    intro i N hi hL h0 h1 h2 h3 h4 h5 h6 hf
    refine r_iload_n dX9_wipe_126 rfl ?_
    refine r_sipush (nI 160) dX9_wipe_127 (by decide) ?_
    refine r_icmp_ge 146 dX9_wipe_130 (by decide) (fun hq => absurd hq (nI_ge (by omega) (by decide))) (fun _ => ?_)
    refine r_aload_n dX9_wipe_133 rfl ?_
    refine r_getF kX9 (k := 19) (by decide) rfl fl_X9_48 (lay_ok hL rfl) (lay_r hL rfl) dX9_wipe_134 ?_
    refine r_iload_n dX9_wipe_137 rfl ?_
    refine r_iconst (0) dX9_wipe_138 (by decide) ?_
    refine r_zastN (lay_ok hL rfl) (by omega) (by decide) (by decide) dX9_wipe_139 ?_
    refine r_lay (lay_wI hL _ _ _) (fun hL => ?_)
    refine r_iinc (nI (i + 1)) _ dX9_wipe_140 (by decide) rfl (nI_1 _) rfl ?_
    refine r_goto 126 dX9_wipe_143 (by decide) ?_
    exact ih (i + 1) _ (by omega) hL (by rw [mI_wI_n _ _ _ (by decide)]; exact h0) (fun f h => by rw [mI_wI_n _ _ _ (by decide)]; exact h1 f h) (fun k h => by rw [mI_wI_n _ _ _ (by decide)]; exact h2 k h) (fun m h => by rw [mI_wI_n _ _ _ (by decide), mI_wI_n _ _ _ (by decide), mI_wI_n _ _ _ (by decide), mI_wI_n _ _ _ (by decide)]; exact h3 m h) (fun s hs => by rw [mI_wI]; split; rfl; exact h4 s (by omega)) (by rw [mI_wI_n _ _ _ (by decide)]; exact h5) (by rw [mI_wI_n _ _ _ (by decide)]; exact h6) (hf.tr (am_fr.wI _ _ ⟨by decide, by decide⟩))
set_option maxHeartbeats 4000000 in
set_option maxRecDepth 100000 in
theorem l2_X9_wipe {l : Launch} {X : Nat × (Nat → Int32)} {M : am_M} {n : Nat} (hz : yZ M) : ∀ (k i : Nat) (N : am_M), i + k = 5 → Lay N → mI N 93 0 = nI n → (∀ f, (1 ≤ f ∧ f ≤ 6) ∨ f = 18 ∨ f = 33 ∨ f = 34 → mI N 93 f = 0) → (∀ k, k < 4 → mI N 119 k = 0) → (∀ m, m < i → mI N 102 m = 0 ∧ mI N 103 m = 0 ∧ mI N 104 m = 0 ∧ mI N 115 (2 * m) = -1 ∧ mI N 115 (2 * m + 1) = -1) → mI N 118 = mI M 118 → mI N 111 = mI M 111 → am_fr rS M N → am_V l yX9_wipe cX9_wipe 3 (none) (am_R 0 0 0) 0 0 X (fun v M' => v = none ∧ absM M' (g_new n) ∧ Lay M' ∧ am_fr rS M M') 0 0 72 [some (.ref 93), some (.int (nI n)), some (.int (nI i))] [] N := by
  intro k
  induction k with
  | zero =>
    intro i N hi hL h0 h1 h2 h3 h5 h6 hf
    obtain rfl : i = 5 := by omega
    refine r_iload_n dX9_wipe_72 rfl ?_
    refine r_iconst (nI 5) dX9_wipe_73 (by decide) ?_
    refine r_icmp_ge 124 dX9_wipe_74 (by decide) (fun _ => ?_) (fun hq => absurd (nI_le (Nat.le_refl 5) (by decide)) hq)
    refine r_iconst (nI 0) dX9_wipe_124 (by decide) ?_
    refine r_istore_n _ dX9_wipe_125 (by decide) rfl ?_
    exact l3_X9_wipe hz 160 0 N (by omega) hL h0 h1 h2 h3 (fun s hs => absurd hs (by omega)) h5 h6 hf
  | succ k ih =>
    intro i N hi hL h0 h1 h2 h3 h5 h6 hf
    refine r_iload_n dX9_wipe_72 rfl ?_
    refine r_iconst (nI 5) dX9_wipe_73 (by decide) ?_
    refine r_icmp_ge 124 dX9_wipe_74 (by decide) (fun hq => absurd hq (nI_ge (by omega) (by decide))) (fun _ => ?_)
    refine r_aload_n dX9_wipe_77 rfl ?_
    refine r_getF kX9 (k := 15) (by decide) rfl fl_X9_39 (lay_ok hL rfl) (lay_r hL rfl) dX9_wipe_78 ?_
    refine r_iload_n dX9_wipe_81 rfl ?_
    refine r_iconst (0) dX9_wipe_82 (by decide) ?_
    refine r_iastN (lay_ok hL rfl) (by omega) (by decide) dX9_wipe_83 ?_
    refine r_lay (lay_wI hL _ _ _) (fun hL => ?_)
    refine r_aload_n dX9_wipe_84 rfl ?_
    refine r_getF kX9 (k := 16) (by decide) rfl fl_X9_42 (lay_ok hL rfl) (lay_r hL rfl) dX9_wipe_85 ?_
    refine r_iload_n dX9_wipe_88 rfl ?_
    refine r_iconst (0) dX9_wipe_89 (by decide) ?_
    refine r_zastN (lay_ok hL rfl) (by omega) (by decide) (by decide) dX9_wipe_90 ?_
    refine r_lay (lay_wI hL _ _ _) (fun hL => ?_)
    refine r_aload_n dX9_wipe_91 rfl ?_
    refine r_getF kX9 (k := 17) (by decide) rfl fl_X9_45 (lay_ok hL rfl) (lay_r hL rfl) dX9_wipe_92 ?_
    refine r_iload_n dX9_wipe_95 rfl ?_
    refine r_iconst (0) dX9_wipe_96 (by decide) ?_
    refine r_zastN (lay_ok hL rfl) (by omega) (by decide) (by decide) dX9_wipe_97 ?_
    refine r_lay (lay_wI hL _ _ _) (fun hL => ?_)
    refine r_aload_n dX9_wipe_98 rfl ?_
    refine r_getF kX9 (k := 29) (by decide) rfl fl_X9_78 (lay_ok hL rfl) (lay_r hL rfl) dX9_wipe_99 ?_
    refine r_iconst (nI 2) dX9_wipe_102 (by decide) ?_
    refine r_iload_n dX9_wipe_103 rfl ?_
    refine r_imul dX9_wipe_104 ?_
    refine r_top (nI (2 * i)) (nI_mul _ _) ?_
    refine r_iconst (-1) dX9_wipe_105 (by decide) ?_
    refine r_iastN (lay_ok hL rfl) (by omega) (by decide) dX9_wipe_106 ?_
    refine r_lay (lay_wI hL _ _ _) (fun hL => ?_)
    refine r_aload_n dX9_wipe_107 rfl ?_
    refine r_getF kX9 (k := 29) (by decide) rfl fl_X9_78 (lay_ok hL rfl) (lay_r hL rfl) dX9_wipe_108 ?_
    refine r_iconst (nI 2) dX9_wipe_111 (by decide) ?_
    refine r_iload_n dX9_wipe_112 rfl ?_
    refine r_imul dX9_wipe_113 ?_
    refine r_top (nI (2 * i)) (nI_mul _ _) ?_
    refine r_iconst (nI 1) dX9_wipe_114 (by decide) ?_
    refine r_iadd dX9_wipe_115 ?_
    refine r_top (nI ((2 * i) + 1)) (nI_add _ _) ?_
    refine r_iconst (-1) dX9_wipe_116 (by decide) ?_
    refine r_iastN (lay_ok hL rfl) (by omega) (by decide) dX9_wipe_117 ?_
    refine r_lay (lay_wI hL _ _ _) (fun hL => ?_)
    refine r_iinc (nI (i + 1)) _ dX9_wipe_118 (by decide) rfl (nI_1 _) rfl ?_
    refine r_goto 72 dX9_wipe_121 (by decide) ?_
    exact ih (i + 1) _ (by omega) hL (by rw [mI_wI_n _ _ _ (by decide), mI_wI_n _ _ _ (by decide), mI_wI_n _ _ _ (by decide), mI_wI_n _ _ _ (by decide), mI_wI_n _ _ _ (by decide)]; exact h0) (fun f h => by rw [mI_wI_n _ _ _ (by decide), mI_wI_n _ _ _ (by decide), mI_wI_n _ _ _ (by decide), mI_wI_n _ _ _ (by decide), mI_wI_n _ _ _ (by decide)]; exact h1 f h) (fun k h => by rw [mI_wI_n _ _ _ (by decide), mI_wI_n _ _ _ (by decide), mI_wI_n _ _ _ (by decide), mI_wI_n _ _ _ (by decide), mI_wI_n _ _ _ (by decide)]; exact h2 k h) (fun m h => by by_cases c : m = i; subst c; simp [mI_wI]; obtain ⟨z1, z2, z3, z4, z5⟩ := h3 m (by omega); have e1 : ¬ 2 * m = 2 * i := (by omega); have e2 : ¬ 2 * m = 2 * i + 1 := (by omega); have e3 : ¬ 2 * m + 1 = 2 * i := (by omega); have e4 : ¬ 2 * m + 1 = 2 * i + 1 := (by omega); simp only [mI_wI, c, e1, e2, e3, e4, and_false, if_false]; exact ⟨z1, z2, z3, z4, z5⟩) (by rw [mI_wI_n _ _ _ (by decide), mI_wI_n _ _ _ (by decide), mI_wI_n _ _ _ (by decide), mI_wI_n _ _ _ (by decide), mI_wI_n _ _ _ (by decide)]; exact h5) (by rw [mI_wI_n _ _ _ (by decide), mI_wI_n _ _ _ (by decide), mI_wI_n _ _ _ (by decide), mI_wI_n _ _ _ (by decide), mI_wI_n _ _ _ (by decide)]; exact h6) (hf.tr ((((((am_fr.wI _ _ ⟨by decide, by decide⟩).tr (am_fr.wI _ _ ⟨by decide, by decide⟩)).tr (am_fr.wI _ _ ⟨by decide, by decide⟩)).tr (am_fr.wI _ _ ⟨by decide, by decide⟩)).tr (am_fr.wI _ _ ⟨by decide, by decide⟩))))
set_option maxHeartbeats 4000000 in
set_option maxRecDepth 100000 in
theorem l1_X9_wipe {l : Launch} {X : Nat × (Nat → Int32)} {M : am_M} {n : Nat} (hz : yZ M) : ∀ (k i : Nat) (N : am_M), i + k = 4 → Lay N → mI N 93 0 = nI n → (∀ f, (1 ≤ f ∧ f ≤ 6) ∨ f = 18 ∨ f = 33 ∨ f = 34 → mI N 93 f = 0) → (∀ k, k < i → mI N 119 k = 0) → mI N 118 = mI M 118 → mI N 111 = mI M 111 → am_fr rS M N → am_V l yX9_wipe cX9_wipe 3 (none) (am_R 0 0 0) 0 0 X (fun v M' => v = none ∧ absM M' (g_new n) ∧ Lay M' ∧ am_fr rS M M') 0 0 52 [some (.ref 93), some (.int (nI n)), some (.int (nI i))] [] N := by
  intro k
  induction k with
  | zero =>
    intro i N hi hL h0 h1 h2 h5 h6 hf
    obtain rfl : i = 4 := by omega
    refine r_iload_n dX9_wipe_52 rfl ?_
    refine r_iconst (nI 4) dX9_wipe_53 (by decide) ?_
    refine r_icmp_ge 70 dX9_wipe_54 (by decide) (fun _ => ?_) (fun hq => absurd (nI_le (Nat.le_refl 4) (by decide)) hq)
    refine r_iconst (nI 0) dX9_wipe_70 (by decide) ?_
    refine r_istore_n _ dX9_wipe_71 (by decide) rfl ?_
    exact l2_X9_wipe hz 5 0 N (by omega) hL h0 h1 h2 (fun s hs => absurd hs (by omega)) h5 h6 hf
  | succ k ih =>
    intro i N hi hL h0 h1 h2 h5 h6 hf
    refine r_iload_n dX9_wipe_52 rfl ?_
    refine r_iconst (nI 4) dX9_wipe_53 (by decide) ?_
    refine r_icmp_ge 70 dX9_wipe_54 (by decide) (fun hq => absurd hq (nI_ge (by omega) (by decide))) (fun _ => ?_)
    refine r_aload_n dX9_wipe_57 rfl ?_
    refine r_getF kX9 (k := 35) (by decide) rfl fl_X9_90 (lay_ok hL rfl) (lay_r hL rfl) dX9_wipe_58 ?_
    refine r_iload_n dX9_wipe_61 rfl ?_
    refine r_iconst (0) dX9_wipe_62 (by decide) ?_
    refine r_iastN (lay_ok hL rfl) (by omega) (by decide) dX9_wipe_63 ?_
    refine r_lay (lay_wI hL _ _ _) (fun hL => ?_)
    refine r_iinc (nI (i + 1)) _ dX9_wipe_64 (by decide) rfl (nI_1 _) rfl ?_
    refine r_goto 52 dX9_wipe_67 (by decide) ?_
    exact ih (i + 1) _ (by omega) hL (by rw [mI_wI_n _ _ _ (by decide)]; exact h0) (fun f h => by rw [mI_wI_n _ _ _ (by decide)]; exact h1 f h) (fun k h => by rw [mI_wI]; split; rfl; exact h2 k (by omega)) (by rw [mI_wI_n _ _ _ (by decide)]; exact h5) (by rw [mI_wI_n _ _ _ (by decide)]; exact h6) (hf.tr (am_fr.wI _ _ ⟨by decide, by decide⟩))
set_option maxHeartbeats 4000000 in
set_option maxRecDepth 100000 in
theorem c_X9_wipe {l : Launch} {X : Nat × (Nat → Int32)} {M : am_M} (hL : Lay M) {n : Nat} (hz : yZ M) : am_C l yX9_wipe cX9_wipe 3 (none) 0 0 0 X [.ref 93, .int (nI n)] M (fun v M' => v = none ∧ absM M' (g_new n) ∧ Lay M' ∧ am_fr rS M M') := by
  refine am_C.of (by decide) (by simp [Value.category, va_rf]) (Nat.le_of_ble_eq_true rfl) ?_
  refine r_aload_n dX9_wipe_0 rfl ?_
  refine r_iload_n dX9_wipe_1 rfl ?_
  refine r_putI kX9 (k := 0) (by decide) rfl (Or.inl rfl) fl_X9_7 (lay_ok hL rfl) ⟨rfl, rfl⟩ dX9_wipe_2 ?_
  refine r_lay (lay_wI hL _ _ _) (fun hL => ?_)
  refine r_aload_n dX9_wipe_5 rfl ?_
  refine r_iconst (0) dX9_wipe_6 (by decide) ?_
  refine r_putI kX9 (k := 1) (by decide) rfl (Or.inl rfl) fl_X9_115 (lay_ok hL rfl) ⟨rfl, rfl⟩ dX9_wipe_7 ?_
  refine r_lay (lay_wI hL _ _ _) (fun hL => ?_)
  refine r_aload_n dX9_wipe_10 rfl ?_
  refine r_iconst (0) dX9_wipe_11 (by decide) ?_
  refine r_putI kX9 (k := 2) (by decide) rfl (Or.inl rfl) fl_X9_118 (lay_ok hL rfl) ⟨rfl, rfl⟩ dX9_wipe_12 ?_
  refine r_lay (lay_wI hL _ _ _) (fun hL => ?_)
  refine r_aload_n dX9_wipe_15 rfl ?_
  refine r_iconst (0) dX9_wipe_16 (by decide) ?_
  refine r_putI kX9 (k := 3) (by decide) rfl (Or.inl rfl) fl_X9_121 (lay_ok hL rfl) ⟨rfl, rfl⟩ dX9_wipe_17 ?_
  refine r_lay (lay_wI hL _ _ _) (fun hL => ?_)
  refine r_aload_n dX9_wipe_20 rfl ?_
  refine r_iconst (0) dX9_wipe_21 (by decide) ?_
  refine r_putI kX9 (k := 4) (by decide) rfl (Or.inl rfl) fl_X9_124 (lay_ok hL rfl) (by decide) dX9_wipe_22 ?_
  refine r_lay (lay_wI hL _ _ _) (fun hL => ?_)
  refine r_aload_n dX9_wipe_25 rfl ?_
  refine r_iconst (0) dX9_wipe_26 (by decide) ?_
  refine r_putI kX9 (k := 5) (by decide) rfl (Or.inl rfl) fl_X9_128 (lay_ok hL rfl) ⟨rfl, rfl⟩ dX9_wipe_27 ?_
  refine r_lay (lay_wI hL _ _ _) (fun hL => ?_)
  refine r_aload_n dX9_wipe_30 rfl ?_
  refine r_iconst (0) dX9_wipe_31 (by decide) ?_
  refine r_putI kX9 (k := 6) (by decide) rfl (Or.inl rfl) fl_X9_131 (lay_ok hL rfl) (by decide) dX9_wipe_32 ?_
  refine r_lay (lay_wI hL _ _ _) (fun hL => ?_)
  refine r_aload_n dX9_wipe_35 rfl ?_
  refine r_iconst (0) dX9_wipe_36 (by decide) ?_
  refine r_putI kX9 (k := 18) (by decide) rfl (Or.inl rfl) fl_X9_134 (lay_ok hL rfl) ⟨rfl, rfl⟩ dX9_wipe_37 ?_
  refine r_lay (lay_wI hL _ _ _) (fun hL => ?_)
  refine r_aload_n dX9_wipe_40 rfl ?_
  refine r_iconst (0) dX9_wipe_41 (by decide) ?_
  refine r_putI kX9 (k := 33) (by decide) rfl (Or.inl rfl) fl_X9_137 (lay_ok hL rfl) ⟨rfl, rfl⟩ dX9_wipe_42 ?_
  refine r_lay (lay_wI hL _ _ _) (fun hL => ?_)
  refine r_aload_n dX9_wipe_45 rfl ?_
  refine r_iconst (0) dX9_wipe_46 (by decide) ?_
  refine r_putI kX9 (k := 34) (by decide) rfl (Or.inl rfl) fl_X9_140 (lay_ok hL rfl) ⟨rfl, rfl⟩ dX9_wipe_47 ?_
  refine r_lay (lay_wI hL _ _ _) (fun hL => ?_)
  refine r_iconst (nI 0) dX9_wipe_50 (by decide) ?_
  refine r_istore_n _ dX9_wipe_51 (by decide) rfl ?_
  exact l1_X9_wipe hz 4 0 _ (by omega) hL (by simp [mI_wI]) (fun f h => by rcases (show f = 1 ∨ f = 2 ∨ f = 3 ∨ f = 4 ∨ f = 5 ∨ f = 6 ∨ f = 18 ∨ f = 33 ∨ f = 34 by omega) with rfl | rfl | rfl | rfl | rfl | rfl | rfl | rfl | rfl <;> simp [mI_wI]) (fun s hs => absurd hs (by omega)) (by rw [mI_wI_n _ _ _ (by decide), mI_wI_n _ _ _ (by decide), mI_wI_n _ _ _ (by decide), mI_wI_n _ _ _ (by decide), mI_wI_n _ _ _ (by decide), mI_wI_n _ _ _ (by decide), mI_wI_n _ _ _ (by decide), mI_wI_n _ _ _ (by decide), mI_wI_n _ _ _ (by decide), mI_wI_n _ _ _ (by decide)]) (by rw [mI_wI_n _ _ _ (by decide), mI_wI_n _ _ _ (by decide), mI_wI_n _ _ _ (by decide), mI_wI_n _ _ _ (by decide), mI_wI_n _ _ _ (by decide), mI_wI_n _ _ _ (by decide), mI_wI_n _ _ _ (by decide), mI_wI_n _ _ _ (by decide), mI_wI_n _ _ _ (by decide), mI_wI_n _ _ _ (by decide)]) (((((((((((am_fr.wI _ _ ⟨by decide, by decide⟩).tr (am_fr.wI _ _ ⟨by decide, by decide⟩)).tr (am_fr.wI _ _ ⟨by decide, by decide⟩)).tr (am_fr.wI _ _ ⟨by decide, by decide⟩)).tr (am_fr.wI _ _ ⟨by decide, by decide⟩)).tr (am_fr.wI _ _ ⟨by decide, by decide⟩)).tr (am_fr.wI _ _ ⟨by decide, by decide⟩)).tr (am_fr.wI _ _ ⟨by decide, by decide⟩)).tr (am_fr.wI _ _ ⟨by decide, by decide⟩)).tr (am_fr.wI _ _ ⟨by decide, by decide⟩)))
set_option maxHeartbeats 4000000 in
set_option maxRecDepth 100000 in
theorem k_X9_nodes {l : Launch} {X : Nat × (Nat → Int32)} {M : am_M} (hL : Lay M) {g : tG} {c0 : Nat} (hA : absM M g) (hI : gI c0 g) {x : Int32} : am_C l yX9_nodes cX9_nodes 3 (some .int) 1 0 0 X [.ref 93, .int x] M (fun v M' => v = some (.int (k_nodes x g).1) ∧ absM M' (k_nodes x g).2 ∧ Lay M' ∧ am_fr rS M M') := by
  refine am_C.of (by decide) (by simp [Value.category, va_rf]) (Nat.le_of_ble_eq_true rfl) ?_
  have hB := hI.1
  obtain ⟨b0, b1, b2, b3, b4, b5, b6, b7, b8, b9, bV, bA, bN, bl, bn, bh⟩ := id hB
  obtain ⟨s0, s1, s2, s3, s4, s5, s6, s7, s8, s9⟩ := hA.1
  have s18 := hA.2.2.2.2.1.1
  have hL0 := hL
  by_cases c1 : x < 2
  · have hk : k_nodes x g = (-1, g) := if_pos c1
    refine r_iload_n dX9_nodes_0 rfl ?_
    refine r_iconst (2) dX9_nodes_1 (by decide) ?_
    refine r_iconst (5) dX9_nodes_2 (by decide) ?_
    refine r_cS ca_yX9_in ml_X9_143 sm_yX9_in (c_X9_in hL) ⟨by decide, by decide⟩ (by first | decide | omega) (by first | decide | omega) rfl (Nat.le_of_ble_eq_true rfl) dX9_nodes_3 ?_
    refine r_top 0 (if_pos c1) ?_
    refine r_if_ne 11 dX9_nodes_6 (by decide) (fun hq => absurd (by decide) hq) (fun _ => ?_)
    refine r_iconst (-1) dX9_nodes_9 (by decide) ?_
    exact r_iret (Or.inl rfl) dX9_nodes_10 ⟨by rw [hk], by rw [hk]; exact hA, hL0, am_fr.rf⟩
  · by_cases c2 : 5 < x
    · have hk : k_nodes x g = (-1, g) := (if_neg c1).trans (if_pos c2)
      refine r_iload_n dX9_nodes_0 rfl ?_
      refine r_iconst (2) dX9_nodes_1 (by decide) ?_
      refine r_iconst (5) dX9_nodes_2 (by decide) ?_
      refine r_cS ca_yX9_in ml_X9_143 sm_yX9_in (c_X9_in hL) ⟨by decide, by decide⟩ (by first | decide | omega) (by first | decide | omega) rfl (Nat.le_of_ble_eq_true rfl) dX9_nodes_3 ?_
      refine r_top 0 ((if_neg c1).trans (if_pos c2)) ?_
      refine r_if_ne 11 dX9_nodes_6 (by decide) (fun hq => absurd (by decide) hq) (fun _ => ?_)
      refine r_iconst (-1) dX9_nodes_9 (by decide) ?_
      exact r_iret (Or.inl rfl) dX9_nodes_10 ⟨by rw [hk], by rw [hk]; exact hA, hL0, am_fr.rf⟩
    · obtain ⟨n, h2, h5, rfl⟩ := in_25 c1 c2
      have hk : k_nodes (nI n) g = (nI (gs g 1), g_new n) := (if_neg c1).trans ((if_neg c2).trans (by rw [nI_clamp (by omega)]))
      refine r_iload_n dX9_nodes_0 rfl ?_
      refine r_iconst (2) dX9_nodes_1 (by decide) ?_
      refine r_iconst (5) dX9_nodes_2 (by decide) ?_
      refine r_cS ca_yX9_in ml_X9_143 sm_yX9_in (c_X9_in hL) ⟨by decide, by decide⟩ (by first | decide | omega) (by first | decide | omega) rfl (Nat.le_of_ble_eq_true rfl) dX9_nodes_3 ?_
      refine r_top 1 ((if_neg c1).trans (if_neg c2)) ?_
      refine r_if_ne 11 dX9_nodes_6 (by decide) (fun _ => ?_) (fun hq => absurd hq (by decide))
      refine r_aload_n dX9_nodes_11 rfl ?_
      refine r_getE (nI (gs g 1)) kX9 (k := 1) (by decide) rfl fl_X9_115 (lay_ok hL rfl) dX9_nodes_12 s1 ?_
      refine r_istore_n _ dX9_nodes_15 (by decide) rfl ?_
      refine r_aload_n dX9_nodes_16 rfl ?_
      refine r_iload_n dX9_nodes_17 rfl ?_
      refine r_callV ca_yX9_wipe ml_X9_111 im_yX9_wipe se_yX9_wipe (by decide) rfl (lay_ok hL rfl) (c_X9_wipe hL hA.2.2.2.2.2.2.2) ⟨by decide, by decide⟩ (by first | decide | omega) (by first | decide | omega) rfl (Nat.le_of_ble_eq_true rfl) dX9_nodes_18 (fun v0 M1 hp1 => ?_)
      obtain ⟨rfl, hA2, hL2, hf2⟩ := hp1
      have hL := hL2
      refine r_iload_n dX9_nodes_21 rfl ?_
      exact r_iret (Or.inl rfl) dX9_nodes_22 ⟨(congrArg (fun q : Int32 × tG => some (Value.int q.1)) hk).symm, by rw [hk]; exact hA2, hL, hf2⟩
set_option maxHeartbeats 4000000 in
set_option maxRecDepth 100000 in
theorem k_X9_vertex {l : Launch} {X : Nat × (Nat → Int32)} {M : am_M} (hL : Lay M) {g : tG} {c0 : Nat} (hA : absM M g) (hI : gI c0 g) {x y : Int32} : am_C l yX9_vertex cX9_vertex 3 (some .int) 2 0 0 X [.ref 93, .int x, .int y] M (fun v M' => v = some (.int (k_vertex x y g).1) ∧ absM M' (k_vertex x y g).2 ∧ Lay M' ∧ am_fr rS M M') := by
  refine am_C.of (by decide) (by simp [Value.category, va_rf]) (Nat.le_of_ble_eq_true rfl) ?_
  have hB := hI.1
  obtain ⟨b0, b1, b2, b3, b4, b5, b6, b7, b8, b9, bV, bA, bN, bl, bn, bh⟩ := id hB
  obtain ⟨s0, s1, s2, s3, s4, s5, s6, s7, s8, s9⟩ := hA.1
  have s18 := hA.2.2.2.2.1.1
  have hL0 := hL
  rcases inN_cases x (k := gs g 0) (by omega) with ⟨e, c⟩ | ⟨j, hj, rfl, e⟩
  · have hk : k_vertex x y g = (-1, g) := by simp only [k_vertex, e]
    refine r_aload_n dX9_vertex_0 rfl ?_
    refine r_iload_n dX9_vertex_1 rfl ?_
    refine r_cV ca_yX9_isNode ml_X9_147 im_yX9_isNode se_yX9_isNode (by decide) rfl (lay_ok hL rfl) (c_X9_isNode hL s0 (by omega)) ⟨by decide, by decide⟩ (by first | decide | omega) (by first | decide | omega) rfl (Nat.le_of_ble_eq_true rfl) dX9_vertex_2 ?_
    refine r_top 0 (inN_no c) ?_
    refine r_if_ne 10 dX9_vertex_5 (by decide) (fun hq => absurd (by decide) hq) (fun _ => ?_)
    refine r_iconst (-1) dX9_vertex_8 (by decide) ?_
    exact r_iret (Or.inl rfl) dX9_vertex_9 ⟨by rw [hk], by rw [hk]; exact hA, hL0, am_fr.rf⟩
  · by_cases c6 : gs g 6 = 1
    · have hk : k_vertex (nI j) y g = (-2, g) := by simp only [k_vertex, e, if_pos c6]
      refine r_aload_n dX9_vertex_0 rfl ?_
      refine r_iload_n dX9_vertex_1 rfl ?_
      refine r_cV ca_yX9_isNode ml_X9_147 im_yX9_isNode se_yX9_isNode (by decide) rfl (lay_ok hL rfl) (c_X9_isNode hL s0 (by omega)) ⟨by decide, by decide⟩ (by first | decide | omega) (by first | decide | omega) rfl (Nat.le_of_ble_eq_true rfl) dX9_vertex_2 ?_
      refine r_top 1 (inN_yes hj (by omega)) ?_
      refine r_if_ne 10 dX9_vertex_5 (by decide) (fun _ => ?_) (fun hq => absurd hq (by decide))
      refine r_aload_n dX9_vertex_10 rfl ?_
      refine r_getE (1) kX9 (k := 6) (by decide) rfl fl_X9_131 (lay_ok hL rfl) dX9_vertex_11 (by rw [s6, c6]; rfl) ?_
      refine r_if_eq 20 dX9_vertex_14 (by decide) (fun hq => absurd hq (by decide)) (fun _ => ?_)
      refine r_bipush (-2) dX9_vertex_17 (by decide) ?_
      exact r_iret (Or.inl rfl) dX9_vertex_19 ⟨by rw [hk], by rw [hk]; exact hA, hL0, am_fr.rf⟩
    · by_cases c7 : 16 ≤ gs g 1
      · have hk : k_vertex (nI j) y g = (-3, g) := by simp only [k_vertex, e, if_neg c6, if_pos c7]
        refine r_aload_n dX9_vertex_0 rfl ?_
        refine r_iload_n dX9_vertex_1 rfl ?_
        refine r_cV ca_yX9_isNode ml_X9_147 im_yX9_isNode se_yX9_isNode (by decide) rfl (lay_ok hL rfl) (c_X9_isNode hL s0 (by omega)) ⟨by decide, by decide⟩ (by first | decide | omega) (by first | decide | omega) rfl (Nat.le_of_ble_eq_true rfl) dX9_vertex_2 ?_
        refine r_top 1 (inN_yes hj (by omega)) ?_
        refine r_if_ne 10 dX9_vertex_5 (by decide) (fun _ => ?_) (fun hq => absurd hq (by decide))
        refine r_aload_n dX9_vertex_10 rfl ?_
        refine r_getE (0) kX9 (k := 6) (by decide) rfl fl_X9_131 (lay_ok hL rfl) dX9_vertex_11 (by rw [s6, bool01 b7 c6]; rfl) ?_
        refine r_if_eq 20 dX9_vertex_14 (by decide) (fun _ => ?_) (fun hq => absurd (by decide) hq)
        refine r_aload_n dX9_vertex_20 rfl ?_
        refine r_getE (nI (gs g 1)) kX9 (k := 1) (by decide) rfl fl_X9_115 (lay_ok hL rfl) dX9_vertex_21 s1 ?_
        refine r_bipush (nI 16) dX9_vertex_24 (by decide) ?_
        refine r_icmp_ne 32 dX9_vertex_26 (by decide) (fun hq => absurd (by rw [show gs g 1 = 16 by omega]) hq) (fun _ => ?_)
        refine r_bipush (-3) dX9_vertex_29 (by decide) ?_
        exact r_iret (Or.inl rfl) dX9_vertex_31 ⟨by rw [hk], by rw [hk]; exact hA, hL0, am_fr.rf⟩
      · have hk : k_vertex (nI j) y g = (nI (gs g 1), g_vertex j y g) := by simp only [k_vertex, e, if_neg c6, if_neg c7]
        have hq := absM_vertex (n := j) (y := y) hL0.1 hA (hI.2.2.2.1 (bool01 b7 c6)).2.2.2.1
        refine r_aload_n dX9_vertex_0 rfl ?_
        refine r_iload_n dX9_vertex_1 rfl ?_
        refine r_cV ca_yX9_isNode ml_X9_147 im_yX9_isNode se_yX9_isNode (by decide) rfl (lay_ok hL rfl) (c_X9_isNode hL s0 (by omega)) ⟨by decide, by decide⟩ (by first | decide | omega) (by first | decide | omega) rfl (Nat.le_of_ble_eq_true rfl) dX9_vertex_2 ?_
        refine r_top 1 (inN_yes hj (by omega)) ?_
        refine r_if_ne 10 dX9_vertex_5 (by decide) (fun _ => ?_) (fun hq => absurd hq (by decide))
        refine r_aload_n dX9_vertex_10 rfl ?_
        refine r_getE (0) kX9 (k := 6) (by decide) rfl fl_X9_131 (lay_ok hL rfl) dX9_vertex_11 (by rw [s6, bool01 b7 c6]; rfl) ?_
        refine r_if_eq 20 dX9_vertex_14 (by decide) (fun _ => ?_) (fun hq => absurd (by decide) hq)
        refine r_aload_n dX9_vertex_20 rfl ?_
        refine r_getE (nI (gs g 1)) kX9 (k := 1) (by decide) rfl fl_X9_115 (lay_ok hL rfl) dX9_vertex_21 (by exact s1) ?_
        refine r_bipush (nI 16) dX9_vertex_24 (by decide) ?_
        refine r_icmp_ne 32 dX9_vertex_26 (by decide) (fun _ => ?_) (fun hq => absurd hq (fun z => c7 (Nat.le_of_eq ((nI_eq (b := 16) (by omega) (by decide)).mp z).symm)))
        refine r_aload_n dX9_vertex_32 rfl ?_
        refine r_getF kX9 (k := 7) (by decide) rfl fl_X9_13 (lay_ok hL rfl) (lay_r hL rfl) dX9_vertex_33 ?_
        refine r_aload_n dX9_vertex_36 rfl ?_
        refine r_getE (nI (gs g 1)) kX9 (k := 1) (by decide) rfl fl_X9_115 (lay_ok hL rfl) dX9_vertex_37 (by exact s1) ?_
        refine r_iload_n dX9_vertex_40 rfl ?_
        refine r_iastN (lay_ok hL rfl) (by omega) (by decide) dX9_vertex_41 ?_
        refine r_lay (lay_wI hL _ _ _) (fun hL => ?_)
        refine r_aload_n dX9_vertex_42 rfl ?_
        refine r_getF kX9 (k := 8) (by decide) rfl fl_X9_17 (lay_ok hL rfl) (lay_r hL rfl) dX9_vertex_43 ?_
        refine r_aload_n dX9_vertex_46 rfl ?_
        refine r_getE (nI (gs g 1)) kX9 (k := 1) (by decide) rfl fl_X9_115 (lay_ok hL rfl) dX9_vertex_47 (by rw [mI_wI_n _ _ _ (by decide)]; exact s1) ?_
        refine r_iload_n dX9_vertex_50 rfl ?_
        refine r_iastN (lay_ok hL rfl) (by omega) (by decide) dX9_vertex_51 ?_
        refine r_lay (lay_wI hL _ _ _) (fun hL => ?_)
        refine r_aload_n dX9_vertex_52 rfl ?_
        refine r_getF kX9 (k := 9) (by decide) rfl fl_X9_20 (lay_ok hL rfl) (lay_r hL rfl) dX9_vertex_53 ?_
        refine r_aload_n dX9_vertex_56 rfl ?_
        refine r_getE (nI (gs g 1)) kX9 (k := 1) (by decide) rfl fl_X9_115 (lay_ok hL rfl) dX9_vertex_57 (by rw [mI_wI_n _ _ _ (by decide), mI_wI_n _ _ _ (by decide)]; exact s1) ?_
        refine r_iconst (0) dX9_vertex_60 (by decide) ?_
        refine r_iastN (lay_ok hL rfl) (by omega) (by decide) dX9_vertex_61 ?_
        refine r_lay (lay_wI hL _ _ _) (fun hL => ?_)
        refine r_aload_n dX9_vertex_62 rfl ?_
        refine r_getF kX9 (k := 10) (by decide) rfl fl_X9_23 (lay_ok hL rfl) (lay_r hL rfl) dX9_vertex_63 ?_
        refine r_aload_n dX9_vertex_66 rfl ?_
        refine r_getE (nI (gs g 1)) kX9 (k := 1) (by decide) rfl fl_X9_115 (lay_ok hL rfl) dX9_vertex_67 (by rw [mI_wI_n _ _ _ (by decide), mI_wI_n _ _ _ (by decide), mI_wI_n _ _ _ (by decide)]; exact s1) ?_
        refine r_iconst (1) dX9_vertex_70 (by decide) ?_
        refine r_zastN (lay_ok hL rfl) (by omega) (by decide) (by decide) dX9_vertex_71 ?_
        refine r_lay (lay_wI hL _ _ _) (fun hL => ?_)
        refine r_aload_n dX9_vertex_72 rfl ?_
        refine r_getF kX9 (k := 11) (by decide) rfl fl_X9_27 (lay_ok hL rfl) (lay_r hL rfl) dX9_vertex_73 ?_
        refine r_aload_n dX9_vertex_76 rfl ?_
        refine r_getE (nI (gs g 1)) kX9 (k := 1) (by decide) rfl fl_X9_115 (lay_ok hL rfl) dX9_vertex_77 (by rw [mI_wI_n _ _ _ (by decide), mI_wI_n _ _ _ (by decide), mI_wI_n _ _ _ (by decide), mI_wI_n _ _ _ (by decide)]; exact s1) ?_
        refine r_iload_n dX9_vertex_80 rfl ?_
        refine r_iastN (lay_ok hL rfl) (by omega) (by decide) dX9_vertex_81 ?_
        refine r_lay (lay_wI hL _ _ _) (fun hL => ?_)
        refine r_aload_n dX9_vertex_82 rfl ?_
        refine r_dup dX9_vertex_83 rfl ?_
        refine r_getE (nI (gs g 1)) kX9 (k := 1) (by decide) rfl fl_X9_115 (lay_ok hL rfl) dX9_vertex_84 (by rw [mI_wI_n _ _ _ (by decide), mI_wI_n _ _ _ (by decide), mI_wI_n _ _ _ (by decide), mI_wI_n _ _ _ (by decide), mI_wI_n _ _ _ (by decide)]; exact s1) ?_
        refine r_iconst (1) dX9_vertex_87 (by decide) ?_
        refine r_iadd dX9_vertex_88 ?_
        refine r_top (nI (gs g 1 + 1)) (nI_1 _) ?_
        refine r_putI kX9 (k := 1) (by decide) rfl (Or.inl rfl) fl_X9_115 (lay_ok hL rfl) ⟨rfl, rfl⟩ dX9_vertex_89 ?_
        refine r_lay (lay_wI hL _ _ _) (fun hL => ?_)
        refine r_aload_n dX9_vertex_92 rfl ?_
        refine r_getE (nI (gs g 1 + 1)) kX9 (k := 1) (by decide) rfl fl_X9_115 (lay_ok hL rfl) dX9_vertex_93 (by simp [mI_wI]) ?_
        refine r_iconst (1) dX9_vertex_96 (by decide) ?_
        refine r_isub dX9_vertex_97 ?_
        refine r_top (nI (gs g 1)) (nI_pred _) ?_
        exact r_iret (Or.inl rfl) dX9_vertex_98 ⟨(congrArg (fun q : Int32 × tG => some (Value.int q.1)) hk).symm, by rw [hk]; exact hq, hL, ((((((am_fr.wI _ _ ⟨by decide, by decide⟩).tr (am_fr.wI _ _ ⟨by decide, by decide⟩)).tr (am_fr.wI _ _ ⟨by decide, by decide⟩)).tr (am_fr.wI _ _ ⟨by decide, by decide⟩)).tr (am_fr.wI _ _ ⟨by decide, by decide⟩)).tr (am_fr.wI _ _ ⟨by decide, by decide⟩))⟩
set_option maxHeartbeats 4000000 in
set_option maxRecDepth 100000 in
theorem k_X9_arc {l : Launch} {X : Nat × (Nat → Int32)} {M : am_M} (hL : Lay M) {g : tG} {c0 : Nat} (hA : absM M g) (hI : gI c0 g) {x y z : Int32} : am_C l yX9_arc cX9_arc 4 (some .int) 2 0 0 X [.ref 93, .int x, .int y, .int z] M (fun v M' => v = some (.int (k_arc x y z g).1) ∧ absM M' (k_arc x y z g).2 ∧ Lay M' ∧ am_fr rS M M') := by
  refine am_C.of (by decide) (by simp [Value.category, va_rf]) (Nat.le_of_ble_eq_true rfl) ?_
  have hB := hI.1
  obtain ⟨b0, b1, b2, b3, b4, b5, b6, b7, b8, b9, bV, bA, bN, bl, bn, bh⟩ := id hB
  obtain ⟨s0, s1, s2, s3, s4, s5, s6, s7, s8, s9⟩ := hA.1
  have s18 := hA.2.2.2.2.1.1
  have hL0 := hL
  rcases inN_cases x (k := gs g 1) (by omega) with ⟨e, c⟩ | ⟨a, ha, rfl, e⟩
  · have hk : k_arc x y z g = (-1, g) := by simp only [k_arc, e]
    refine r_aload_n dX9_arc_0 rfl ?_
    refine r_iload_n dX9_arc_1 rfl ?_
    refine r_cV ca_yX9_isVertex ml_X9_151 im_yX9_isVertex se_yX9_isVertex (by decide) rfl (lay_ok hL rfl) (c_X9_isVertex hL s1 (by omega)) ⟨by decide, by decide⟩ (by first | decide | omega) (by first | decide | omega) rfl (Nat.le_of_ble_eq_true rfl) dX9_arc_2 ?_
    refine r_top 0 (inN_no c) ?_
    refine r_if_eq 29 dX9_arc_5 (by decide) (fun _ => ?_) (fun hq => absurd (by decide) hq)
    refine r_iconst (-1) dX9_arc_29 (by decide) ?_
    exact r_iret (Or.inl rfl) dX9_arc_30 ⟨by rw [hk], by rw [hk]; exact hA, hL0, am_fr.rf⟩
  · rcases inN_cases y (k := gs g 1) (by omega) with ⟨f, c⟩ | ⟨b, hb, rfl, f⟩
    · have hk : k_arc (nI a) y z g = (-1, g) := by simp only [k_arc, e, f]
      refine r_aload_n dX9_arc_0 rfl ?_
      refine r_iload_n dX9_arc_1 rfl ?_
      refine r_cV ca_yX9_isVertex ml_X9_151 im_yX9_isVertex se_yX9_isVertex (by decide) rfl (lay_ok hL rfl) (c_X9_isVertex hL s1 (by omega)) ⟨by decide, by decide⟩ (by first | decide | omega) (by first | decide | omega) rfl (Nat.le_of_ble_eq_true rfl) dX9_arc_2 ?_
      refine r_top 1 (inN_yes ha (by omega)) ?_
      refine r_if_eq 29 dX9_arc_5 (by decide) (fun hq => absurd hq (by decide)) (fun _ => ?_)
      refine r_aload_n dX9_arc_8 rfl ?_
      refine r_iload_n dX9_arc_9 rfl ?_
      refine r_cV ca_yX9_isVertex ml_X9_151 im_yX9_isVertex se_yX9_isVertex (by decide) rfl (lay_ok hL rfl) (c_X9_isVertex hL s1 (by omega)) ⟨by decide, by decide⟩ (by first | decide | omega) (by first | decide | omega) rfl (Nat.le_of_ble_eq_true rfl) dX9_arc_10 ?_
      refine r_top 0 (inN_no c) ?_
      refine r_if_eq 29 dX9_arc_13 (by decide) (fun _ => ?_) (fun hq => absurd (by decide) hq)
      refine r_iconst (-1) dX9_arc_29 (by decide) ?_
      exact r_iret (Or.inl rfl) dX9_arc_30 ⟨by rw [hk], by rw [hk]; exact hA, hL0, am_fr.rf⟩
    · by_cases c1 : z < -1000
      · have hk : k_arc (nI a) (nI b) z g = (-1, g) := by simp only [k_arc, e, f, if_pos c1]
        refine r_aload_n dX9_arc_0 rfl ?_
        refine r_iload_n dX9_arc_1 rfl ?_
        refine r_cV ca_yX9_isVertex ml_X9_151 im_yX9_isVertex se_yX9_isVertex (by decide) rfl (lay_ok hL rfl) (c_X9_isVertex hL s1 (by omega)) ⟨by decide, by decide⟩ (by first | decide | omega) (by first | decide | omega) rfl (Nat.le_of_ble_eq_true rfl) dX9_arc_2 ?_
        refine r_top 1 (inN_yes ha (by omega)) ?_
        refine r_if_eq 29 dX9_arc_5 (by decide) (fun hq => absurd hq (by decide)) (fun _ => ?_)
        refine r_aload_n dX9_arc_8 rfl ?_
        refine r_iload_n dX9_arc_9 rfl ?_
        refine r_cV ca_yX9_isVertex ml_X9_151 im_yX9_isVertex se_yX9_isVertex (by decide) rfl (lay_ok hL rfl) (c_X9_isVertex hL s1 (by omega)) ⟨by decide, by decide⟩ (by first | decide | omega) (by first | decide | omega) rfl (Nat.le_of_ble_eq_true rfl) dX9_arc_10 ?_
        refine r_top 1 (inN_yes hb (by omega)) ?_
        refine r_if_eq 29 dX9_arc_13 (by decide) (fun hq => absurd hq (by decide)) (fun _ => ?_)
        refine r_iload_n dX9_arc_16 rfl ?_
        refine r_sipush (-1000) dX9_arc_17 (by decide) ?_
        refine r_sipush (1000) dX9_arc_20 (by decide) ?_
        refine r_cS ca_yX9_in ml_X9_143 sm_yX9_in (c_X9_in hL) ⟨by decide, by decide⟩ (by first | decide | omega) (by first | decide | omega) rfl (Nat.le_of_ble_eq_true rfl) dX9_arc_23 ?_
        refine r_top 0 (if_pos c1) ?_
        refine r_if_ne 31 dX9_arc_26 (by decide) (fun hq => absurd (by decide) hq) (fun _ => ?_)
        refine r_iconst (-1) dX9_arc_29 (by decide) ?_
        exact r_iret (Or.inl rfl) dX9_arc_30 ⟨by rw [hk], by rw [hk]; exact hA, hL0, am_fr.rf⟩
      · by_cases c2 : 1000 < z
        · have hk : k_arc (nI a) (nI b) z g = (-1, g) := by simp only [k_arc, e, f, if_neg c1, if_pos c2]
          refine r_aload_n dX9_arc_0 rfl ?_
          refine r_iload_n dX9_arc_1 rfl ?_
          refine r_cV ca_yX9_isVertex ml_X9_151 im_yX9_isVertex se_yX9_isVertex (by decide) rfl (lay_ok hL rfl) (c_X9_isVertex hL s1 (by omega)) ⟨by decide, by decide⟩ (by first | decide | omega) (by first | decide | omega) rfl (Nat.le_of_ble_eq_true rfl) dX9_arc_2 ?_
          refine r_top 1 (inN_yes ha (by omega)) ?_
          refine r_if_eq 29 dX9_arc_5 (by decide) (fun hq => absurd hq (by decide)) (fun _ => ?_)
          refine r_aload_n dX9_arc_8 rfl ?_
          refine r_iload_n dX9_arc_9 rfl ?_
          refine r_cV ca_yX9_isVertex ml_X9_151 im_yX9_isVertex se_yX9_isVertex (by decide) rfl (lay_ok hL rfl) (c_X9_isVertex hL s1 (by omega)) ⟨by decide, by decide⟩ (by first | decide | omega) (by first | decide | omega) rfl (Nat.le_of_ble_eq_true rfl) dX9_arc_10 ?_
          refine r_top 1 (inN_yes hb (by omega)) ?_
          refine r_if_eq 29 dX9_arc_13 (by decide) (fun hq => absurd hq (by decide)) (fun _ => ?_)
          refine r_iload_n dX9_arc_16 rfl ?_
          refine r_sipush (-1000) dX9_arc_17 (by decide) ?_
          refine r_sipush (1000) dX9_arc_20 (by decide) ?_
          refine r_cS ca_yX9_in ml_X9_143 sm_yX9_in (c_X9_in hL) ⟨by decide, by decide⟩ (by first | decide | omega) (by first | decide | omega) rfl (Nat.le_of_ble_eq_true rfl) dX9_arc_23 ?_
          refine r_top 0 ((if_neg c1).trans (if_pos c2)) ?_
          refine r_if_ne 31 dX9_arc_26 (by decide) (fun hq => absurd (by decide) hq) (fun _ => ?_)
          refine r_iconst (-1) dX9_arc_29 (by decide) ?_
          exact r_iret (Or.inl rfl) dX9_arc_30 ⟨by rw [hk], by rw [hk]; exact hA, hL0, am_fr.rf⟩
        · by_cases c6 : gs g 6 = 1
          · have hk : k_arc (nI a) (nI b) z g = (-2, g) := by simp only [k_arc, e, f, if_neg c1, if_neg c2, if_pos c6]
            refine r_aload_n dX9_arc_0 rfl ?_
            refine r_iload_n dX9_arc_1 rfl ?_
            refine r_cV ca_yX9_isVertex ml_X9_151 im_yX9_isVertex se_yX9_isVertex (by decide) rfl (lay_ok hL rfl) (c_X9_isVertex hL s1 (by omega)) ⟨by decide, by decide⟩ (by first | decide | omega) (by first | decide | omega) rfl (Nat.le_of_ble_eq_true rfl) dX9_arc_2 ?_
            refine r_top 1 (inN_yes ha (by omega)) ?_
            refine r_if_eq 29 dX9_arc_5 (by decide) (fun hq => absurd hq (by decide)) (fun _ => ?_)
            refine r_aload_n dX9_arc_8 rfl ?_
            refine r_iload_n dX9_arc_9 rfl ?_
            refine r_cV ca_yX9_isVertex ml_X9_151 im_yX9_isVertex se_yX9_isVertex (by decide) rfl (lay_ok hL rfl) (c_X9_isVertex hL s1 (by omega)) ⟨by decide, by decide⟩ (by first | decide | omega) (by first | decide | omega) rfl (Nat.le_of_ble_eq_true rfl) dX9_arc_10 ?_
            refine r_top 1 (inN_yes hb (by omega)) ?_
            refine r_if_eq 29 dX9_arc_13 (by decide) (fun hq => absurd hq (by decide)) (fun _ => ?_)
            refine r_iload_n dX9_arc_16 rfl ?_
            refine r_sipush (-1000) dX9_arc_17 (by decide) ?_
            refine r_sipush (1000) dX9_arc_20 (by decide) ?_
            refine r_cS ca_yX9_in ml_X9_143 sm_yX9_in (c_X9_in hL) ⟨by decide, by decide⟩ (by first | decide | omega) (by first | decide | omega) rfl (Nat.le_of_ble_eq_true rfl) dX9_arc_23 ?_
            refine r_top 1 ((if_neg c1).trans (if_neg c2)) ?_
            refine r_if_ne 31 dX9_arc_26 (by decide) (fun _ => ?_) (fun hq => absurd hq (by decide))
            refine r_aload_n dX9_arc_31 rfl ?_
            refine r_getE (1) kX9 (k := 6) (by decide) rfl fl_X9_131 (lay_ok hL rfl) dX9_arc_32 (by rw [s6, c6]; rfl) ?_
            refine r_if_eq 41 dX9_arc_35 (by decide) (fun hq => absurd hq (by decide)) (fun _ => ?_)
            refine r_bipush (-2) dX9_arc_38 (by decide) ?_
            exact r_iret (Or.inl rfl) dX9_arc_40 ⟨by rw [hk], by rw [hk]; exact hA, hL0, am_fr.rf⟩
          · by_cases c7 : 40 ≤ gs g 2
            · have hk : k_arc (nI a) (nI b) z g = (-3, g) := by simp only [k_arc, e, f, if_neg c1, if_neg c2, if_neg c6, if_pos c7]
              refine r_aload_n dX9_arc_0 rfl ?_
              refine r_iload_n dX9_arc_1 rfl ?_
              refine r_cV ca_yX9_isVertex ml_X9_151 im_yX9_isVertex se_yX9_isVertex (by decide) rfl (lay_ok hL rfl) (c_X9_isVertex hL s1 (by omega)) ⟨by decide, by decide⟩ (by first | decide | omega) (by first | decide | omega) rfl (Nat.le_of_ble_eq_true rfl) dX9_arc_2 ?_
              refine r_top 1 (inN_yes ha (by omega)) ?_
              refine r_if_eq 29 dX9_arc_5 (by decide) (fun hq => absurd hq (by decide)) (fun _ => ?_)
              refine r_aload_n dX9_arc_8 rfl ?_
              refine r_iload_n dX9_arc_9 rfl ?_
              refine r_cV ca_yX9_isVertex ml_X9_151 im_yX9_isVertex se_yX9_isVertex (by decide) rfl (lay_ok hL rfl) (c_X9_isVertex hL s1 (by omega)) ⟨by decide, by decide⟩ (by first | decide | omega) (by first | decide | omega) rfl (Nat.le_of_ble_eq_true rfl) dX9_arc_10 ?_
              refine r_top 1 (inN_yes hb (by omega)) ?_
              refine r_if_eq 29 dX9_arc_13 (by decide) (fun hq => absurd hq (by decide)) (fun _ => ?_)
              refine r_iload_n dX9_arc_16 rfl ?_
              refine r_sipush (-1000) dX9_arc_17 (by decide) ?_
              refine r_sipush (1000) dX9_arc_20 (by decide) ?_
              refine r_cS ca_yX9_in ml_X9_143 sm_yX9_in (c_X9_in hL) ⟨by decide, by decide⟩ (by first | decide | omega) (by first | decide | omega) rfl (Nat.le_of_ble_eq_true rfl) dX9_arc_23 ?_
              refine r_top 1 ((if_neg c1).trans (if_neg c2)) ?_
              refine r_if_ne 31 dX9_arc_26 (by decide) (fun _ => ?_) (fun hq => absurd hq (by decide))
              refine r_aload_n dX9_arc_31 rfl ?_
              refine r_getE (0) kX9 (k := 6) (by decide) rfl fl_X9_131 (lay_ok hL rfl) dX9_arc_32 (by rw [s6, bool01 b7 c6]; rfl) ?_
              refine r_if_eq 41 dX9_arc_35 (by decide) (fun _ => ?_) (fun hq => absurd (by decide) hq)
              refine r_aload_n dX9_arc_41 rfl ?_
              refine r_getE (nI (gs g 2)) kX9 (k := 2) (by decide) rfl fl_X9_118 (lay_ok hL rfl) dX9_arc_42 (by exact s2) ?_
              refine r_bipush (nI 40) dX9_arc_45 (by decide) ?_
              refine r_icmp_ne 53 dX9_arc_47 (by decide) (fun hq => absurd (by rw [show gs g 2 = 40 by omega]) hq) (fun _ => ?_)
              refine r_bipush (-3) dX9_arc_50 (by decide) ?_
              exact r_iret (Or.inl rfl) dX9_arc_52 ⟨by rw [hk], by rw [hk]; exact hA, hL0, am_fr.rf⟩
            · have hk : k_arc (nI a) (nI b) z g = (nI (gs g 2), g_arc a b z g) := by simp only [k_arc, e, f, if_neg c1, if_neg c2, if_neg c6, if_neg c7]
              have hq := absM_arc (a := a) (b := b) (w := z) hL0.1 hA
              refine r_aload_n dX9_arc_0 rfl ?_
              refine r_iload_n dX9_arc_1 rfl ?_
              refine r_cV ca_yX9_isVertex ml_X9_151 im_yX9_isVertex se_yX9_isVertex (by decide) rfl (lay_ok hL rfl) (c_X9_isVertex hL s1 (by omega)) ⟨by decide, by decide⟩ (by first | decide | omega) (by first | decide | omega) rfl (Nat.le_of_ble_eq_true rfl) dX9_arc_2 ?_
              refine r_top 1 (inN_yes ha (by omega)) ?_
              refine r_if_eq 29 dX9_arc_5 (by decide) (fun hq => absurd hq (by decide)) (fun _ => ?_)
              refine r_aload_n dX9_arc_8 rfl ?_
              refine r_iload_n dX9_arc_9 rfl ?_
              refine r_cV ca_yX9_isVertex ml_X9_151 im_yX9_isVertex se_yX9_isVertex (by decide) rfl (lay_ok hL rfl) (c_X9_isVertex hL s1 (by omega)) ⟨by decide, by decide⟩ (by first | decide | omega) (by first | decide | omega) rfl (Nat.le_of_ble_eq_true rfl) dX9_arc_10 ?_
              refine r_top 1 (inN_yes hb (by omega)) ?_
              refine r_if_eq 29 dX9_arc_13 (by decide) (fun hq => absurd hq (by decide)) (fun _ => ?_)
              refine r_iload_n dX9_arc_16 rfl ?_
              refine r_sipush (-1000) dX9_arc_17 (by decide) ?_
              refine r_sipush (1000) dX9_arc_20 (by decide) ?_
              refine r_cS ca_yX9_in ml_X9_143 sm_yX9_in (c_X9_in hL) ⟨by decide, by decide⟩ (by first | decide | omega) (by first | decide | omega) rfl (Nat.le_of_ble_eq_true rfl) dX9_arc_23 ?_
              refine r_top 1 ((if_neg c1).trans (if_neg c2)) ?_
              refine r_if_ne 31 dX9_arc_26 (by decide) (fun _ => ?_) (fun hq => absurd hq (by decide))
              refine r_aload_n dX9_arc_31 rfl ?_
              refine r_getE (0) kX9 (k := 6) (by decide) rfl fl_X9_131 (lay_ok hL rfl) dX9_arc_32 (by rw [s6, bool01 b7 c6]; rfl) ?_
              refine r_if_eq 41 dX9_arc_35 (by decide) (fun _ => ?_) (fun hq => absurd (by decide) hq)
              refine r_aload_n dX9_arc_41 rfl ?_
              refine r_getE (nI (gs g 2)) kX9 (k := 2) (by decide) rfl fl_X9_118 (lay_ok hL rfl) dX9_arc_42 (by exact s2) ?_
              refine r_bipush (nI 40) dX9_arc_45 (by decide) ?_
              refine r_icmp_ne 53 dX9_arc_47 (by decide) (fun _ => ?_) (fun hq => absurd hq (fun z => c7 (Nat.le_of_eq ((nI_eq (b := 40) (by omega) (by decide)).mp z).symm)))
              refine r_aload_n dX9_arc_53 rfl ?_
              refine r_getF kX9 (k := 12) (by decide) rfl fl_X9_30 (lay_ok hL rfl) (lay_r hL rfl) dX9_arc_54 ?_
              refine r_aload_n dX9_arc_57 rfl ?_
              refine r_getE (nI (gs g 2)) kX9 (k := 2) (by decide) rfl fl_X9_118 (lay_ok hL rfl) dX9_arc_58 (by exact s2) ?_
              refine r_iload_n dX9_arc_61 rfl ?_
              refine r_iastN (lay_ok hL rfl) (by omega) (by decide) dX9_arc_62 ?_
              refine r_lay (lay_wI hL _ _ _) (fun hL => ?_)
              refine r_aload_n dX9_arc_63 rfl ?_
              refine r_getF kX9 (k := 13) (by decide) rfl fl_X9_33 (lay_ok hL rfl) (lay_r hL rfl) dX9_arc_64 ?_
              refine r_aload_n dX9_arc_67 rfl ?_
              refine r_getE (nI (gs g 2)) kX9 (k := 2) (by decide) rfl fl_X9_118 (lay_ok hL rfl) dX9_arc_68 (by rw [mI_wI_n _ _ _ (by decide)]; exact s2) ?_
              refine r_iload_n dX9_arc_71 rfl ?_
              refine r_iastN (lay_ok hL rfl) (by omega) (by decide) dX9_arc_72 ?_
              refine r_lay (lay_wI hL _ _ _) (fun hL => ?_)
              refine r_aload_n dX9_arc_73 rfl ?_
              refine r_getF kX9 (k := 14) (by decide) rfl fl_X9_36 (lay_ok hL rfl) (lay_r hL rfl) dX9_arc_74 ?_
              refine r_aload_n dX9_arc_77 rfl ?_
              refine r_getE (nI (gs g 2)) kX9 (k := 2) (by decide) rfl fl_X9_118 (lay_ok hL rfl) dX9_arc_78 (by rw [mI_wI_n _ _ _ (by decide), mI_wI_n _ _ _ (by decide)]; exact s2) ?_
              refine r_iload_n dX9_arc_81 rfl ?_
              refine r_iastN (lay_ok hL rfl) (by omega) (by decide) dX9_arc_82 ?_
              refine r_lay (lay_wI hL _ _ _) (fun hL => ?_)
              refine r_aload_n dX9_arc_83 rfl ?_
              refine r_dup dX9_arc_84 rfl ?_
              refine r_getE (nI (gs g 2)) kX9 (k := 2) (by decide) rfl fl_X9_118 (lay_ok hL rfl) dX9_arc_85 (by rw [mI_wI_n _ _ _ (by decide), mI_wI_n _ _ _ (by decide), mI_wI_n _ _ _ (by decide)]; exact s2) ?_
              refine r_iconst (1) dX9_arc_88 (by decide) ?_
              refine r_iadd dX9_arc_89 ?_
              refine r_top (nI (gs g 2 + 1)) (nI_1 _) ?_
              refine r_putI kX9 (k := 2) (by decide) rfl (Or.inl rfl) fl_X9_118 (lay_ok hL rfl) ⟨rfl, rfl⟩ dX9_arc_90 ?_
              refine r_lay (lay_wI hL _ _ _) (fun hL => ?_)
              refine r_aload_n dX9_arc_93 rfl ?_
              refine r_getE (nI (gs g 2 + 1)) kX9 (k := 2) (by decide) rfl fl_X9_118 (lay_ok hL rfl) dX9_arc_94 (by simp [mI_wI]) ?_
              refine r_iconst (1) dX9_arc_97 (by decide) ?_
              refine r_isub dX9_arc_98 ?_
              refine r_top (nI (gs g 2)) (nI_pred _) ?_
              exact r_iret (Or.inl rfl) dX9_arc_99 ⟨(congrArg (fun q : Int32 × tG => some (Value.int q.1)) hk).symm, by rw [hk]; exact hq, hL, ((((am_fr.wI _ _ ⟨by decide, by decide⟩).tr (am_fr.wI _ _ ⟨by decide, by decide⟩)).tr (am_fr.wI _ _ ⟨by decide, by decide⟩)).tr (am_fr.wI _ _ ⟨by decide, by decide⟩))⟩
set_option maxHeartbeats 4000000 in
set_option maxRecDepth 100000 in
theorem k_X9_kind {l : Launch} {X : Nat × (Nat → Int32)} {M : am_M} (hL : Lay M) {g : tG} {c0 : Nat} (hA : absM M g) (hI : gI c0 g) {x : Int32} : am_C l yX9_kind cX9_kind 3 (some .int) 1 0 0 X [.ref 93, .int x] M (fun v M' => v = some (.int (k_kind x g).1) ∧ absM M' (k_kind x g).2 ∧ Lay M' ∧ am_fr rS M M') := by
  refine am_C.of (by decide) (by simp [Value.category, va_rf]) (Nat.le_of_ble_eq_true rfl) ?_
  have hB := hI.1
  obtain ⟨b0, b1, b2, b3, b4, b5, b6, b7, b8, b9, bV, bA, bN, bl, bn, bh⟩ := id hB
  obtain ⟨s0, s1, s2, s3, s4, s5, s6, s7, s8, s9⟩ := hA.1
  have s18 := hA.2.2.2.2.1.1
  have hL0 := hL
  rcases inN_cases x (k := 4) (by decide) with ⟨e, c⟩ | ⟨j, hj, rfl, e⟩
  · have hk : k_kind x g = (-1, g) := by simp only [k_kind, e]
    refine r_iload_n dX9_kind_0 rfl ?_
    refine r_iconst (0) dX9_kind_1 (by decide) ?_
    refine r_iconst (3) dX9_kind_2 (by decide) ?_
    refine r_cS ca_yX9_in ml_X9_143 sm_yX9_in (c_X9_in hL) ⟨by decide, by decide⟩ (by first | decide | omega) (by first | decide | omega) rfl (Nat.le_of_ble_eq_true rfl) dX9_kind_3 ?_
    refine r_top 0 (by rcases c with c | c; rw [if_pos c]; rw [if_neg c.1, if_pos (Int32.not_le.mp (le_34 c.2))]) ?_
    refine r_if_ne 11 dX9_kind_6 (by decide) (fun hq => absurd (by decide) hq) (fun _ => ?_)
    refine r_iconst (-1) dX9_kind_9 (by decide) ?_
    exact r_iret (Or.inl rfl) dX9_kind_10 ⟨by rw [hk], by rw [hk]; exact hA, hL0, am_fr.rf⟩
  · by_cases c6 : gs g 6 = 1
    · have hk : k_kind (nI j) g = (-2, g) := by simp only [k_kind, e, if_pos c6]
      refine r_iload_n dX9_kind_0 rfl ?_
      refine r_iconst (0) dX9_kind_1 (by decide) ?_
      refine r_iconst (3) dX9_kind_2 (by decide) ?_
      refine r_cS ca_yX9_in ml_X9_143 sm_yX9_in (c_X9_in hL) ⟨by decide, by decide⟩ (by first | decide | omega) (by first | decide | omega) rfl (Nat.le_of_ble_eq_true rfl) dX9_kind_3 ?_
      refine r_top 1 (by rw [if_neg (nI_pos (by omega)), if_neg (show ¬ (3 : Int32) < nI j from nI_nlt (a := 3) (by omega) (by decide))]) ?_
      refine r_if_ne 11 dX9_kind_6 (by decide) (fun _ => ?_) (fun hq => absurd hq (by decide))
      refine r_aload_n dX9_kind_11 rfl ?_
      refine r_getE (1) kX9 (k := 6) (by decide) rfl fl_X9_131 (lay_ok hL rfl) dX9_kind_12 (by rw [s6, c6]; rfl) ?_
      refine r_if_eq 21 dX9_kind_15 (by decide) (fun hq => absurd hq (by decide)) (fun _ => ?_)
      refine r_bipush (-2) dX9_kind_18 (by decide) ?_
      exact r_iret (Or.inl rfl) dX9_kind_20 ⟨by rw [hk], by rw [hk]; exact hA, hL0, am_fr.rf⟩
    · have hk : k_kind (nI j) g = (nI (gs g 3), us (us g 3 j) 4 0) := by simp only [k_kind, e, if_neg c6]
      have hq1 := absM_s (f := 3) (j := 3) hL0.1 hA j (by simp)
      have hq2 := absM_s (M := wI M 93 3 (nI j)) (f := 4) (j := 4) hL0.1 hq1 0 (by simp)
      refine r_iload_n dX9_kind_0 rfl ?_
      refine r_iconst (0) dX9_kind_1 (by decide) ?_
      refine r_iconst (3) dX9_kind_2 (by decide) ?_
      refine r_cS ca_yX9_in ml_X9_143 sm_yX9_in (c_X9_in hL) ⟨by decide, by decide⟩ (by first | decide | omega) (by first | decide | omega) rfl (Nat.le_of_ble_eq_true rfl) dX9_kind_3 ?_
      refine r_top 1 (by rw [if_neg (nI_pos (by omega)), if_neg (show ¬ (3 : Int32) < nI j from nI_nlt (a := 3) (by omega) (by decide))]) ?_
      refine r_if_ne 11 dX9_kind_6 (by decide) (fun _ => ?_) (fun hq => absurd hq (by decide))
      refine r_aload_n dX9_kind_11 rfl ?_
      refine r_getE (0) kX9 (k := 6) (by decide) rfl fl_X9_131 (lay_ok hL rfl) dX9_kind_12 (by rw [s6, bool01 b7 c6]; rfl) ?_
      refine r_if_eq 21 dX9_kind_15 (by decide) (fun _ => ?_) (fun hq => absurd (by decide) hq)
      refine r_aload_n dX9_kind_21 rfl ?_
      refine r_getE (nI (gs g 3)) kX9 (k := 3) (by decide) rfl fl_X9_121 (lay_ok hL rfl) dX9_kind_22 s3 ?_
      refine r_istore_n _ dX9_kind_25 (by decide) rfl ?_
      refine r_aload_n dX9_kind_26 rfl ?_
      refine r_iload_n dX9_kind_27 rfl ?_
      refine r_putI kX9 (k := 3) (by decide) rfl (Or.inl rfl) fl_X9_121 (lay_ok hL rfl) ⟨rfl, rfl⟩ dX9_kind_28 ?_
      refine r_lay (lay_wI hL _ _ _) (fun hL => ?_)
      refine r_aload_n dX9_kind_31 rfl ?_
      refine r_iconst (0) dX9_kind_32 (by decide) ?_
      refine r_putI kX9 (k := 4) (by decide) rfl (Or.inl rfl) fl_X9_124 (lay_ok hL rfl) (by decide) dX9_kind_33 ?_
      refine r_lay (lay_wI hL _ _ _) (fun hL => ?_)
      refine r_iload_n dX9_kind_36 rfl ?_
      exact r_iret (Or.inl rfl) dX9_kind_37 ⟨(congrArg (fun q : Int32 × tG => some (Value.int q.1)) hk).symm, by rw [hk]; exact hq2, hL, ((am_fr.wI _ _ ⟨by decide, by decide⟩).tr (am_fr.wI _ _ ⟨by decide, by decide⟩))⟩
set_option maxHeartbeats 4000000 in
set_option maxRecDepth 100000 in
theorem k_X9_every {l : Launch} {X : Nat × (Nat → Int32)} {M : am_M} (hL : Lay M) {g : tG} {c0 : Nat} (hA : absM M g) (hI : gI c0 g) {x : Int32} : am_C l yX9_every cX9_every 3 (some .int) 1 0 0 X [.ref 93, .int x] M (fun v M' => v = some (.int (k_every x g).1) ∧ absM M' (k_every x g).2 ∧ Lay M' ∧ am_fr rS M M') := by
  refine am_C.of (by decide) (by simp [Value.category, va_rf]) (Nat.le_of_ble_eq_true rfl) ?_
  have hB := hI.1
  obtain ⟨b0, b1, b2, b3, b4, b5, b6, b7, b8, b9, bV, bA, bN, bl, bn, bh⟩ := id hB
  obtain ⟨s0, s1, s2, s3, s4, s5, s6, s7, s8, s9⟩ := hA.1
  have s18 := hA.2.2.2.2.1.1
  have hL0 := hL
  rcases inN_cases x (k := 51) (by decide) with ⟨e, c⟩ | ⟨j, hj, rfl, e⟩
  · have hk : k_every x g = (-1, g) := by simp only [k_every, e]
    refine r_iload_n dX9_every_0 rfl ?_
    refine r_iconst (0) dX9_every_1 (by decide) ?_
    refine r_bipush (50) dX9_every_2 (by decide) ?_
    refine r_cS ca_yX9_in ml_X9_143 sm_yX9_in (c_X9_in hL) ⟨by decide, by decide⟩ (by first | decide | omega) (by first | decide | omega) rfl (Nat.le_of_ble_eq_true rfl) dX9_every_4 ?_
    refine r_top 0 (by rcases c with c | c; rw [if_pos c]; rw [if_neg c.1, if_pos (Int32.not_le.mp (le_50 c.2))]) ?_
    refine r_if_ne 12 dX9_every_7 (by decide) (fun hq => absurd (by decide) hq) (fun _ => ?_)
    refine r_iconst (-1) dX9_every_10 (by decide) ?_
    exact r_iret (Or.inl rfl) dX9_every_11 ⟨by rw [hk], by rw [hk]; exact hA, hL0, am_fr.rf⟩
  · by_cases c6 : gs g 6 = 1
    · have hk : k_every (nI j) g = (-2, g) := by simp only [k_every, e, if_pos c6]
      refine r_iload_n dX9_every_0 rfl ?_
      refine r_iconst (0) dX9_every_1 (by decide) ?_
      refine r_bipush (50) dX9_every_2 (by decide) ?_
      refine r_cS ca_yX9_in ml_X9_143 sm_yX9_in (c_X9_in hL) ⟨by decide, by decide⟩ (by first | decide | omega) (by first | decide | omega) rfl (Nat.le_of_ble_eq_true rfl) dX9_every_4 ?_
      refine r_top 1 (by rw [if_neg (nI_pos (by omega)), if_neg (show ¬ (50 : Int32) < nI j from nI_nlt (a := 50) (by omega) (by decide))]) ?_
      refine r_if_ne 12 dX9_every_7 (by decide) (fun _ => ?_) (fun hq => absurd hq (by decide))
      refine r_aload_n dX9_every_12 rfl ?_
      refine r_getE (1) kX9 (k := 6) (by decide) rfl fl_X9_131 (lay_ok hL rfl) dX9_every_13 (by rw [s6, c6]; rfl) ?_
      refine r_if_eq 22 dX9_every_16 (by decide) (fun hq => absurd hq (by decide)) (fun _ => ?_)
      refine r_bipush (-2) dX9_every_19 (by decide) ?_
      exact r_iret (Or.inl rfl) dX9_every_21 ⟨by rw [hk], by rw [hk]; exact hA, hL0, am_fr.rf⟩
    · have hk : k_every (nI j) g = (nI (gs g 5), us g 5 j) := by simp only [k_every, e, if_neg c6]
      have hq := absM_s (f := 5) (j := 5) hL0.1 hA j (by simp)
      refine r_iload_n dX9_every_0 rfl ?_
      refine r_iconst (0) dX9_every_1 (by decide) ?_
      refine r_bipush (50) dX9_every_2 (by decide) ?_
      refine r_cS ca_yX9_in ml_X9_143 sm_yX9_in (c_X9_in hL) ⟨by decide, by decide⟩ (by first | decide | omega) (by first | decide | omega) rfl (Nat.le_of_ble_eq_true rfl) dX9_every_4 ?_
      refine r_top 1 (by rw [if_neg (nI_pos (by omega)), if_neg (show ¬ (50 : Int32) < nI j from nI_nlt (a := 50) (by omega) (by decide))]) ?_
      refine r_if_ne 12 dX9_every_7 (by decide) (fun _ => ?_) (fun hq => absurd hq (by decide))
      refine r_aload_n dX9_every_12 rfl ?_
      refine r_getE (0) kX9 (k := 6) (by decide) rfl fl_X9_131 (lay_ok hL rfl) dX9_every_13 (by rw [s6, bool01 b7 c6]; rfl) ?_
      refine r_if_eq 22 dX9_every_16 (by decide) (fun _ => ?_) (fun hq => absurd (by decide) hq)
      refine r_aload_n dX9_every_22 rfl ?_
      refine r_getE (nI (gs g 5)) kX9 (k := 5) (by decide) rfl fl_X9_128 (lay_ok hL rfl) dX9_every_23 s5 ?_
      refine r_istore_n _ dX9_every_26 (by decide) rfl ?_
      refine r_aload_n dX9_every_27 rfl ?_
      refine r_iload_n dX9_every_28 rfl ?_
      refine r_putI kX9 (k := 5) (by decide) rfl (Or.inl rfl) fl_X9_128 (lay_ok hL rfl) ⟨rfl, rfl⟩ dX9_every_29 ?_
      refine r_lay (lay_wI hL _ _ _) (fun hL => ?_)
      refine r_iload_n dX9_every_32 rfl ?_
      exact r_iret (Or.inl rfl) dX9_every_33 ⟨(congrArg (fun q : Int32 × tG => some (Value.int q.1)) hk).symm, by rw [hk]; exact hq, hL, (am_fr.wI _ _ ⟨by decide, by decide⟩)⟩
set_option maxHeartbeats 4000000 in
set_option maxRecDepth 100000 in
theorem k_X9_joined {l : Launch} {X : Nat × (Nat → Int32)} {M : am_M} (hL : Lay M) {g : tG} {c0 : Nat} (hA : absM M g) (hI : gI c0 g) {b : Nat} (hb : b ≤ 1) : am_C l yX9_joined cX9_joined 3 (some .int) 0 0 0 X [.ref 93, .int (nI b)] M (fun v M' => v = some (.int (k_joined b g).1) ∧ absM M' (k_joined b g).2 ∧ Lay M' ∧ am_fr rS M M') := by
  refine am_C.of (by decide) (by simp [Value.category, va_rf]) (Nat.le_of_ble_eq_true rfl) ?_
  have hB := hI.1
  obtain ⟨b0, b1, b2, b3, b4, b5, b6, b7, b8, b9, bV, bA, bN, bl, bn, bh⟩ := id hB
  obtain ⟨s0, s1, s2, s3, s4, s5, s6, s7, s8, s9⟩ := hA.1
  have s18 := hA.2.2.2.2.1.1
  have hL0 := hL
  have hq := fun b => absM_s (f := 4) (j := 4) hL0.1 hA b (by simp)
  by_cases c3 : gs g 3 = 3
  · rcases (show b = 0 ∨ b = 1 by omega) with rfl | rfl
    · have hk : k_joined 0 g = (nI (gs g 4), us g 4 0) := if_neg (by omega)
      rcases (show gs g 4 = 0 ∨ gs g 4 = 1 by omega) with c4 | c4
      · rw [c4] at hk
        refine r_iload_n dX9_joined_0 rfl ?_
        refine r_if_eq 15 dX9_joined_1 (by decide) (fun _ => ?_) (fun hq => absurd (by decide) hq)
        refine r_aload_n dX9_joined_15 rfl ?_
        refine r_getE (0) kX9 (k := 4) (by decide) rfl fl_X9_124 (lay_ok hL rfl) dX9_joined_16 (by rw [s4, c4]; rfl) ?_
        refine r_if_eq 26 dX9_joined_19 (by decide) (fun _ => ?_) (fun hq => absurd (by decide) hq)
        refine r_iconst (0) dX9_joined_26 (by decide) ?_
        refine r_istore_n _ dX9_joined_27 (by decide) rfl ?_
        refine r_aload_n dX9_joined_28 rfl ?_
        refine r_iload_n dX9_joined_29 rfl ?_
        refine r_putI kX9 (k := 4) (by decide) rfl (Or.inl rfl) fl_X9_124 (lay_ok hL rfl) (by decide) dX9_joined_30 ?_
        refine r_lay (lay_wI hL _ _ _) (fun hL => ?_)
        refine r_iload_n dX9_joined_33 rfl ?_
        exact r_iret (Or.inl rfl) dX9_joined_34 ⟨(congrArg (fun q : Int32 × tG => some (Value.int q.1)) hk).symm, by rw [hk]; exact hq 0, hL, (am_fr.wI _ _ ⟨by decide, by decide⟩)⟩
      · rw [c4] at hk
        refine r_iload_n dX9_joined_0 rfl ?_
        refine r_if_eq 15 dX9_joined_1 (by decide) (fun _ => ?_) (fun hq => absurd (by decide) hq)
        refine r_aload_n dX9_joined_15 rfl ?_
        refine r_getE (1) kX9 (k := 4) (by decide) rfl fl_X9_124 (lay_ok hL rfl) dX9_joined_16 (by rw [s4, c4]; rfl) ?_
        refine r_if_eq 26 dX9_joined_19 (by decide) (fun hq => absurd hq (by decide)) (fun _ => ?_)
        refine r_iconst (1) dX9_joined_22 (by decide) ?_
        refine r_goto 27 dX9_joined_23 (by decide) ?_
        refine r_istore_n _ dX9_joined_27 (by decide) rfl ?_
        refine r_aload_n dX9_joined_28 rfl ?_
        refine r_iload_n dX9_joined_29 rfl ?_
        refine r_putI kX9 (k := 4) (by decide) rfl (Or.inl rfl) fl_X9_124 (lay_ok hL rfl) (by decide) dX9_joined_30 ?_
        refine r_lay (lay_wI hL _ _ _) (fun hL => ?_)
        refine r_iload_n dX9_joined_33 rfl ?_
        exact r_iret (Or.inl rfl) dX9_joined_34 ⟨(congrArg (fun q : Int32 × tG => some (Value.int q.1)) hk).symm, by rw [hk]; exact hq 0, hL, (am_fr.wI _ _ ⟨by decide, by decide⟩)⟩
    · have hk : k_joined 1 g = (-2, g) := if_pos ⟨rfl, c3⟩
      refine r_iload_n dX9_joined_0 rfl ?_
      refine r_if_eq 15 dX9_joined_1 (by decide) (fun hq => absurd hq (by decide)) (fun _ => ?_)
      refine r_aload_n dX9_joined_4 rfl ?_
      refine r_getE (nI (gs g 3)) kX9 (k := 3) (by decide) rfl fl_X9_121 (lay_ok hL rfl) dX9_joined_5 s3 ?_
      refine r_iconst (nI 3) dX9_joined_8 (by decide) ?_
      refine r_icmp_ne 15 dX9_joined_9 (by decide) (fun hq => absurd (by rw [c3]) hq) (fun _ => ?_)
      refine r_bipush (-2) dX9_joined_12 (by decide) ?_
      exact r_iret (Or.inl rfl) dX9_joined_14 ⟨by rw [hk], by rw [hk]; exact hA, hL0, am_fr.rf⟩
  · rcases (show b = 0 ∨ b = 1 by omega) with rfl | rfl
    · have hk : k_joined 0 g = (nI (gs g 4), us g 4 0) := if_neg (by omega)
      rcases (show gs g 4 = 0 ∨ gs g 4 = 1 by omega) with c4 | c4
      · rw [c4] at hk
        refine r_iload_n dX9_joined_0 rfl ?_
        refine r_if_eq 15 dX9_joined_1 (by decide) (fun _ => ?_) (fun hq => absurd (by decide) hq)
        refine r_aload_n dX9_joined_15 rfl ?_
        refine r_getE (0) kX9 (k := 4) (by decide) rfl fl_X9_124 (lay_ok hL rfl) dX9_joined_16 (by rw [s4, c4]; rfl) ?_
        refine r_if_eq 26 dX9_joined_19 (by decide) (fun _ => ?_) (fun hq => absurd (by decide) hq)
        refine r_iconst (0) dX9_joined_26 (by decide) ?_
        refine r_istore_n _ dX9_joined_27 (by decide) rfl ?_
        refine r_aload_n dX9_joined_28 rfl ?_
        refine r_iload_n dX9_joined_29 rfl ?_
        refine r_putI kX9 (k := 4) (by decide) rfl (Or.inl rfl) fl_X9_124 (lay_ok hL rfl) (by decide) dX9_joined_30 ?_
        refine r_lay (lay_wI hL _ _ _) (fun hL => ?_)
        refine r_iload_n dX9_joined_33 rfl ?_
        exact r_iret (Or.inl rfl) dX9_joined_34 ⟨(congrArg (fun q : Int32 × tG => some (Value.int q.1)) hk).symm, by rw [hk]; exact hq 0, hL, (am_fr.wI _ _ ⟨by decide, by decide⟩)⟩
      · rw [c4] at hk
        refine r_iload_n dX9_joined_0 rfl ?_
        refine r_if_eq 15 dX9_joined_1 (by decide) (fun _ => ?_) (fun hq => absurd (by decide) hq)
        refine r_aload_n dX9_joined_15 rfl ?_
        refine r_getE (1) kX9 (k := 4) (by decide) rfl fl_X9_124 (lay_ok hL rfl) dX9_joined_16 (by rw [s4, c4]; rfl) ?_
        refine r_if_eq 26 dX9_joined_19 (by decide) (fun hq => absurd hq (by decide)) (fun _ => ?_)
        refine r_iconst (1) dX9_joined_22 (by decide) ?_
        refine r_goto 27 dX9_joined_23 (by decide) ?_
        refine r_istore_n _ dX9_joined_27 (by decide) rfl ?_
        refine r_aload_n dX9_joined_28 rfl ?_
        refine r_iload_n dX9_joined_29 rfl ?_
        refine r_putI kX9 (k := 4) (by decide) rfl (Or.inl rfl) fl_X9_124 (lay_ok hL rfl) (by decide) dX9_joined_30 ?_
        refine r_lay (lay_wI hL _ _ _) (fun hL => ?_)
        refine r_iload_n dX9_joined_33 rfl ?_
        exact r_iret (Or.inl rfl) dX9_joined_34 ⟨(congrArg (fun q : Int32 × tG => some (Value.int q.1)) hk).symm, by rw [hk]; exact hq 0, hL, (am_fr.wI _ _ ⟨by decide, by decide⟩)⟩
    · have hk : k_joined 1 g = (nI (gs g 4), us g 4 1) := if_neg (by omega)
      rcases (show gs g 4 = 0 ∨ gs g 4 = 1 by omega) with c4 | c4
      · rw [c4] at hk
        refine r_iload_n dX9_joined_0 rfl ?_
        refine r_if_eq 15 dX9_joined_1 (by decide) (fun hq => absurd hq (by decide)) (fun _ => ?_)
        refine r_aload_n dX9_joined_4 rfl ?_
        refine r_getE (nI (gs g 3)) kX9 (k := 3) (by decide) rfl fl_X9_121 (lay_ok hL rfl) dX9_joined_5 s3 ?_
        refine r_iconst (nI 3) dX9_joined_8 (by decide) ?_
        refine r_icmp_ne 15 dX9_joined_9 (by decide) (fun _ => ?_) (fun hq => absurd hq (fun z => c3 ((nI_eq (by omega) (by decide)).mp z)))
        refine r_aload_n dX9_joined_15 rfl ?_
        refine r_getE (0) kX9 (k := 4) (by decide) rfl fl_X9_124 (lay_ok hL rfl) dX9_joined_16 (by rw [s4, c4]; rfl) ?_
        refine r_if_eq 26 dX9_joined_19 (by decide) (fun _ => ?_) (fun hq => absurd (by decide) hq)
        refine r_iconst (0) dX9_joined_26 (by decide) ?_
        refine r_istore_n _ dX9_joined_27 (by decide) rfl ?_
        refine r_aload_n dX9_joined_28 rfl ?_
        refine r_iload_n dX9_joined_29 rfl ?_
        refine r_putI kX9 (k := 4) (by decide) rfl (Or.inl rfl) fl_X9_124 (lay_ok hL rfl) (by decide) dX9_joined_30 ?_
        refine r_lay (lay_wI hL _ _ _) (fun hL => ?_)
        refine r_iload_n dX9_joined_33 rfl ?_
        exact r_iret (Or.inl rfl) dX9_joined_34 ⟨(congrArg (fun q : Int32 × tG => some (Value.int q.1)) hk).symm, by rw [hk]; exact hq 1, hL, (am_fr.wI _ _ ⟨by decide, by decide⟩)⟩
      · rw [c4] at hk
        refine r_iload_n dX9_joined_0 rfl ?_
        refine r_if_eq 15 dX9_joined_1 (by decide) (fun hq => absurd hq (by decide)) (fun _ => ?_)
        refine r_aload_n dX9_joined_4 rfl ?_
        refine r_getE (nI (gs g 3)) kX9 (k := 3) (by decide) rfl fl_X9_121 (lay_ok hL rfl) dX9_joined_5 s3 ?_
        refine r_iconst (nI 3) dX9_joined_8 (by decide) ?_
        refine r_icmp_ne 15 dX9_joined_9 (by decide) (fun _ => ?_) (fun hq => absurd hq (fun z => c3 ((nI_eq (by omega) (by decide)).mp z)))
        refine r_aload_n dX9_joined_15 rfl ?_
        refine r_getE (1) kX9 (k := 4) (by decide) rfl fl_X9_124 (lay_ok hL rfl) dX9_joined_16 (by rw [s4, c4]; rfl) ?_
        refine r_if_eq 26 dX9_joined_19 (by decide) (fun hq => absurd hq (by decide)) (fun _ => ?_)
        refine r_iconst (1) dX9_joined_22 (by decide) ?_
        refine r_goto 27 dX9_joined_23 (by decide) ?_
        refine r_istore_n _ dX9_joined_27 (by decide) rfl ?_
        refine r_aload_n dX9_joined_28 rfl ?_
        refine r_iload_n dX9_joined_29 rfl ?_
        refine r_putI kX9 (k := 4) (by decide) rfl (Or.inl rfl) fl_X9_124 (lay_ok hL rfl) (by decide) dX9_joined_30 ?_
        refine r_lay (lay_wI hL _ _ _) (fun hL => ?_)
        refine r_iload_n dX9_joined_33 rfl ?_
        exact r_iret (Or.inl rfl) dX9_joined_34 ⟨(congrArg (fun q : Int32 × tG => some (Value.int q.1)) hk).symm, by rw [hk]; exact hq 1, hL, (am_fr.wI _ _ ⟨by decide, by decide⟩)⟩
set_option maxHeartbeats 4000000 in
set_option maxRecDepth 100000 in
theorem l_X9_start {l : Launch} {X : Nat × (Nat → Int32)} {M : am_M} {g : tG} {c0 : Nat} (hI : gI c0 g) (c6 : gs g 6 = 0) : ∀ (k i : Nat) (N : am_M), i + k = gs g 0 → Lay N → absM N (startP g i) → am_fr rS M N → am_V l yX9_start cX9_start 2 (some .int) (am_R 4 0 0) 0 0 X (fun v M' => v = some (.int (k_start g).1) ∧ absM M' (k_start g).2 ∧ Lay M' ∧ am_fr rS M M') 0 0 17 [some (.ref 93), some (.int (nI i))] [] N := by
  intro k
  have hB := hI.1
  have b1 : gs g 0 ≤ 5 := hB.2.1
  have hk : k_start g = (nI (gn (g_start g)).length, g_start g) := if_neg (by omega)
  induction k with
  | zero =>
    intro i N hi hL hA hf
    obtain rfl : i = gs g 0 := by omega
    have s0 := hA.1.1
    rw [(startP_i hB (gs g 0) (Nat.le_refl _)).2.1 0 (by decide)] at s0
    have s0 : mI N 93 0 = nI (gs g 0) := s0
    have hA : absM N (g_start g) := hA
    refine r_iload_n dX9_start_17 rfl ?_
    refine r_aload_n dX9_start_18 rfl ?_
    refine r_getE (nI (gs g 0)) kX9 (k := 0) (by decide) rfl fl_X9_7 (lay_ok hL rfl) dX9_start_19 s0 ?_
    refine r_icmp_ge 37 dX9_start_22 (by decide) (fun _ => ?_) (fun hq => absurd (nI_le (Nat.le_refl _) (by omega)) hq)
    refine r_aload_n dX9_start_37 rfl ?_
    refine r_getE (nI (gn (g_start g)).length) kX9 (k := 18) (by decide) rfl fl_X9_134 (lay_ok hL rfl) dX9_start_38 hA.2.2.2.2.1.1 ?_
    exact r_iret (Or.inl rfl) dX9_start_41 ⟨by rw [hk], by rw [hk]; exact hA, hL, hf⟩
  | succ k ih =>
    intro i N hi hL hA hf
    obtain ⟨p1, p2, p3⟩ := startP_i hB i (by omega)
    have s0 := hA.1.1
    rw [p2 0 (by decide)] at s0
    have s0 : mI N 93 0 = nI (gs g 0) := s0
    have hn : i < gs (startP g i) 0 := by rw [p2 0 (by decide)]; show i < gs g 0; omega
    refine r_iload_n dX9_start_17 rfl ?_
    refine r_aload_n dX9_start_18 rfl ?_
    refine r_getE (nI (gs g 0)) kX9 (k := 0) (by decide) rfl fl_X9_7 (lay_ok hL rfl) dX9_start_19 s0 ?_
    refine r_icmp_ge 37 dX9_start_22 (by decide) (fun hq => absurd hq (nI_ge (by omega) (by omega))) (fun _ => ?_)
    refine r_aload_n dX9_start_25 rfl ?_
    refine r_iload_n dX9_start_26 rfl ?_
    refine r_iconst (nI 0) dX9_start_27 (by decide) ?_
    refine r_callV ca_yX9_come ml_X9_205 im_yX9_come se_yX9_come (by decide) rfl (lay_ok hL rfl) (c_X9_come hL hA p1 hn (by decide)) ⟨by decide, by decide⟩ (by first | decide | omega) (by first | decide | omega) rfl (Nat.le_of_ble_eq_true rfl) dX9_start_28 (fun v0 M1 hp1 => ?_)
    obtain ⟨rfl, hA2, hL2, hf2⟩ := hp1
    refine r_iinc (nI (i + 1)) _ dX9_start_31 (by decide) rfl (nI_1 _) rfl ?_
    refine r_goto 17 dX9_start_34 (by decide) ?_
    exact ih (i + 1) M1 (by omega) hL2 hA2 (hf.tr hf2)
set_option maxHeartbeats 4000000 in
set_option maxRecDepth 100000 in
theorem k_X9_start {l : Launch} {X : Nat × (Nat → Int32)} {M : am_M} (hL : Lay M) {g : tG} {c0 : Nat} (hA : absM M g) (hI : gI c0 g) : am_C l yX9_start cX9_start 2 (some .int) 4 0 0 X [.ref 93] M (fun v M' => v = some (.int (k_start g).1) ∧ absM M' (k_start g).2 ∧ Lay M' ∧ am_fr rS M M') := by
  refine am_C.of (by decide) (by simp [Value.category, va_rf]) (Nat.le_of_ble_eq_true rfl) ?_
  have hB := hI.1
  obtain ⟨b0, b1, b2, b3, b4, b5, b6, b7, b8, b9, bV, bA, bN, bl, bn, bh⟩ := id hB
  obtain ⟨s0, s1, s2, s3, s4, s5, s6, s7, s8, s9⟩ := hA.1
  have s18 := hA.2.2.2.2.1.1
  have hL0 := hL
  by_cases c6 : gs g 6 = 1
  · have hk : k_start g = (-2, g) := if_pos c6
    refine r_aload_n dX9_start_0 rfl ?_
    refine r_getE (1) kX9 (k := 6) (by decide) rfl fl_X9_131 (lay_ok hL rfl) dX9_start_1 (by rw [s6, c6]; rfl) ?_
    refine r_if_eq 10 dX9_start_4 (by decide) (fun hq => absurd hq (by decide)) (fun _ => ?_)
    refine r_bipush (-2) dX9_start_7 (by decide) ?_
    exact r_iret (Or.inl rfl) dX9_start_9 ⟨by rw [hk], by rw [hk]; exact hA, hL0, am_fr.rf⟩
  · have c0 : gs g 6 = 0 := bool01 b7 c6
    have hA0 := absM_s (f := 6) (j := 6) hL0.1 hA 1 (by simp)
    refine r_aload_n dX9_start_0 rfl ?_
    refine r_getE (0) kX9 (k := 6) (by decide) rfl fl_X9_131 (lay_ok hL rfl) dX9_start_1 (by rw [s6, bool01 b7 c6]; rfl) ?_
    refine r_if_eq 10 dX9_start_4 (by decide) (fun _ => ?_) (fun hq => absurd (by decide) hq)
    refine r_aload_n dX9_start_10 rfl ?_
    refine r_iconst (1) dX9_start_11 (by decide) ?_
    refine r_putI kX9 (k := 6) (by decide) rfl (Or.inl rfl) fl_X9_131 (lay_ok hL rfl) (by decide) dX9_start_12 ?_
    refine r_lay (lay_wI hL _ _ _) (fun hL => ?_)
    refine r_iconst (nI 0) dX9_start_15 (by decide) ?_
    refine r_istore_n _ dX9_start_16 (by decide) rfl ?_
    exact l_X9_start hI c0 (gs g 0) 0 _ (by omega) hL hA0 (am_fr.wI _ _ ⟨by decide, by decide⟩)
set_option maxHeartbeats 4000000 in
set_option maxRecDepth 100000 in
theorem k_X9_letter {l : Launch} {X : Nat × (Nat → Int32)} {M : am_M} (hL : Lay M) {g : tG} {c0 : Nat} (hA : absM M g) (hI : gI c0 g) {x y : Int32} : am_F l yX9_letter cX9_letter 3 (some .int) 2 0 0 X [.ref 93, .int x, .int y] M (some (.int (k_letter x y g))) M := by
  refine am_C.of (by decide) (by simp [Value.category, va_rf]) (Nat.le_of_ble_eq_true rfl) ?_
  have hB := hI.1
  obtain ⟨b0, b1, b2, b3, b4, b5, b6, b7, b8, b9, bV, bA, bN, bl, bn, bh⟩ := id hB
  obtain ⟨s0, s1, s2, s3, s4, s5, s6, s7, s8, s9⟩ := hA.1
  have s18 := hA.2.2.2.2.1.1
  have hL0 := hL
  rcases inN_cases x (k := (gn g).length) (by omega) with ⟨e, c⟩ | ⟨i, hi, rfl, e⟩
  · have hk : k_letter x y g = -1 := by simp only [k_letter, e]
    refine r_aload_n dX9_letter_0 rfl ?_
    refine r_iload_n dX9_letter_1 rfl ?_
    refine r_cV ca_yX9_isLetter ml_X9_208 im_yX9_isLetter se_yX9_isLetter (by decide) rfl (lay_ok hL rfl) (c_X9_isLetter hL s18 (by omega)) ⟨by decide, by decide⟩ (by first | decide | omega) (by first | decide | omega) rfl (Nat.le_of_ble_eq_true rfl) dX9_letter_2 ?_
    refine r_top 0 (inN_no c) ?_
    refine r_if_eq 17 dX9_letter_5 (by decide) (fun _ => ?_) (fun hq => absurd (by decide) hq)
    refine r_iconst (-1) dX9_letter_17 (by decide) ?_
    exact r_iret (Or.inl rfl) dX9_letter_18 ⟨(congrArg (fun q : Int32 => some (Value.int q)) hk).symm, rfl⟩
  · obtain ⟨t, ht⟩ : ∃ t, (gn g)[i]? = some t := ⟨_, List.getElem?_eq_getElem hi⟩
    obtain ⟨y0, l3, l4, l5, l6, l7, l9, l8⟩ := id (hA.2.2.2.2.1.2 i t ht)
    have tk := bn t (List.mem_of_getElem? ht)
    have hk : k_letter (nI i) y g = t_says t y := by simp only [k_letter, e, ht]
    by_cases c1 : y < 0
    · have hk : k_letter (nI i) y g = -1 := by rw [hk]; unfold t_says; rw [if_neg (fun z => absurd c1 (by rw [z]; decide)), if_neg (fun z => absurd c1 (by rw [z]; decide)), if_neg (fun z => absurd c1 (by rw [z]; decide)), if_neg (fun z => absurd c1 (by rw [z]; decide)), if_neg (fun z => absurd c1 (by rw [z]; decide)), if_neg (fun z => absurd c1 (by rw [z]; decide))]
      refine r_aload_n dX9_letter_0 rfl ?_
      refine r_iload_n dX9_letter_1 rfl ?_
      refine r_cV ca_yX9_isLetter ml_X9_208 im_yX9_isLetter se_yX9_isLetter (by decide) rfl (lay_ok hL rfl) (c_X9_isLetter hL s18 (by omega)) ⟨by decide, by decide⟩ (by first | decide | omega) (by first | decide | omega) rfl (Nat.le_of_ble_eq_true rfl) dX9_letter_2 ?_
      refine r_top 1 (inN_yes hi (by omega)) ?_
      refine r_if_eq 17 dX9_letter_5 (by decide) (fun hq => absurd hq (by decide)) (fun _ => ?_)
      refine r_iload_n dX9_letter_8 rfl ?_
      refine r_iconst (0) dX9_letter_9 (by decide) ?_
      refine r_iconst (5) dX9_letter_10 (by decide) ?_
      refine r_cS ca_yX9_in ml_X9_143 sm_yX9_in (c_X9_in hL) ⟨by decide, by decide⟩ (by first | decide | omega) (by first | decide | omega) rfl (Nat.le_of_ble_eq_true rfl) dX9_letter_11 ?_
      refine r_top 0 (if_pos c1) ?_
      refine r_if_ne 19 dX9_letter_14 (by decide) (fun hq => absurd (by decide) hq) (fun _ => ?_)
      refine r_iconst (-1) dX9_letter_17 (by decide) ?_
      exact r_iret (Or.inl rfl) dX9_letter_18 ⟨(congrArg (fun q : Int32 => some (Value.int q)) hk).symm, rfl⟩
    · by_cases c2 : 5 < y
      · have hk : k_letter (nI i) y g = -1 := by rw [hk]; unfold t_says; rw [if_neg (fun z => absurd c2 (by rw [z]; decide)), if_neg (fun z => absurd c2 (by rw [z]; decide)), if_neg (fun z => absurd c2 (by rw [z]; decide)), if_neg (fun z => absurd c2 (by rw [z]; decide)), if_neg (fun z => absurd c2 (by rw [z]; decide)), if_neg (fun z => absurd c2 (by rw [z]; decide))]
        refine r_aload_n dX9_letter_0 rfl ?_
        refine r_iload_n dX9_letter_1 rfl ?_
        refine r_cV ca_yX9_isLetter ml_X9_208 im_yX9_isLetter se_yX9_isLetter (by decide) rfl (lay_ok hL rfl) (c_X9_isLetter hL s18 (by omega)) ⟨by decide, by decide⟩ (by first | decide | omega) (by first | decide | omega) rfl (Nat.le_of_ble_eq_true rfl) dX9_letter_2 ?_
        refine r_top 1 (inN_yes hi (by omega)) ?_
        refine r_if_eq 17 dX9_letter_5 (by decide) (fun hq => absurd hq (by decide)) (fun _ => ?_)
        refine r_iload_n dX9_letter_8 rfl ?_
        refine r_iconst (0) dX9_letter_9 (by decide) ?_
        refine r_iconst (5) dX9_letter_10 (by decide) ?_
        refine r_cS ca_yX9_in ml_X9_143 sm_yX9_in (c_X9_in hL) ⟨by decide, by decide⟩ (by first | decide | omega) (by first | decide | omega) rfl (Nat.le_of_ble_eq_true rfl) dX9_letter_11 ?_
        refine r_top 0 ((if_neg c1).trans (if_pos c2)) ?_
        refine r_if_ne 19 dX9_letter_14 (by decide) (fun hq => absurd (by decide) hq) (fun _ => ?_)
        refine r_iconst (-1) dX9_letter_17 (by decide) ?_
        exact r_iret (Or.inl rfl) dX9_letter_18 ⟨(congrArg (fun q : Int32 => some (Value.int q)) hk).symm, rfl⟩
      · obtain ⟨q, hq, rfl⟩ : ∃ q, q ≤ 5 ∧ y = nI q := by
          obtain ⟨q, hq, rfl⟩ := nI_of c1
          exact ⟨q, Nat.le_of_not_lt (fun z => c2 (nI_lt (a := 5) z hq)), rfl⟩
        have hk2 : k_letter (nI i) (nI q) g = if q = 0 then nI t.2.2.1 else if q = 1 then nI t.2.2.2.1 else if q = 2 then nI t.2.1 else if q = 3 then nI t.1 else if q = 4 then nI t.2.2.2.2.2.length else nI t.2.2.2.2.1 := by
          rw [hk]
          rcases (show q = 0 ∨ q = 1 ∨ q = 2 ∨ q = 3 ∨ q = 4 ∨ q = 5 by omega) with rfl | rfl | rfl | rfl | rfl | rfl <;> rfl
        rw [hk2]
        refine r_aload_n dX9_letter_0 rfl ?_
        refine r_iload_n dX9_letter_1 rfl ?_
        refine r_cV ca_yX9_isLetter ml_X9_208 im_yX9_isLetter se_yX9_isLetter (by decide) rfl (lay_ok hL rfl) (c_X9_isLetter hL s18 (by omega)) ⟨by decide, by decide⟩ (by first | decide | omega) (by first | decide | omega) rfl (Nat.le_of_ble_eq_true rfl) dX9_letter_2 ?_
        refine r_top 1 (inN_yes hi (by omega)) ?_
        refine r_if_eq 17 dX9_letter_5 (by decide) (fun hq => absurd hq (by decide)) (fun _ => ?_)
        refine r_iload_n dX9_letter_8 rfl ?_
        refine r_iconst (0) dX9_letter_9 (by decide) ?_
        refine r_iconst (5) dX9_letter_10 (by decide) ?_
        refine r_cS ca_yX9_in ml_X9_143 sm_yX9_in (c_X9_in hL) ⟨by decide, by decide⟩ (by first | decide | omega) (by first | decide | omega) rfl (Nat.le_of_ble_eq_true rfl) dX9_letter_11 ?_
        refine r_top 1 ((if_neg c1).trans (if_neg c2)) ?_
        refine r_if_ne 19 dX9_letter_14 (by decide) (fun _ => ?_) (fun hq => absurd hq (by decide))
        refine r_iload_n dX9_letter_19 rfl ?_
        rcases (show q = 0 ∨ q = 1 ∨ q = 2 ∨ q = 3 ∨ q = 4 ∨ q = 5 by omega) with rfl | rfl | rfl | rfl | rfl | rfl
        · refine r_tableIn 56 dX9_letter_20 (by decide) (by decide) (off := 36) (by decide) (by decide) ?_
          refine r_aload_n dX9_letter_56 rfl ?_
          refine r_getF kX9 (k := 22) (by decide) rfl fl_X9_57 (lay_ok hL rfl) (lay_r hL rfl) dX9_letter_57 ?_
          refine r_iload_n dX9_letter_60 rfl ?_
          refine r_ialdE (nI t.2.2.1) (lay_ok hL rfl) (by omega) (by omega) dX9_letter_61 l5 ?_
          exact r_iret (Or.inl rfl) dX9_letter_62 ⟨rfl, rfl⟩
        · refine r_tableIn 63 dX9_letter_20 (by decide) (by decide) (off := 43) (by decide) (by decide) ?_
          refine r_aload_n dX9_letter_63 rfl ?_
          refine r_getF kX9 (k := 23) (by decide) rfl fl_X9_60 (lay_ok hL rfl) (lay_r hL rfl) dX9_letter_64 ?_
          refine r_iload_n dX9_letter_67 rfl ?_
          refine r_ialdE (nI t.2.2.2.1) (lay_ok hL rfl) (by omega) (by omega) dX9_letter_68 l6 ?_
          exact r_iret (Or.inl rfl) dX9_letter_69 ⟨rfl, rfl⟩
        · refine r_tableIn 70 dX9_letter_20 (by decide) (by decide) (off := 50) (by decide) (by decide) ?_
          refine r_aload_n dX9_letter_70 rfl ?_
          refine r_getF kX9 (k := 21) (by decide) rfl fl_X9_54 (lay_ok hL rfl) (lay_r hL rfl) dX9_letter_71 ?_
          refine r_iload_n dX9_letter_74 rfl ?_
          refine r_ialdE (nI t.2.1) (lay_ok hL rfl) (by omega) (by omega) dX9_letter_75 l4 ?_
          exact r_iret (Or.inl rfl) dX9_letter_76 ⟨rfl, rfl⟩
        · refine r_tableIn 77 dX9_letter_20 (by decide) (by decide) (off := 57) (by decide) (by decide) ?_
          refine r_aload_n dX9_letter_77 rfl ?_
          refine r_getF kX9 (k := 20) (by decide) rfl fl_X9_51 (lay_ok hL rfl) (lay_r hL rfl) dX9_letter_78 ?_
          refine r_iload_n dX9_letter_81 rfl ?_
          refine r_ialdE (nI t.1) (lay_ok hL rfl) (by omega) (by omega) dX9_letter_82 l3 ?_
          exact r_iret (Or.inl rfl) dX9_letter_83 ⟨rfl, rfl⟩
        · refine r_tableIn 84 dX9_letter_20 (by decide) (by decide) (off := 64) (by decide) (by decide) ?_
          refine r_aload_n dX9_letter_84 rfl ?_
          refine r_getF kX9 (k := 25) (by decide) rfl fl_X9_66 (lay_ok hL rfl) (lay_r hL rfl) dX9_letter_85 ?_
          refine r_iload_n dX9_letter_88 rfl ?_
          refine r_ialdE (nI t.2.2.2.2.2.length) (lay_ok hL rfl) (by omega) (by omega) dX9_letter_89 l9 ?_
          exact r_iret (Or.inl rfl) dX9_letter_90 ⟨rfl, rfl⟩
        · refine r_tableOut 91 dX9_letter_20 (by decide) (by decide) ?_
          refine r_aload_n dX9_letter_91 rfl ?_
          refine r_getF kX9 (k := 24) (by decide) rfl fl_X9_63 (lay_ok hL rfl) (lay_r hL rfl) dX9_letter_92 ?_
          refine r_iload_n dX9_letter_95 rfl ?_
          refine r_ialdE (nI t.2.2.2.2.1) (lay_ok hL rfl) (by omega) (by omega) dX9_letter_96 l7 ?_
          exact r_iret (Or.inl rfl) dX9_letter_97 ⟨rfl, rfl⟩
theorem out01 {z : Int32} (c0 : ¬ z = 0) (c1 : ¬ z = 1) : (if z < 0 then (0 : Int32) else if 1 < z then 0 else 1) = 0 := by
  by_cases a : z < 0
  · rw [if_pos a]
  · rw [if_neg a, if_pos]
    obtain ⟨q, hq, rfl⟩ := nI_of a
    exact nI_lt (a := 1) (b := q) (by have h0 : q ≠ 0 := fun y => c0 (by rw [y]; rfl); have h1 : q ≠ 1 := fun y => c1 (by rw [y]; rfl); omega) hq
set_option maxHeartbeats 4000000 in
set_option maxRecDepth 100000 in
theorem k_X9_entry {l : Launch} {X : Nat × (Nat → Int32)} {M : am_M} (hL : Lay M) {g : tG} {c0 : Nat} (hA : absM M g) (hI : gI c0 g) {x y z : Int32} : am_F l yX9_entry cX9_entry 4 (some .long) 2 0 0 X [.ref 93, .int x, .int y, .int z] M (some (.long (k_entry x y z g))) M := by
  refine am_C.of (by decide) (by simp [Value.category, va_rf]) (Nat.le_of_ble_eq_true rfl) ?_
  have hB := hI.1
  obtain ⟨b0, b1, b2, b3, b4, b5, b6, b7, b8, b9, bV, bA, bN, bl, bn, bh⟩ := id hB
  obtain ⟨s0, s1, s2, s3, s4, s5, s6, s7, s8, s9⟩ := hA.1
  have s18 := hA.2.2.2.2.1.1
  have hL0 := hL
  rcases inN_cases x (k := (gn g).length) (by omega) with ⟨e, c⟩ | ⟨i, hi, rfl, e⟩
  · have hk : k_entry x y z g = k_NONE := by simp only [k_entry, e]
    refine r_aload_n dX9_entry_0 rfl ?_
    refine r_iload_n dX9_entry_1 rfl ?_
    refine r_cV ca_yX9_isLetter ml_X9_208 im_yX9_isLetter se_yX9_isLetter (by decide) rfl (lay_ok hL rfl) (c_X9_isLetter hL s18 (by omega)) ⟨by decide, by decide⟩ (by first | decide | omega) (by first | decide | omega) rfl (Nat.le_of_ble_eq_true rfl) dX9_entry_2 ?_
    refine r_top 0 (inN_no c) ?_
    refine r_if_eq 33 dX9_entry_5 (by decide) (fun _ => ?_) (fun hq => absurd (by decide) hq)
    refine r_ldc2 _ dX9_entry_33 kl_X9_211 ?_
    exact r_lret rfl dX9_entry_36 ⟨(congrArg (fun q : Int64 => some (Value.long q)) hk).symm, rfl⟩
  · obtain ⟨t, ht⟩ : ∃ t, (gn g)[i]? = some t := ⟨_, List.getElem?_eq_getElem hi⟩
    obtain ⟨y0, l3, l4, l5, l6, l7, l9, l8⟩ := id (hA.2.2.2.2.1.2 i t ht)
    have tk := bn t (List.mem_of_getElem? ht)
    have tk7 := tk.2.2.2.2.2.2.1
    rcases inN_cases y (k := t.2.2.2.2.2.length) (by omega) with ⟨f, c⟩ | ⟨j, hj, rfl, f⟩
    · have hk : k_entry (nI i) y z g = k_NONE := by simp only [k_entry, e, ht, f]
      refine r_aload_n dX9_entry_0 rfl ?_
      refine r_iload_n dX9_entry_1 rfl ?_
      refine r_cV ca_yX9_isLetter ml_X9_208 im_yX9_isLetter se_yX9_isLetter (by decide) rfl (lay_ok hL rfl) (c_X9_isLetter hL s18 (by omega)) ⟨by decide, by decide⟩ (by first | decide | omega) (by first | decide | omega) rfl (Nat.le_of_ble_eq_true rfl) dX9_entry_2 ?_
      refine r_top 1 (inN_yes hi (by omega)) ?_
      refine r_if_eq 33 dX9_entry_5 (by decide) (fun hq => absurd hq (by decide)) (fun _ => ?_)
      refine r_iload_n dX9_entry_8 rfl ?_
      refine r_iconst (0) dX9_entry_9 (by decide) ?_
      refine r_aload_n dX9_entry_10 rfl ?_
      refine r_getF kX9 (k := 25) (by decide) rfl fl_X9_66 (lay_ok hL rfl) (lay_r hL rfl) dX9_entry_11 ?_
      refine r_iload_n dX9_entry_14 rfl ?_
      refine r_ialdE (nI t.2.2.2.2.2.length) (lay_ok hL rfl) (by omega) (by omega) dX9_entry_15 l9 ?_
      refine r_iconst (1) dX9_entry_16 (by decide) ?_
      refine r_isub dX9_entry_17 ?_
      refine r_cS ca_yX9_in ml_X9_143 sm_yX9_in (c_X9_in hL) ⟨by decide, by decide⟩ (by first | decide | omega) (by first | decide | omega) rfl (Nat.le_of_ble_eq_true rfl) dX9_entry_18 ?_
      refine r_top 0 ((in_sub1 (by omega)).trans (inN_no c)) ?_
      refine r_if_eq 33 dX9_entry_21 (by decide) (fun _ => ?_) (fun hq => absurd (by decide) hq)
      refine r_ldc2 _ dX9_entry_33 kl_X9_211 ?_
      exact r_lret rfl dX9_entry_36 ⟨(congrArg (fun q : Int64 => some (Value.long q)) hk).symm, rfl⟩
    · obtain ⟨en, hen⟩ : ∃ en, t.2.2.2.2.2[j]? = some en := ⟨_, List.getElem?_eq_getElem hj⟩
      obtain ⟨z1, z2, z3⟩ := l8 j en hen
      have hk : k_entry (nI i) (nI j) z g = if z = 0 then (nI en.1).toInt64 else if z = 1 then en.2.1.toInt64 else k_NONE := by simp only [k_entry, e, ht, f, hen]
      by_cases c0 : z = 0
      · rw [hk, if_pos c0]
        subst c0
        refine r_aload_n dX9_entry_0 rfl ?_
        refine r_iload_n dX9_entry_1 rfl ?_
        refine r_cV ca_yX9_isLetter ml_X9_208 im_yX9_isLetter se_yX9_isLetter (by decide) rfl (lay_ok hL rfl) (c_X9_isLetter hL s18 (by omega)) ⟨by decide, by decide⟩ (by first | decide | omega) (by first | decide | omega) rfl (Nat.le_of_ble_eq_true rfl) dX9_entry_2 ?_
        refine r_top 1 (inN_yes hi (by omega)) ?_
        refine r_if_eq 33 dX9_entry_5 (by decide) (fun hq => absurd hq (by decide)) (fun _ => ?_)
        refine r_iload_n dX9_entry_8 rfl ?_
        refine r_iconst (0) dX9_entry_9 (by decide) ?_
        refine r_aload_n dX9_entry_10 rfl ?_
        refine r_getF kX9 (k := 25) (by decide) rfl fl_X9_66 (lay_ok hL rfl) (lay_r hL rfl) dX9_entry_11 ?_
        refine r_iload_n dX9_entry_14 rfl ?_
        refine r_ialdE (nI t.2.2.2.2.2.length) (lay_ok hL rfl) (by omega) (by omega) dX9_entry_15 l9 ?_
        refine r_iconst (1) dX9_entry_16 (by decide) ?_
        refine r_isub dX9_entry_17 ?_
        refine r_cS ca_yX9_in ml_X9_143 sm_yX9_in (c_X9_in hL) ⟨by decide, by decide⟩ (by first | decide | omega) (by first | decide | omega) rfl (Nat.le_of_ble_eq_true rfl) dX9_entry_18 ?_
        refine r_top 1 ((in_sub1 (by omega)).trans (inN_yes hj (by omega))) ?_
        refine r_if_eq 33 dX9_entry_21 (by decide) (fun hq => absurd hq (by decide)) (fun _ => ?_)
        refine r_iload_n dX9_entry_24 rfl ?_
        refine r_iconst (0) dX9_entry_25 (by decide) ?_
        refine r_iconst (1) dX9_entry_26 (by decide) ?_
        refine r_cS ca_yX9_in ml_X9_143 sm_yX9_in (c_X9_in hL) ⟨by decide, by decide⟩ (by first | decide | omega) (by first | decide | omega) rfl (Nat.le_of_ble_eq_true rfl) dX9_entry_27 ?_
        refine r_top 1 (by decide) ?_
        refine r_if_ne 37 dX9_entry_30 (by decide) (fun _ => ?_) (fun hq => absurd hq (by decide))
        refine r_iload_n dX9_entry_37 rfl ?_
        refine r_if_ne 56 dX9_entry_38 (by decide) (fun hq => absurd (by decide) hq) (fun _ => ?_)
        refine r_aload_n dX9_entry_41 rfl ?_
        refine r_getF kX9 (k := 26) (by decide) rfl fl_X9_69 (lay_ok hL rfl) (lay_r hL rfl) dX9_entry_42 ?_
        refine r_bipush (nI 40) dX9_entry_45 (by decide) ?_
        refine r_iload_n dX9_entry_47 rfl ?_
        refine r_imul dX9_entry_48 ?_
        refine r_top (nI (40 * i)) (nI_mul _ _) ?_
        refine r_iload_n dX9_entry_49 rfl ?_
        refine r_iadd dX9_entry_50 ?_
        refine r_top (nI ((40 * i) + j)) (nI_add _ _) ?_
        refine r_ialdE (nI en.1) (lay_ok hL rfl) (by omega) (by omega) dX9_entry_51 z1 ?_
        refine r_i2l dX9_entry_52 ?_
        refine r_goto 68 dX9_entry_53 (by decide) ?_
        exact r_lret rfl dX9_entry_68 ⟨rfl, rfl⟩
      · by_cases c1 : z = 1
        · rw [hk, if_neg c0, if_pos c1]
          subst c1
          refine r_aload_n dX9_entry_0 rfl ?_
          refine r_iload_n dX9_entry_1 rfl ?_
          refine r_cV ca_yX9_isLetter ml_X9_208 im_yX9_isLetter se_yX9_isLetter (by decide) rfl (lay_ok hL rfl) (c_X9_isLetter hL s18 (by omega)) ⟨by decide, by decide⟩ (by first | decide | omega) (by first | decide | omega) rfl (Nat.le_of_ble_eq_true rfl) dX9_entry_2 ?_
          refine r_top 1 (inN_yes hi (by omega)) ?_
          refine r_if_eq 33 dX9_entry_5 (by decide) (fun hq => absurd hq (by decide)) (fun _ => ?_)
          refine r_iload_n dX9_entry_8 rfl ?_
          refine r_iconst (0) dX9_entry_9 (by decide) ?_
          refine r_aload_n dX9_entry_10 rfl ?_
          refine r_getF kX9 (k := 25) (by decide) rfl fl_X9_66 (lay_ok hL rfl) (lay_r hL rfl) dX9_entry_11 ?_
          refine r_iload_n dX9_entry_14 rfl ?_
          refine r_ialdE (nI t.2.2.2.2.2.length) (lay_ok hL rfl) (by omega) (by omega) dX9_entry_15 l9 ?_
          refine r_iconst (1) dX9_entry_16 (by decide) ?_
          refine r_isub dX9_entry_17 ?_
          refine r_cS ca_yX9_in ml_X9_143 sm_yX9_in (c_X9_in hL) ⟨by decide, by decide⟩ (by first | decide | omega) (by first | decide | omega) rfl (Nat.le_of_ble_eq_true rfl) dX9_entry_18 ?_
          refine r_top 1 ((in_sub1 (by omega)).trans (inN_yes hj (by omega))) ?_
          refine r_if_eq 33 dX9_entry_21 (by decide) (fun hq => absurd hq (by decide)) (fun _ => ?_)
          refine r_iload_n dX9_entry_24 rfl ?_
          refine r_iconst (0) dX9_entry_25 (by decide) ?_
          refine r_iconst (1) dX9_entry_26 (by decide) ?_
          refine r_cS ca_yX9_in ml_X9_143 sm_yX9_in (c_X9_in hL) ⟨by decide, by decide⟩ (by first | decide | omega) (by first | decide | omega) rfl (Nat.le_of_ble_eq_true rfl) dX9_entry_27 ?_
          refine r_top 1 (by decide) ?_
          refine r_if_ne 37 dX9_entry_30 (by decide) (fun _ => ?_) (fun hq => absurd hq (by decide))
          refine r_iload_n dX9_entry_37 rfl ?_
          refine r_if_ne 56 dX9_entry_38 (by decide) (fun _ => ?_) (fun hq => absurd hq (by decide))
          refine r_aload_n dX9_entry_56 rfl ?_
          refine r_getF kX9 (k := 27) (by decide) rfl fl_X9_72 (lay_ok hL rfl) (lay_r hL rfl) dX9_entry_57 ?_
          refine r_bipush (nI 40) dX9_entry_60 (by decide) ?_
          refine r_iload_n dX9_entry_62 rfl ?_
          refine r_imul dX9_entry_63 ?_
          refine r_top (nI (40 * i)) (nI_mul _ _) ?_
          refine r_iload_n dX9_entry_64 rfl ?_
          refine r_iadd dX9_entry_65 ?_
          refine r_top (nI ((40 * i) + j)) (nI_add _ _) ?_
          refine r_ialdE (en.2.1) (lay_ok hL rfl) (by omega) (by omega) dX9_entry_66 z2 ?_
          refine r_i2l dX9_entry_67 ?_
          exact r_lret rfl dX9_entry_68 ⟨rfl, rfl⟩
        · rw [if_neg c0, if_neg c1] at hk
          refine r_aload_n dX9_entry_0 rfl ?_
          refine r_iload_n dX9_entry_1 rfl ?_
          refine r_cV ca_yX9_isLetter ml_X9_208 im_yX9_isLetter se_yX9_isLetter (by decide) rfl (lay_ok hL rfl) (c_X9_isLetter hL s18 (by omega)) ⟨by decide, by decide⟩ (by first | decide | omega) (by first | decide | omega) rfl (Nat.le_of_ble_eq_true rfl) dX9_entry_2 ?_
          refine r_top 1 (inN_yes hi (by omega)) ?_
          refine r_if_eq 33 dX9_entry_5 (by decide) (fun hq => absurd hq (by decide)) (fun _ => ?_)
          refine r_iload_n dX9_entry_8 rfl ?_
          refine r_iconst (0) dX9_entry_9 (by decide) ?_
          refine r_aload_n dX9_entry_10 rfl ?_
          refine r_getF kX9 (k := 25) (by decide) rfl fl_X9_66 (lay_ok hL rfl) (lay_r hL rfl) dX9_entry_11 ?_
          refine r_iload_n dX9_entry_14 rfl ?_
          refine r_ialdE (nI t.2.2.2.2.2.length) (lay_ok hL rfl) (by omega) (by omega) dX9_entry_15 l9 ?_
          refine r_iconst (1) dX9_entry_16 (by decide) ?_
          refine r_isub dX9_entry_17 ?_
          refine r_cS ca_yX9_in ml_X9_143 sm_yX9_in (c_X9_in hL) ⟨by decide, by decide⟩ (by first | decide | omega) (by first | decide | omega) rfl (Nat.le_of_ble_eq_true rfl) dX9_entry_18 ?_
          refine r_top 1 ((in_sub1 (by omega)).trans (inN_yes hj (by omega))) ?_
          refine r_if_eq 33 dX9_entry_21 (by decide) (fun hq => absurd hq (by decide)) (fun _ => ?_)
          refine r_iload_n dX9_entry_24 rfl ?_
          refine r_iconst (0) dX9_entry_25 (by decide) ?_
          refine r_iconst (1) dX9_entry_26 (by decide) ?_
          refine r_cS ca_yX9_in ml_X9_143 sm_yX9_in (c_X9_in hL) ⟨by decide, by decide⟩ (by first | decide | omega) (by first | decide | omega) rfl (Nat.le_of_ble_eq_true rfl) dX9_entry_27 ?_
          refine r_top 0 (out01 c0 c1) ?_
          refine r_if_ne 37 dX9_entry_30 (by decide) (fun hq => absurd (by decide) hq) (fun _ => ?_)
          refine r_ldc2 _ dX9_entry_33 kl_X9_211 ?_
          exact r_lret rfl dX9_entry_36 ⟨(congrArg (fun q : Int64 => some (Value.long q)) hk).symm, rfl⟩
set_option maxHeartbeats 4000000 in
set_option maxRecDepth 100000 in
theorem k_X9_lose {l : Launch} {X : Nat × (Nat → Int32)} {M : am_M} (hL : Lay M) {g : tG} {c0 : Nat} (hA : absM M g) (hI : gI c0 g) {x : Int32} : am_C l yX9_lose cX9_lose 2 (some .int) 2 0 0 X [.ref 93, .int x] M (fun v M' => v = some (.int (k_lose x g).1) ∧ absM M' (k_lose x g).2 ∧ Lay M' ∧ am_fr rS M M') := by
  refine am_C.of (by decide) (by simp [Value.category, va_rf]) (Nat.le_of_ble_eq_true rfl) ?_
  have hB := hI.1
  obtain ⟨b0, b1, b2, b3, b4, b5, b6, b7, b8, b9, bV, bA, bN, bl, bn, bh⟩ := id hB
  obtain ⟨s0, s1, s2, s3, s4, s5, s6, s7, s8, s9⟩ := hA.1
  have s18 := hA.2.2.2.2.1.1
  have hL0 := hL
  rcases inN_cases x (k := (gn g).length) (by omega) with ⟨e, c⟩ | ⟨i, hi, rfl, e⟩
  · have hk : k_lose x g = (-1, g) := by simp only [k_lose, e]
    refine r_aload_n dX9_lose_0 rfl ?_
    refine r_iload_n dX9_lose_1 rfl ?_
    refine r_cV ca_yX9_isLetter ml_X9_208 im_yX9_isLetter se_yX9_isLetter (by decide) rfl (lay_ok hL rfl) (c_X9_isLetter hL s18 (by omega)) ⟨by decide, by decide⟩ (by first | decide | omega) (by first | decide | omega) rfl (Nat.le_of_ble_eq_true rfl) dX9_lose_2 ?_
    refine r_top 0 (inN_no c) ?_
    refine r_if_ne 10 dX9_lose_5 (by decide) (fun hq => absurd (by decide) hq) (fun _ => ?_)
    refine r_iconst (-1) dX9_lose_8 (by decide) ?_
    exact r_iret (Or.inl rfl) dX9_lose_9 ⟨by rw [hk], by rw [hk]; exact hA, hL0, am_fr.rf⟩
  · have hk : k_lose (nI i) g = (nI ((gn g).length - 1), g_out i g) := by simp only [k_lose, e]
    have el : (gn (g_out i g)).length = (gn g).length - 1 := by show ((gn g).eraseIdx i).length = _; rw [List.length_eraseIdx, if_pos hi]
    refine r_aload_n dX9_lose_0 rfl ?_
    refine r_iload_n dX9_lose_1 rfl ?_
    refine r_cV ca_yX9_isLetter ml_X9_208 im_yX9_isLetter se_yX9_isLetter (by decide) rfl (lay_ok hL rfl) (c_X9_isLetter hL s18 (by omega)) ⟨by decide, by decide⟩ (by first | decide | omega) (by first | decide | omega) rfl (Nat.le_of_ble_eq_true rfl) dX9_lose_2 ?_
    refine r_top 1 (inN_yes hi (by omega)) ?_
    refine r_if_ne 10 dX9_lose_5 (by decide) (fun _ => ?_) (fun hq => absurd hq (by decide))
    refine r_aload_n dX9_lose_10 rfl ?_
    refine r_iload_n dX9_lose_11 rfl ?_
    refine r_callV ca_yX9_takeOut ml_X9_216 im_yX9_takeOut se_yX9_takeOut (by decide) rfl (lay_ok hL rfl) (c_X9_takeOut hL hA hB hi) ⟨by decide, by decide⟩ (by first | decide | omega) (by first | decide | omega) rfl (Nat.le_of_ble_eq_true rfl) dX9_lose_12 (fun v0 M1 hp1 => ?_)
    obtain ⟨rfl, hA2, hL2, hf2⟩ := hp1
    have hL := hL2
    have n2 := hA2.2.2.2.2.1.1
    rw [el] at n2
    refine r_aload_n dX9_lose_15 rfl ?_
    refine r_getE (nI ((gn g).length - 1)) kX9 (k := 18) (by decide) rfl fl_X9_134 (lay_ok hL rfl) dX9_lose_16 n2 ?_
    exact r_iret (Or.inl rfl) dX9_lose_19 ⟨(congrArg (fun q : Int32 × tG => some (Value.int q.1)) hk).symm, by rw [hk]; exact hA2, hL, hf2⟩
set_option maxHeartbeats 4000000 in
set_option maxRecDepth 100000 in
theorem k_X9_copy {l : Launch} {X : Nat × (Nat → Int32)} {M : am_M} (hL : Lay M) {g : tG} {c0 : Nat} (hA : absM M g) (hI : gI c0 g) {x : Int32} : am_C l yX9_copy cX9_copy 2 (some .int) 2 0 0 X [.ref 93, .int x] M (fun v M' => v = some (.int (k_copy x g).1) ∧ absM M' (k_copy x g).2 ∧ Lay M' ∧ am_fr rS M M') := by
  refine am_C.of (by decide) (by simp [Value.category, va_rf]) (Nat.le_of_ble_eq_true rfl) ?_
  have hB := hI.1
  obtain ⟨b0, b1, b2, b3, b4, b5, b6, b7, b8, b9, bV, bA, bN, bl, bn, bh⟩ := id hB
  obtain ⟨s0, s1, s2, s3, s4, s5, s6, s7, s8, s9⟩ := hA.1
  have s18 := hA.2.2.2.2.1.1
  have hL0 := hL
  rcases inN_cases x (k := (gn g).length) (by omega) with ⟨e, c⟩ | ⟨i, hi, rfl, e⟩
  · have hk : k_copy x g = (-1, g) := by simp only [k_copy, e]
    refine r_aload_n dX9_copy_0 rfl ?_
    refine r_iload_n dX9_copy_1 rfl ?_
    refine r_cV ca_yX9_isLetter ml_X9_208 im_yX9_isLetter se_yX9_isLetter (by decide) rfl (lay_ok hL rfl) (c_X9_isLetter hL s18 (by omega)) ⟨by decide, by decide⟩ (by first | decide | omega) (by first | decide | omega) rfl (Nat.le_of_ble_eq_true rfl) dX9_copy_2 ?_
    refine r_top 0 (inN_no c) ?_
    refine r_if_ne 10 dX9_copy_5 (by decide) (fun hq => absurd (by decide) hq) (fun _ => ?_)
    refine r_iconst (-1) dX9_copy_8 (by decide) ?_
    exact r_iret (Or.inl rfl) dX9_copy_9 ⟨by rw [hk], by rw [hk]; exact hA, hL0, am_fr.rf⟩
  · obtain ⟨t, ht⟩ : ∃ t, (gn g)[i]? = some t := ⟨_, List.getElem?_eq_getElem hi⟩
    have hy := hA.2.2.2.2.1.2 i t ht
    by_cases c6 : (gn g).length < 60
    · have hk : k_copy (nI i) g = (nI ((gn g).length + 1), un g (gn g ++ [t])) := by simp only [k_copy, e, ht, if_pos c6]
      refine r_aload_n dX9_copy_0 rfl ?_
      refine r_iload_n dX9_copy_1 rfl ?_
      refine r_cV ca_yX9_isLetter ml_X9_208 im_yX9_isLetter se_yX9_isLetter (by decide) rfl (lay_ok hL rfl) (c_X9_isLetter hL s18 (by omega)) ⟨by decide, by decide⟩ (by first | decide | omega) (by first | decide | omega) rfl (Nat.le_of_ble_eq_true rfl) dX9_copy_2 ?_
      refine r_top 1 (inN_yes hi (by omega)) ?_
      refine r_if_ne 10 dX9_copy_5 (by decide) (fun _ => ?_) (fun hq => absurd hq (by decide))
      refine r_aload_n dX9_copy_10 rfl ?_
      refine r_getE (nI (gn g).length) kX9 (k := 18) (by decide) rfl fl_X9_134 (lay_ok hL rfl) dX9_copy_11 s18 ?_
      refine r_bipush (nI 60) dX9_copy_14 (by decide) ?_
      refine r_icmp_ne 22 dX9_copy_16 (by decide) (fun _ => ?_) (fun hq => absurd hq (fun z => absurd ((nI_eq (b := 60) (by omega) (by decide)).mp z) (by omega)))
      refine r_aload_n dX9_copy_22 rfl ?_
      refine r_iload_n dX9_copy_23 rfl ?_
      refine r_aload_n dX9_copy_24 rfl ?_
      refine r_getE (nI (gn g).length) kX9 (k := 18) (by decide) rfl fl_X9_134 (lay_ok hL rfl) dX9_copy_25 s18 ?_
      refine r_callV ca_yX9_lay ml_X9_173 im_yX9_lay se_yX9_lay (by decide) rfl (lay_ok hL rfl) (c_X9_lay hL (a := i) (b := (gn g).length) (by omega) (by omega) (by omega) hA.2.2.2.2.2.2.2) ⟨by decide, by decide⟩ (by first | decide | omega) (by first | decide | omega) rfl (Nat.le_of_ble_eq_true rfl) dX9_copy_28 (fun v0 M1 hp1 => ?_)
      obtain ⟨rfl, y1, y2, y3⟩ := hp1
      have n19 := y1.1.i (by omega) s18
      have hA4 := absM_push (t := t) hL0.1 hB hA c6 y1 y2 (y3 _ (gB_lenN hB ht) hy)
      have hL := y1.1.lay hL
      have hff := (y1.1.wd (fun x a => by have := a.1; have := a.2; exact ⟨by omega, by omega⟩) : am_fr rS M M1).tr (am_fr.wI (a := 93) 18 (nI ((gn g).length + 1)) ⟨by decide, by decide⟩)
      refine r_aload_n dX9_copy_31 rfl ?_
      refine r_dup dX9_copy_32 rfl ?_
      refine r_getE (nI (gn g).length) kX9 (k := 18) (by decide) rfl fl_X9_134 (lay_ok hL rfl) dX9_copy_33 n19 ?_
      refine r_iconst (1) dX9_copy_36 (by decide) ?_
      refine r_iadd dX9_copy_37 ?_
      refine r_top (nI ((gn g).length + 1)) (nI_1 _) ?_
      refine r_putI kX9 (k := 18) (by decide) rfl (Or.inl rfl) fl_X9_134 (lay_ok hL rfl) ⟨rfl, rfl⟩ dX9_copy_38 ?_
      refine r_lay (lay_wI hL _ _ _) (fun hL => ?_)
      refine r_aload_n dX9_copy_41 rfl ?_
      refine r_getE (nI ((gn g).length + 1)) kX9 (k := 18) (by decide) rfl fl_X9_134 (lay_ok hL rfl) dX9_copy_42 (by rw [mI_wI, if_pos ⟨rfl, rfl⟩]) ?_
      exact r_iret (Or.inl rfl) dX9_copy_45 ⟨(congrArg (fun q : Int32 × tG => some (Value.int q.1)) hk).symm, by rw [hk]; exact hA4, hL, hff⟩
    · have hk : k_copy (nI i) g = (-3, g) := by simp only [k_copy, e, ht, if_neg c6]
      refine r_aload_n dX9_copy_0 rfl ?_
      refine r_iload_n dX9_copy_1 rfl ?_
      refine r_cV ca_yX9_isLetter ml_X9_208 im_yX9_isLetter se_yX9_isLetter (by decide) rfl (lay_ok hL rfl) (c_X9_isLetter hL s18 (by omega)) ⟨by decide, by decide⟩ (by first | decide | omega) (by first | decide | omega) rfl (Nat.le_of_ble_eq_true rfl) dX9_copy_2 ?_
      refine r_top 1 (inN_yes hi (by omega)) ?_
      refine r_if_ne 10 dX9_copy_5 (by decide) (fun _ => ?_) (fun hq => absurd hq (by decide))
      refine r_aload_n dX9_copy_10 rfl ?_
      refine r_getE (nI (gn g).length) kX9 (k := 18) (by decide) rfl fl_X9_134 (lay_ok hL rfl) dX9_copy_11 s18 ?_
      refine r_bipush (nI 60) dX9_copy_14 (by decide) ?_
      refine r_icmp_ne 22 dX9_copy_16 (by decide) (fun hq => absurd (by rw [show (gn g).length = 60 by omega]) hq) (fun _ => ?_)
      refine r_bipush (-3) dX9_copy_19 (by decide) ?_
      exact r_iret (Or.inl rfl) dX9_copy_21 ⟨by rw [hk], by rw [hk]; exact hA, hL0, am_fr.rf⟩
theorem ua_comm (g : tG) (k k' i i' v v' : Nat) (h : k ≠ k') : ua (ua g k i v) k' i' v' = ua (ua g k' i' v') k i v := by
  unfold ua am_u
  simp only
  congr 2
  funext x
  by_cases c : x = k'
  · subst c
    have : ¬ x = k := fun z => h z.symm
    simp [this, h]
  · by_cases d : x = k
    · subst d; simp [c]
    · simp [c, d]
set_option maxHeartbeats 4000000 in
set_option maxRecDepth 100000 in
theorem k_X9_crash {l : Launch} {X : Nat × (Nat → Int32)} {M : am_M} (hL : Lay M) {g : tG} {c0 : Nat} (hA : absM M g) (hI : gI c0 g) {x : Int32} : am_C l yX9_crash cX9_crash 2 (some .int) 2 0 0 X [.ref 93, .int x] M (fun v M' => v = some (.int (k_crash x g).1) ∧ absM M' (k_crash x g).2 ∧ Lay M' ∧ am_fr rS M M') := by
  refine am_C.of (by decide) (by simp [Value.category, va_rf]) (Nat.le_of_ble_eq_true rfl) ?_
  have hB := hI.1
  obtain ⟨b0, b1, b2, b3, b4, b5, b6, b7, b8, b9, bV, bA, bN, bl, bn, bh⟩ := id hB
  obtain ⟨s0, s1, s2, s3, s4, s5, s6, s7, s8, s9⟩ := hA.1
  have s18 := hA.2.2.2.2.1.1
  have hL0 := hL
  rcases inN_cases x (k := gs g 0) (by omega) with ⟨e, c⟩ | ⟨n, hj, rfl, e⟩
  · have hk : k_crash x g = (-1, g) := by simp only [k_crash, e]
    refine r_aload_n dX9_crash_0 rfl ?_
    refine r_iload_n dX9_crash_1 rfl ?_
    refine r_cV ca_yX9_isNode ml_X9_147 im_yX9_isNode se_yX9_isNode (by decide) rfl (lay_ok hL rfl) (c_X9_isNode hL s0 (by omega)) ⟨by decide, by decide⟩ (by first | decide | omega) (by first | decide | omega) rfl (Nat.le_of_ble_eq_true rfl) dX9_crash_2 ?_
    refine r_top 0 (inN_no c) ?_
    refine r_if_ne 10 dX9_crash_5 (by decide) (fun hq => absurd (by decide) hq) (fun _ => ?_)
    refine r_iconst (-1) dX9_crash_8 (by decide) ?_
    exact r_iret (Or.inl rfl) dX9_crash_9 ⟨by rw [hk], by rw [hk]; exact hA, hL0, am_fr.rf⟩
  · have hn : n < 5 := by omega
    obtain ⟨x4, x5, x6⟩ := hA.2.2.2.1 n hn
    obtain ⟨y4, y5, y6⟩ := bN n hn
    by_cases c6 : gs g 6 = 1
    · by_cases d6 : ga g 6 n = 1
      · have hk : k_crash (nI n) g = (-2, g) := by simp only [k_crash, e, if_pos (show gs g 6 = 0 ∨ ga g 6 n = 1 from Or.inr d6)]
        refine r_aload_n dX9_crash_0 rfl ?_
        refine r_iload_n dX9_crash_1 rfl ?_
        refine r_cV ca_yX9_isNode ml_X9_147 im_yX9_isNode se_yX9_isNode (by decide) rfl (lay_ok hL rfl) (c_X9_isNode hL s0 (by omega)) ⟨by decide, by decide⟩ (by first | decide | omega) (by first | decide | omega) rfl (Nat.le_of_ble_eq_true rfl) dX9_crash_2 ?_
        refine r_top 1 (inN_yes hj (by omega)) ?_
        refine r_if_ne 10 dX9_crash_5 (by decide) (fun _ => ?_) (fun hq => absurd hq (by decide))
        refine r_aload_n dX9_crash_10 rfl ?_
        refine r_getE (1) kX9 (k := 6) (by decide) rfl fl_X9_131 (lay_ok hL rfl) dX9_crash_11 (by rw [s6, c6]; rfl) ?_
        refine r_if_eq 26 dX9_crash_14 (by decide) (fun hq => absurd hq (by decide)) (fun _ => ?_)
        refine r_aload_n dX9_crash_17 rfl ?_
        refine r_getF kX9 (k := 17) (by decide) rfl fl_X9_45 (lay_ok hL rfl) (lay_r hL rfl) dX9_crash_18 ?_
        refine r_iload_n dX9_crash_21 rfl ?_
        refine r_zaldE (1) (lay_ok hL rfl) (by omega) (by omega) dX9_crash_22 (by rw [x6, d6]; rfl) ?_
        refine r_if_eq 29 dX9_crash_23 (by decide) (fun hq => absurd hq (by decide)) (fun _ => ?_)
        refine r_bipush (-2) dX9_crash_26 (by decide) ?_
        exact r_iret (Or.inl rfl) dX9_crash_28 ⟨by rw [hk], by rw [hk]; exact hA, hL0, am_fr.rf⟩
      · have hk : k_crash (nI n) g = (1, g_crash n g) := by simp only [k_crash, e, if_neg (show ¬ (gs g 6 = 0 ∨ ga g 6 n = 1) by omega)]
        have hA1 := absM_node hL0.1 hA hn 6 1 (by omega)
        have hA2 := absM_node (M := wI M (98 + 6) n (nI 1)) hL0.1 hA1 hn 5 0 (by omega)
        have hB2 : gB (ua (ua g 6 n 1) 5 n 0) := gB_ua (gB_ua hB n (Or.inr rfl) (Nat.le_refl _)) n (Or.inl rfl) (by decide)
        have hA3 := absM_forget (n := n) (M := wI (wI M (98 + 6) n (nI 1)) (98 + 5) n (nI 0)) hL0.1 hB2 hA2 hn
        rw [show g_forget n (ua (ua g 6 n 1) 5 n 0) = g_crash n g from by unfold g_crash; rw [ua_comm g 6 5 n n 1 0 (by decide)]] at hA3
        refine r_aload_n dX9_crash_0 rfl ?_
        refine r_iload_n dX9_crash_1 rfl ?_
        refine r_cV ca_yX9_isNode ml_X9_147 im_yX9_isNode se_yX9_isNode (by decide) rfl (lay_ok hL rfl) (c_X9_isNode hL s0 (by omega)) ⟨by decide, by decide⟩ (by first | decide | omega) (by first | decide | omega) rfl (Nat.le_of_ble_eq_true rfl) dX9_crash_2 ?_
        refine r_top 1 (inN_yes hj (by omega)) ?_
        refine r_if_ne 10 dX9_crash_5 (by decide) (fun _ => ?_) (fun hq => absurd hq (by decide))
        refine r_aload_n dX9_crash_10 rfl ?_
        refine r_getE (1) kX9 (k := 6) (by decide) rfl fl_X9_131 (lay_ok hL rfl) dX9_crash_11 (by rw [s6, c6]; rfl) ?_
        refine r_if_eq 26 dX9_crash_14 (by decide) (fun hq => absurd hq (by decide)) (fun _ => ?_)
        refine r_aload_n dX9_crash_17 rfl ?_
        refine r_getF kX9 (k := 17) (by decide) rfl fl_X9_45 (lay_ok hL rfl) (lay_r hL rfl) dX9_crash_18 ?_
        refine r_iload_n dX9_crash_21 rfl ?_
        refine r_zaldE (0) (lay_ok hL rfl) (by omega) (by omega) dX9_crash_22 (by rw [x6, bool01 y6 d6]; rfl) ?_
        refine r_if_eq 29 dX9_crash_23 (by decide) (fun _ => ?_) (fun hq => absurd (by decide) hq)
        refine r_aload_n dX9_crash_29 rfl ?_
        refine r_getF kX9 (k := 17) (by decide) rfl fl_X9_45 (lay_ok hL rfl) (lay_r hL rfl) dX9_crash_30 ?_
        refine r_iload_n dX9_crash_33 rfl ?_
        refine r_iconst (1) dX9_crash_34 (by decide) ?_
        refine r_zastN (lay_ok hL rfl) (by omega) (by decide) (by decide) dX9_crash_35 ?_
        refine r_lay (lay_wI hL _ _ _) (fun hL => ?_)
        refine r_aload_n dX9_crash_36 rfl ?_
        refine r_getF kX9 (k := 16) (by decide) rfl fl_X9_42 (lay_ok hL rfl) (lay_r hL rfl) dX9_crash_37 ?_
        refine r_iload_n dX9_crash_40 rfl ?_
        refine r_iconst (0) dX9_crash_41 (by decide) ?_
        refine r_zastN (lay_ok hL rfl) (by omega) (by decide) (by decide) dX9_crash_42 ?_
        refine r_lay (lay_wI hL _ _ _) (fun hL => ?_)
        refine r_aload_n dX9_crash_43 rfl ?_
        refine r_iload_n dX9_crash_44 rfl ?_
        refine r_cV ca_yX9_forget ml_X9_222 im_yX9_forget se_yX9_forget (by decide) rfl (lay_ok hL rfl) (c_X9_forget hL hn) ⟨by decide, by decide⟩ (by first | decide | omega) (by first | decide | omega) rfl (Nat.le_of_ble_eq_true rfl) dX9_crash_45 ?_
        refine r_lay (lay_wF hL _ _) (fun hL => ?_)
        refine r_iconst (1) dX9_crash_48 (by decide) ?_
        exact r_iret (Or.inl rfl) dX9_crash_49 ⟨(congrArg (fun q : Int32 × tG => some (Value.int q.1)) hk).symm, by rw [hk]; exact hA3, hL, (((am_fr.wI _ _ ⟨by decide, by decide⟩).tr (am_fr.wI _ _ ⟨by decide, by decide⟩)).tr (am_fr.wF _ ⟨by decide, by decide⟩))⟩
    · have hk : k_crash (nI n) g = (-2, g) := by simp only [k_crash, e, if_pos (show gs g 6 = 0 ∨ ga g 6 n = 1 from Or.inl (bool01 b7 c6))]
      refine r_aload_n dX9_crash_0 rfl ?_
      refine r_iload_n dX9_crash_1 rfl ?_
      refine r_cV ca_yX9_isNode ml_X9_147 im_yX9_isNode se_yX9_isNode (by decide) rfl (lay_ok hL rfl) (c_X9_isNode hL s0 (by omega)) ⟨by decide, by decide⟩ (by first | decide | omega) (by first | decide | omega) rfl (Nat.le_of_ble_eq_true rfl) dX9_crash_2 ?_
      refine r_top 1 (inN_yes hj (by omega)) ?_
      refine r_if_ne 10 dX9_crash_5 (by decide) (fun _ => ?_) (fun hq => absurd hq (by decide))
      refine r_aload_n dX9_crash_10 rfl ?_
      refine r_getE (0) kX9 (k := 6) (by decide) rfl fl_X9_131 (lay_ok hL rfl) dX9_crash_11 (by rw [s6, bool01 b7 c6]; rfl) ?_
      refine r_if_eq 26 dX9_crash_14 (by decide) (fun _ => ?_) (fun hq => absurd (by decide) hq)
      refine r_bipush (-2) dX9_crash_26 (by decide) ?_
      exact r_iret (Or.inl rfl) dX9_crash_28 ⟨by rw [hk], by rw [hk]; exact hA, hL0, am_fr.rf⟩
