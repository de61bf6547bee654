/-! THE REFERENCE: marks, a node comes into a round, the net -/
set_option maxHeartbeats 4000000 in
set_option maxRecDepth 100000 in
theorem l2_X9_mark {l : Launch} {X : Nat × (Nat → Int32)} {M : am_M} {g : tG} {n : Nat} (hA : absM M g) (hB : gB g) (hn : n < 5) (hN : 125 ≤ mN M) {N1 : am_M} (h1 : cpB (16 * (2 * n)) 16 (fun x j => mI M x (16 * (2 * n + 1) + j)) (wI M 115 (2 * n) (mI M 115 (2 * n + 1))) N1) : ∀ (k i : Nat) (N : am_M), i + k = gs g 1 → Lay N → cpB (16 * (2 * n + 1)) i (fun x j => if x = 116 then gi g 1 j else if x = 117 then gi g 2 j else nI (ga g 1 j)) (wI N1 115 (2 * n + 1) (nI (ga g 4 n))) N → am_V l yX9_mark cX9_mark 4 (none) (am_R 1 0 0) 0 0 X (fun v M' => v = none ∧ absM M' (g_mark n g) ∧ Lay M' ∧ am_fr rS M M') 0 0 63 [some (.ref 93), some (.int (nI n)), some (.int (nI i))] [] N := by
  intro k
  have b2 := hB.2.2.1
  have F : ∀ N i, cpB (16 * (2 * n + 1)) i (fun x j => if x = 116 then gi g 1 j else if x = 117 then gi g 2 j else nI (ga g 1 j)) (wI N1 115 (2 * n + 1) (nI (ga g 4 n))) N → am_fr (fun x => 115 ≤ x ∧ x ≤ 118) M N := fun N i h2 => ((((am_fr.wI (S := fun x => 115 ≤ x ∧ x ≤ 118) _ _ (by decide)).tr (h1.1.wd (fun x a => by show 115 ≤ x ∧ x ≤ 118; omega))).tr (am_fr.wI _ _ (by decide))).tr (h2.1.wd (fun x a => by show 115 ≤ x ∧ x ≤ 118; omega)))
  induction k with
  | zero =>
    intro i N hi hL h2
    obtain rfl : i = gs g 1 := by omega
    have f := F N _ h2
    have s1 := f.i (by omega) hA.1.2.1
    refine r_iload_n dX9_mark_63 rfl ?_
    refine r_aload_n dX9_mark_64 rfl ?_
    refine r_getE (nI (gs g 1)) kX9 (k := 1) (by decide) rfl fl_X9_115 (lay_ok hL rfl) dX9_mark_65 s1 ?_
    refine r_icmp_ge 124 dX9_mark_68 (by decide) (fun _ => ?_) (fun hq => absurd (nI_le (Nat.le_refl _) (by omega)) hq)
    exact r_vret rfl dX9_mark_124 ⟨rfl, absM_mark hN hB hA hn h1 h2, hL, f.wd (fun x a => ⟨by omega, by omega⟩)⟩
  | succ k ih =>
    intro i N hi hL h2
    have f := F N _ h2
    have s1 := f.i (by omega) hA.1.2.1
    obtain ⟨v0, v1, v2, v3, v4⟩ := hA.2.1 i (by omega)
    have v1 := f.i (by omega) v1
    have v2 := f.i (by omega) v2
    have v3 := f.i (by omega) v3
    have w2 := (hB.2.2.2.2.2.2.2.2.2.2.1 i (by omega)).2
    have q := cpB_s h2
    refine r_iload_n dX9_mark_63 rfl ?_
    refine r_aload_n dX9_mark_64 rfl ?_
    refine r_getE (nI (gs g 1)) kX9 (k := 1) (by decide) rfl fl_X9_115 (lay_ok hL rfl) dX9_mark_65 s1 ?_
    refine r_icmp_ge 124 dX9_mark_68 (by decide) (fun hq => absurd hq (nI_ge (by omega) (by omega))) (fun _ => ?_)
    refine r_bipush (nI 16) dX9_mark_71 (by decide) ?_
    refine r_iconst (nI 2) dX9_mark_73 (by decide) ?_
    refine r_iload_n dX9_mark_74 rfl ?_
    refine r_imul dX9_mark_75 ?_
    refine r_top (nI (2 * n)) (nI_mul _ _) ?_
    refine r_iconst (nI 1) dX9_mark_76 (by decide) ?_
    refine r_iadd dX9_mark_77 ?_
    refine r_top (nI ((2 * n) + 1)) (nI_add _ _) ?_
    refine r_imul dX9_mark_78 ?_
    refine r_top (nI (16 * ((2 * n) + 1))) (nI_mul _ _) ?_
    refine r_iload_n dX9_mark_79 rfl ?_
    refine r_iadd dX9_mark_80 ?_
    refine r_top (nI ((16 * ((2 * n) + 1)) + i)) (nI_add _ _) ?_
    refine r_istore_n _ dX9_mark_81 (by decide) rfl ?_
    refine r_aload_n dX9_mark_82 rfl ?_
    refine r_getF kX9 (k := 30) (by decide) rfl fl_X9_81 (lay_ok hL rfl) (lay_r hL rfl) dX9_mark_83 ?_
    refine r_iload_n dX9_mark_86 rfl ?_
    refine r_aload_n dX9_mark_87 rfl ?_
    refine r_getF kX9 (k := 8) (by decide) rfl fl_X9_17 (lay_ok hL rfl) (lay_r hL rfl) dX9_mark_88 ?_
    refine r_iload_n dX9_mark_91 rfl ?_
    refine r_ialdE (gi g 1 i) (lay_ok hL rfl) (by omega) (by omega) dX9_mark_92 v1 ?_
    refine r_iastN (lay_ok hL rfl) (by omega) (by decide) dX9_mark_93 ?_
    refine r_lay (lay_wI hL _ _ _) (fun hL => ?_)
    refine r_aload_n dX9_mark_94 rfl ?_
    refine r_getF kX9 (k := 31) (by decide) rfl fl_X9_84 (lay_ok hL rfl) (lay_r hL rfl) dX9_mark_95 ?_
    refine r_iload_n dX9_mark_98 rfl ?_
    refine r_aload_n dX9_mark_99 rfl ?_
    refine r_getF kX9 (k := 9) (by decide) rfl fl_X9_20 (lay_ok hL rfl) (lay_r hL rfl) dX9_mark_100 ?_
    refine r_iload_n dX9_mark_103 rfl ?_
    refine r_ialdE (gi g 2 i) (lay_ok hL rfl) (by omega) (by omega) dX9_mark_104 (by rw [mI_wI_n _ _ _ (by decide)]; exact v2) ?_
    refine r_iastN (lay_ok hL rfl) (by omega) (by decide) dX9_mark_105 ?_
    refine r_lay (lay_wI hL _ _ _) (fun hL => ?_)
    refine r_aload_n dX9_mark_106 rfl ?_
    refine r_getF kX9 (k := 32) (by decide) rfl fl_X9_87 (lay_ok hL rfl) (lay_r hL rfl) dX9_mark_107 ?_
    refine r_iload_n dX9_mark_110 rfl ?_
    refine r_aload_n dX9_mark_111 rfl ?_
    refine r_getF kX9 (k := 10) (by decide) rfl fl_X9_23 (lay_ok hL rfl) (lay_r hL rfl) dX9_mark_112 ?_
    refine r_iload_n dX9_mark_115 rfl ?_
    refine r_zaldE (nI (ga g 1 i)) (lay_ok hL rfl) (by omega) (by omega) dX9_mark_116 (by rw [mI_wI_n _ _ _ (by decide), mI_wI_n _ _ _ (by decide)]; exact v3) ?_
    refine r_zastN (lay_ok hL rfl) (by omega) (by decide) (by rcases (show ga g 1 i = 0 ∨ ga g 1 i = 1 by omega) with z | z <;> rw [z]; exact Or.inl rfl; exact Or.inr rfl) dX9_mark_117 ?_
    refine r_lay (lay_wI hL _ _ _) (fun hL => ?_)
    refine r_iinc (nI (i + 1)) _ dX9_mark_118 (by decide) rfl (nI_1 _) rfl ?_
    refine r_goto 63 dX9_mark_121 (by decide) ?_
    refine r_take 3 ?_
    exact ih (i + 1) _ (by omega) hL q
set_option maxHeartbeats 4000000 in
set_option maxRecDepth 100000 in
theorem l1_X9_mark {l : Launch} {X : Nat × (Nat → Int32)} {M : am_M} {g : tG} {n : Nat} (hA : absM M g) (hB : gB g) (hn : n < 5) (hN : 125 ≤ mN M) : ∀ (k i : Nat) (N : am_M), i + k = 16 → Lay N → cpB (16 * (2 * n)) i (fun x j => mI M x (16 * (2 * n + 1) + j)) (wI M 115 (2 * n) (mI M 115 (2 * n + 1))) N → am_V l yX9_mark cX9_mark 4 (none) (am_R 1 0 0) 0 0 X (fun v M' => v = none ∧ absM M' (g_mark n g) ∧ Lay M' ∧ am_fr rS M M') 0 0 20 [some (.ref 93), some (.int (nI n)), some (.int (nI i))] [] N := by
  intro k
  induction k with
  | zero =>
    intro i N hi hL h1
    obtain rfl : i = 16 := by omega
    have f : am_fr (fun x => 115 ≤ x ∧ x ≤ 118) M N := (am_fr.wI (S := fun x => 115 ≤ x ∧ x ≤ 118) _ _ (by decide)).tr (h1.1.wd (fun x a => by show 115 ≤ x ∧ x ≤ 118; omega))
    have n4 := f.i (by omega) (hA.2.2.2.1 n hn).1
    refine r_iload_n dX9_mark_20 rfl ?_
    refine r_bipush (nI 16) dX9_mark_21 (by decide) ?_
    refine r_icmp_ge 45 dX9_mark_23 (by decide) (fun _ => ?_) (fun hq => absurd (nI_le (Nat.le_refl 16) (by decide)) hq)
    refine r_aload_n dX9_mark_45 rfl ?_
    refine r_getF kX9 (k := 29) (by decide) rfl fl_X9_78 (lay_ok hL rfl) (lay_r hL rfl) dX9_mark_46 ?_
    refine r_iconst (nI 2) dX9_mark_49 (by decide) ?_
    refine r_iload_n dX9_mark_50 rfl ?_
    refine r_imul dX9_mark_51 ?_
    refine r_top (nI (2 * n)) (nI_mul _ _) ?_
    refine r_iconst (nI 1) dX9_mark_52 (by decide) ?_
    refine r_iadd dX9_mark_53 ?_
    refine r_top (nI ((2 * n) + 1)) (nI_add _ _) ?_
    refine r_aload_n dX9_mark_54 rfl ?_
    refine r_getF kX9 (k := 15) (by decide) rfl fl_X9_39 (lay_ok hL rfl) (lay_r hL rfl) dX9_mark_55 ?_
    refine r_iload_n dX9_mark_58 rfl ?_
    refine r_ialdE (nI (ga g 4 n)) (lay_ok hL rfl) (by omega) (by omega) dX9_mark_59 n4 ?_
    refine r_iastN (lay_ok hL rfl) (by omega) (by decide) dX9_mark_60 ?_
    refine r_lay (lay_wI hL _ _ _) (fun hL => ?_)
    refine r_iconst (nI 0) dX9_mark_61 (by decide) ?_
    refine r_istore_n _ dX9_mark_62 (by decide) rfl ?_
    exact l2_X9_mark hA hB hn hN h1 (gs g 1) 0 _ (by omega) hL cpB_0
  | succ k ih =>
    intro i N hi hL h1
    have e : ∀ x, 116 ≤ x → x ≤ 118 → mI N x (16 * (2 * n + 1) + i) = mI M x (16 * (2 * n + 1) + i) := fun x a b => by
      rw [h1.2 x a b, if_neg (by omega), mI_wI_n _ _ _ (by omega)]
    have q := cpB_s h1
    simp only [← e 116 (by decide) (by decide), ← e 117 (by decide) (by decide), ← e 118 (by decide) (by decide)] at q
    refine r_iload_n dX9_mark_20 rfl ?_
    refine r_bipush (nI 16) dX9_mark_21 (by decide) ?_
    refine r_icmp_ge 45 dX9_mark_23 (by decide) (fun hq => absurd hq (nI_ge (by omega) (by decide))) (fun _ => ?_)
    refine r_aload_n dX9_mark_26 rfl ?_
    refine r_iconst (nI 2) dX9_mark_27 (by decide) ?_
    refine r_iload_n dX9_mark_28 rfl ?_
    refine r_imul dX9_mark_29 ?_
    refine r_top (nI (2 * n)) (nI_mul _ _) ?_
    refine r_iconst (nI 1) dX9_mark_30 (by decide) ?_
    refine r_iadd dX9_mark_31 ?_
    refine r_top (nI ((2 * n) + 1)) (nI_add _ _) ?_
    refine r_iconst (nI 2) dX9_mark_32 (by decide) ?_
    refine r_iload_n dX9_mark_33 rfl ?_
    refine r_imul dX9_mark_34 ?_
    refine r_top (nI (2 * n)) (nI_mul _ _) ?_
    refine r_iload_n dX9_mark_35 rfl ?_
    refine r_cV ca_yX9_layMark ml_X9_177 im_yX9_layMark se_yX9_layMark (by decide) rfl (lay_ok hL rfl) (c_X9_layMark hL (a := 2 * n + 1) (b := 2 * n) (v := i) (by omega) (by omega) (by omega) (by rw [e 118 (by decide) (by decide)]; exact hA.2.2.2.2.2.2.2.2.1 _ (by omega))) ⟨by decide, by decide⟩ (by first | decide | omega) (by first | decide | omega) rfl (Nat.le_of_ble_eq_true rfl) dX9_mark_36 ?_
    refine r_lay (lay_wI (lay_wI (lay_wI hL _ _ _) _ _ _) _ _ _) (fun hL => ?_)
    refine r_iinc (nI (i + 1)) _ dX9_mark_39 (by decide) rfl (nI_1 _) rfl ?_
    refine r_goto 20 dX9_mark_42 (by decide) ?_
    exact ih (i + 1) _ (by omega) hL q
set_option maxHeartbeats 4000000 in
set_option maxRecDepth 100000 in
theorem c_X9_mark {l : Launch} {X : Nat × (Nat → Int32)} {M : am_M} (hL : Lay M) {g : tG} {n : Nat} (hA : absM M g) (hB : gB g) (hn : n < 5) : am_C l yX9_mark cX9_mark 4 (none) 1 0 0 X [.ref 93, .int (nI n)] M (fun v M' => v = none ∧ absM M' (g_mark n g) ∧ Lay M' ∧ am_fr rS M M') := by
  refine am_C.of (by decide) (by simp [Value.category, va_rf]) (Nat.le_of_ble_eq_true rfl) ?_
  have hN := hL.1
  refine r_aload_n dX9_mark_0 rfl ?_
  refine r_getF kX9 (k := 29) (by decide) rfl fl_X9_78 (lay_ok hL rfl) (lay_r hL rfl) dX9_mark_1 ?_
  refine r_iconst (nI 2) dX9_mark_4 (by decide) ?_
  refine r_iload_n dX9_mark_5 rfl ?_
  refine r_imul dX9_mark_6 ?_
  refine r_top (nI (2 * n)) (nI_mul _ _) ?_
  refine r_aload_n dX9_mark_7 rfl ?_
  refine r_getF kX9 (k := 29) (by decide) rfl fl_X9_78 (lay_ok hL rfl) (lay_r hL rfl) dX9_mark_8 ?_
  refine r_iconst (nI 2) dX9_mark_11 (by decide) ?_
  refine r_iload_n dX9_mark_12 rfl ?_
  refine r_imul dX9_mark_13 ?_
  refine r_top (nI (2 * n)) (nI_mul _ _) ?_
  refine r_iconst (nI 1) dX9_mark_14 (by decide) ?_
  refine r_iadd dX9_mark_15 ?_
  refine r_top (nI ((2 * n) + 1)) (nI_add _ _) ?_
  refine r_ialdN (lay_ok hL rfl) (by omega) (by decide) dX9_mark_16 ?_
  refine r_iastN (lay_ok hL rfl) (by omega) (by decide) dX9_mark_17 ?_
  refine r_lay (lay_wI hL _ _ _) (fun hL => ?_)
  refine r_iconst (nI 0) dX9_mark_18 (by decide) ?_
  refine r_istore_n _ dX9_mark_19 (by decide) rfl ?_
  exact l1_X9_mark hA hB hn hN 16 0 _ (by omega) hL cpB_0
set_option maxHeartbeats 4000000 in
set_option maxRecDepth 100000 in
theorem l_X9_takeOut {l : Launch} {X : Nat × (Nat → Int32)} {M : am_M} {g : tG} {i : Nat} (hA : absM M g) (hB : gB g) (hi : i < (gn g).length) (hN : 125 ≤ mN M) : ∀ (k j : Nat) (N : am_M), j + k = (gn g).length - 1 → i ≤ j → Lay N → sfr (fun s => s < 60) (wI M 93 18 (nI ((gn g).length - 1))) N → yZ N → (∀ s t, ((gn g).eraseIdx i)[s]? = some t → s < j → yO N s (some t)) → (∀ s t, j ≤ s → (gn g)[s]? = some t → yO N s (some t)) → am_V l yX9_takeOut cX9_takeOut 3 (none) (am_R 1 0 0) 0 0 X (fun v M' => v = none ∧ absM M' (g_out i g) ∧ Lay M' ∧ am_fr rS M M') 0 0 12 [some (.ref 93), some (.int (nI i)), some (.int (nI j))] [] N := by
  intro k
  have b60 := hB.2.2.2.2.2.2.2.2.2.2.2.2.2.1
  have el : ((gn g).eraseIdx i).length = (gn g).length - 1 := by rw [List.length_eraseIdx, if_pos hi]
  have F : ∀ N, sfr (fun s => s < 60) (wI M 93 18 (nI ((gn g).length - 1))) N → am_fr rS M N := fun N h => (am_fr.wI (S := rS) _ _ ⟨by decide, by decide⟩).tr (h.1.wd (fun x a => ⟨by omega, by omega⟩))
  have n0 : mI (wI M 93 18 (nI ((gn g).length - 1))) 93 18 = nI ((gn g).length - 1) := by rw [mI_wI, if_pos ⟨rfl, rfl⟩]
  induction k with
  | zero =>
    intro j N hj hij hL hf hz h1 h2
    obtain rfl : j = (gn g).length - 1 := by omega
    have n1 := hf.1.i (by omega) n0
    refine r_iload_n dX9_takeOut_12 rfl ?_
    refine r_aload_n dX9_takeOut_13 rfl ?_
    refine r_getE (nI ((gn g).length - 1)) kX9 (k := 18) (by decide) rfl fl_X9_134 (lay_ok hL rfl) dX9_takeOut_14 n1 ?_
    refine r_icmp_ge 34 dX9_takeOut_17 (by decide) (fun _ => ?_) (fun hq => absurd (nI_le (Nat.le_refl _) (by omega)) hq)
    exact r_vret rfl dX9_takeOut_34 ⟨rfl, absM_out hN hB hA hi hf hz (fun s t ht => h1 s t ht (by have := (List.getElem?_eq_some_iff.mp ht).1; omega)), hL, F N hf⟩
  | succ k ih =>
    intro j N hj hij hL hf hz h1 h2
    have n1 := hf.1.i (by omega) n0
    obtain ⟨t, ht⟩ : ∃ t, (gn g)[j + 1]? = some t := ⟨_, List.getElem?_eq_getElem (show j + 1 < (gn g).length by omega)⟩
    have ht1 := h2 (j + 1) t (by omega) ht
    refine r_iload_n dX9_takeOut_12 rfl ?_
    refine r_aload_n dX9_takeOut_13 rfl ?_
    refine r_getE (nI ((gn g).length - 1)) kX9 (k := 18) (by decide) rfl fl_X9_134 (lay_ok hL rfl) dX9_takeOut_14 n1 ?_
    refine r_icmp_ge 34 dX9_takeOut_17 (by decide) (fun hq => absurd hq (nI_ge (by omega) (by omega))) (fun _ => ?_)
    refine r_aload_n dX9_takeOut_20 rfl ?_
    refine r_iload_n dX9_takeOut_21 rfl ?_
    refine r_iconst (nI 1) dX9_takeOut_22 (by decide) ?_
    refine r_iadd dX9_takeOut_23 ?_
    refine r_top (nI (j + 1)) (nI_add _ _) ?_
    refine r_iload_n dX9_takeOut_24 rfl ?_
    refine r_callV ca_yX9_lay ml_X9_173 im_yX9_lay se_yX9_lay (by decide) rfl (lay_ok hL rfl) (c_X9_lay hL (a := j + 1) (b := j) (by omega) (by omega) (by omega) hz) ⟨by decide, by decide⟩ (by first | decide | omega) (by first | decide | omega) rfl (Nat.le_of_ble_eq_true rfl) dX9_takeOut_25 (fun v0 M1 hp1 => ?_)
    obtain ⟨rfl, y1, y2, y3⟩ := hp1
    have ht2 := y3 _ (gB_lenN hB ht) ht1
    refine r_iinc (nI (j + 1)) _ dX9_takeOut_28 (by decide) rfl (nI_1 _) rfl ?_
    refine r_goto 12 dX9_takeOut_31 (by decide) ?_
    exact ih (j + 1) M1 (by omega) (by omega) (y1.1.lay hL) (hf.tr (y1.wd (fun s (e : s = j) => by show s < 60; omega))) y2 (fun s u hu hs => by by_cases c : s = j; subst c; rw [List.getElem?_eraseIdx, if_neg (by omega), ht] at hu; cases hu; exact ht2; exact (h1 s u hu (by omega)).sf y1 c (fun v hv => by cases hv; have := List.mem_of_getElem? hu; exact (hB.2.2.2.2.2.2.2.2.2.2.2.2.2.2.1 u (List.mem_of_mem_eraseIdx this)).2.2.2.2.2.2.1)) (fun s u hs hu => (h2 s u (by omega) hu).sf y1 (by show ¬ s = j; omega) (gB_lenN hB hu))
set_option maxHeartbeats 4000000 in
set_option maxRecDepth 100000 in
theorem c_X9_takeOut {l : Launch} {X : Nat × (Nat → Int32)} {M : am_M} (hL : Lay M) {g : tG} {i : Nat} (hA : absM M g) (hB : gB g) (hi : i < (gn g).length) : am_C l yX9_takeOut cX9_takeOut 3 (none) 1 0 0 X [.ref 93, .int (nI i)] M (fun v M' => v = none ∧ absM M' (g_out i g) ∧ Lay M' ∧ am_fr rS M M') := by
  refine am_C.of (by decide) (by simp [Value.category, va_rf]) (Nat.le_of_ble_eq_true rfl) ?_
  have hN := hL.1
  have n1 := hA.2.2.2.2.1.1
  have g1 : am_gr (fun x => x = 93) M (wI M 93 18 (nI ((gn g).length - 1))) := am_gr.wI _ _ rfl
  refine r_aload_n dX9_takeOut_0 rfl ?_
  refine r_dup dX9_takeOut_1 rfl ?_
  refine r_getE (nI (gn g).length) kX9 (k := 18) (by decide) rfl fl_X9_134 (lay_ok hL rfl) dX9_takeOut_2 n1 ?_
  refine r_iconst (1) dX9_takeOut_5 (by decide) ?_
  refine r_isub dX9_takeOut_6 ?_
  refine r_top (nI ((gn g).length - 1)) (nI_sub1 (by omega)) ?_
  refine r_putI kX9 (k := 18) (by decide) rfl (Or.inl rfl) fl_X9_134 (lay_ok hL rfl) ⟨rfl, rfl⟩ dX9_takeOut_7 ?_
  refine r_lay (lay_wI hL _ _ _) (fun hL => ?_)
  refine r_iload_n dX9_takeOut_10 rfl ?_
  refine r_istore_n _ dX9_takeOut_11 (by decide) rfl ?_
  exact l_X9_takeOut hA hB hi hN ((gn g).length - 1 - i) i _ (by omega) (Nat.le_refl _) hL sfr.rf (hA.2.2.2.2.2.2.2.gr g1 hN (by omega) (by omega) (by omega)) (fun s t ht hs => by rw [List.getElem?_eraseIdx, if_pos hs] at ht; exact (hA.2.2.2.2.1.2 s t ht).gr g1 hN (fun x a b => by omega)) (fun s t _ ht => (hA.2.2.2.2.1.2 s t ht).gr g1 hN (fun x a b => by omega))
set_option maxHeartbeats 4000000 in
set_option maxRecDepth 100000 in
theorem l_X9_come {l : Launch} {X : Nat × (Nat → Int32)} {M : am_M} {g : tG} {n r : Nat} (hB : gB g) (hn : n < gs g 0) (hr : r ≤ 200) : ∀ (k i : Nat) (N : am_M), i + k = 5 → Lay N → absM N (g_shP n i (ua g 4 n r)) → am_fr rS M N → am_V l yX9_come cX9_come 4 (none) (am_R 3 0 0) 0 0 X (fun v M' => v = none ∧ absM M' (g_come n r g) ∧ Lay M' ∧ am_fr rS M M') 0 0 9 [some (.ref 93), some (.int (nI n)), some (.int (nI r)), some (.int (nI i))] [] N := by
  intro k
  have b1 : gs g 0 ≤ 5 := hB.2.1
  have hB4 : gB (ua g 4 n r) := gB_ua4 hB n hr
  induction k with
  | zero =>
    intro i N hi hL hA hf
    obtain rfl : i = 5 := by omega
    have hA := absM_shift hA
    have hBs : gB (g_shift n (ua g 4 n r)) := gB_shift hB hr
    by_cases c : r = 200
    · have ec : g_come n r g = ua (g_shift n (ua g 4 n r)) 5 n 1 := if_pos c
      have hA5 := absM_node hL.1 hA (show n < 5 by omega) 5 1 (by omega)
      refine r_iload_n dX9_come_9 rfl ?_
      refine r_iconst (nI 5) dX9_come_10 (by decide) ?_
      refine r_icmp_ge 82 dX9_come_11 (by decide) (fun _ => ?_) (fun hq => absurd (nI_le (Nat.le_refl 5) (by decide)) hq)
      refine r_iload_n dX9_come_82 rfl ?_
      refine r_sipush (nI 200) dX9_come_83 (by decide) ?_
      refine r_icmp_ne 97 dX9_come_86 (by decide) (fun hq => absurd (by rw [c]) hq) (fun _ => ?_)
      refine r_aload_n dX9_come_89 rfl ?_
      refine r_getF kX9 (k := 16) (by decide) rfl fl_X9_42 (lay_ok hL rfl) (lay_r hL rfl) dX9_come_90 ?_
      refine r_iload_n dX9_come_93 rfl ?_
      refine r_iconst (1) dX9_come_94 (by decide) ?_
      refine r_zastN (lay_ok hL rfl) (by omega) (by decide) (by decide) dX9_come_95 ?_
      refine r_lay (lay_wI hL _ _ _) (fun hL => ?_)
      exact r_vret rfl dX9_come_96 ⟨rfl, by rw [ec]; exact hA5, hL, hf.tr (am_fr.wI _ _ ⟨by decide, by decide⟩)⟩
    · have e5 : gs (g_shift n (ua g 4 n r)) 5 = gs g 5 := rfl
      have s5 : mI N 93 5 = nI (gs g 5) := hA.1.2.2.2.2.2.1
      have b6 : gs g 5 ≤ 50 := hB.2.2.2.2.2.2.1
      have r4 : ga (g_shift n (ua g 4 n r)) 4 n = r := by show ga (ua g 4 n r) 4 n = r; rw [ga_ua, if_pos ⟨rfl, rfl⟩]
      have W : ∀ (h : tG) (N : am_M), Lay N → absM N h → gB h → am_fr rS M N → gs h 0 = gs g 0 → ga h 4 n = r → g_come n r g = g_write n h → am_V l yX9_come cX9_come 4 (none) (am_R 3 0 0) 0 0 X (fun v M' => v = none ∧ absM M' (g_come n r g) ∧ Lay M' ∧ am_fr rS M M') 0 0 125 [some (.ref 93), some (.int (nI n)), some (.int (nI r)), some (.int (nI 5))] [] N := fun h N hL hA hBh hf e0 e4 ew => by
        refine r_aload_n dX9_come_125 rfl ?_
        refine r_iload_n dX9_come_126 rfl ?_
        refine r_callV ca_yX9_write ml_X9_187 im_yX9_write se_yX9_write (by decide) rfl (lay_ok hL rfl) (c_X9_write hL hA hBh (by omega) (by omega)) ⟨by decide, by decide⟩ (by first | decide | omega) (by first | decide | omega) rfl (Nat.le_of_ble_eq_true rfl) dX9_come_127 (fun v0 M1 hp1 => ?_)
        obtain ⟨rfl, hA2, hL2, hf2⟩ := hp1
        exact r_vret rfl dX9_come_130 ⟨rfl, by rw [ew]; exact hA2, hL2, hf.tr hf2⟩
      by_cases d : r = 0 ∨ (0 < gs g 5 ∧ r % gs g 5 = 0)
      · have ec : g_come n r g = g_write n (g_mark n (g_shift n (ua g 4 n r))) := (if_neg c).trans (if_pos d)
        by_cases z5 : gs g 5 = 0
        · skip
          refine r_iload_n dX9_come_9 rfl ?_
          refine r_iconst (nI 5) dX9_come_10 (by decide) ?_
          refine r_icmp_ge 82 dX9_come_11 (by decide) (fun _ => ?_) (fun hq => absurd (nI_le (Nat.le_refl 5) (by decide)) hq)
          refine r_iload_n dX9_come_82 rfl ?_
          refine r_sipush (nI 200) dX9_come_83 (by decide) ?_
          refine r_icmp_ne 97 dX9_come_86 (by decide) (fun _ => ?_) (fun hq => absurd hq (fun z => c ((nI_eq (b := 200) (by omega) (by decide)).mp z)))
          refine r_aload_n dX9_come_97 rfl ?_
          refine r_getE (0) kX9 (k := 5) (by decide) rfl fl_X9_128 (lay_ok hL rfl) dX9_come_98 (by rw [s5, z5]; rfl) ?_
          refine r_if_ne 111 dX9_come_101 (by decide) (fun hq => absurd (by decide) hq) (fun _ => ?_)
          refine r_iload_n dX9_come_104 rfl ?_
          refine r_if_ne 125 dX9_come_105 (by decide) (fun hq => absurd (by rw [show r = 0 by omega]; rfl) hq) (fun _ => ?_)
          refine r_goto 120 dX9_come_108 (by decide) ?_
          refine r_aload_n dX9_come_120 rfl ?_
          refine r_iload_n dX9_come_121 rfl ?_
          refine r_callV ca_yX9_mark ml_X9_184 im_yX9_mark se_yX9_mark (by decide) rfl (lay_ok hL rfl) (c_X9_mark hL hA hBs (by omega)) ⟨by decide, by decide⟩ (by first | decide | omega) (by first | decide | omega) rfl (Nat.le_of_ble_eq_true rfl) dX9_come_122 (fun v0 M1 hp1 => ?_)
          obtain ⟨rfl, hA2, hL2, hf2⟩ := hp1
          exact W _ _ hL2 hA2 (gB_mark hBs) (hf.tr hf2) rfl r4 ec
        · have em : r % gs g 5 = 0 := by rcases d with d | d; rw [d]; exact Nat.zero_mod _; exact d.2
          refine r_iload_n dX9_come_9 rfl ?_
          refine r_iconst (nI 5) dX9_come_10 (by decide) ?_
          refine r_icmp_ge 82 dX9_come_11 (by decide) (fun _ => ?_) (fun hq => absurd (nI_le (Nat.le_refl 5) (by decide)) hq)
          refine r_iload_n dX9_come_82 rfl ?_
          refine r_sipush (nI 200) dX9_come_83 (by decide) ?_
          refine r_icmp_ne 97 dX9_come_86 (by decide) (fun _ => ?_) (fun hq => absurd hq (fun z => c ((nI_eq (b := 200) (by omega) (by decide)).mp z)))
          refine r_aload_n dX9_come_97 rfl ?_
          refine r_getE (nI (gs g 5)) kX9 (k := 5) (by decide) rfl fl_X9_128 (lay_ok hL rfl) dX9_come_98 s5 ?_
          refine r_if_ne 111 dX9_come_101 (by decide) (fun _ => ?_) (fun hq => absurd hq (nI_ne0 (by omega) (by omega)))
          refine r_iload_n dX9_come_111 rfl ?_
          refine r_aload_n dX9_come_112 rfl ?_
          refine r_getE (nI (gs g 5)) kX9 (k := 5) (by decide) rfl fl_X9_128 (lay_ok hL rfl) dX9_come_113 s5 ?_
          refine r_irem dX9_come_116 (nI_ne0 (by omega) (by omega)) ?_
          refine r_top (nI (r % gs g 5)) (pk_rem (by omega) (by omega) (by omega)) ?_
          refine r_if_ne 125 dX9_come_117 (by decide) (fun hq => absurd (by rw [em]; rfl) hq) (fun _ => ?_)
          refine r_aload_n dX9_come_120 rfl ?_
          refine r_iload_n dX9_come_121 rfl ?_
          refine r_callV ca_yX9_mark ml_X9_184 im_yX9_mark se_yX9_mark (by decide) rfl (lay_ok hL rfl) (c_X9_mark hL hA hBs (by omega)) ⟨by decide, by decide⟩ (by first | decide | omega) (by first | decide | omega) rfl (Nat.le_of_ble_eq_true rfl) dX9_come_122 (fun v0 M1 hp1 => ?_)
          obtain ⟨rfl, hA2, hL2, hf2⟩ := hp1
          exact W _ _ hL2 hA2 (gB_mark hBs) (hf.tr hf2) rfl r4 ec
      · have ec : g_come n r g = g_write n (g_shift n (ua g 4 n r)) := (if_neg c).trans (if_neg d)
        by_cases z5 : gs g 5 = 0
        · skip
          refine r_iload_n dX9_come_9 rfl ?_
          refine r_iconst (nI 5) dX9_come_10 (by decide) ?_
          refine r_icmp_ge 82 dX9_come_11 (by decide) (fun _ => ?_) (fun hq => absurd (nI_le (Nat.le_refl 5) (by decide)) hq)
          refine r_iload_n dX9_come_82 rfl ?_
          refine r_sipush (nI 200) dX9_come_83 (by decide) ?_
          refine r_icmp_ne 97 dX9_come_86 (by decide) (fun _ => ?_) (fun hq => absurd hq (fun z => c ((nI_eq (b := 200) (by omega) (by decide)).mp z)))
          refine r_aload_n dX9_come_97 rfl ?_
          refine r_getE (0) kX9 (k := 5) (by decide) rfl fl_X9_128 (lay_ok hL rfl) dX9_come_98 (by rw [s5, z5]; rfl) ?_
          refine r_if_ne 111 dX9_come_101 (by decide) (fun hq => absurd (by decide) hq) (fun _ => ?_)
          refine r_iload_n dX9_come_104 rfl ?_
          refine r_if_ne 125 dX9_come_105 (by decide) (fun _ => ?_) (fun hq => absurd hq (nI_ne0 (by omega) (by omega)))
          exact W _ _ hL hA hBs hf rfl r4 ec
        · have em : r % gs g 5 ≠ 0 := fun z => d (Or.inr ⟨by omega, z⟩)
          have el := Nat.mod_le r (gs g 5)
          refine r_iload_n dX9_come_9 rfl ?_
          refine r_iconst (nI 5) dX9_come_10 (by decide) ?_
          refine r_icmp_ge 82 dX9_come_11 (by decide) (fun _ => ?_) (fun hq => absurd (nI_le (Nat.le_refl 5) (by decide)) hq)
          refine r_iload_n dX9_come_82 rfl ?_
          refine r_sipush (nI 200) dX9_come_83 (by decide) ?_
          refine r_icmp_ne 97 dX9_come_86 (by decide) (fun _ => ?_) (fun hq => absurd hq (fun z => c ((nI_eq (b := 200) (by omega) (by decide)).mp z)))
          refine r_aload_n dX9_come_97 rfl ?_
          refine r_getE (nI (gs g 5)) kX9 (k := 5) (by decide) rfl fl_X9_128 (lay_ok hL rfl) dX9_come_98 s5 ?_
          refine r_if_ne 111 dX9_come_101 (by decide) (fun _ => ?_) (fun hq => absurd hq (nI_ne0 (by omega) (by omega)))
          refine r_iload_n dX9_come_111 rfl ?_
          refine r_aload_n dX9_come_112 rfl ?_
          refine r_getE (nI (gs g 5)) kX9 (k := 5) (by decide) rfl fl_X9_128 (lay_ok hL rfl) dX9_come_113 s5 ?_
          refine r_irem dX9_come_116 (nI_ne0 (by omega) (by omega)) ?_
          refine r_top (nI (r % gs g 5)) (pk_rem (by omega) (by omega) (by omega)) ?_
          refine r_if_ne 125 dX9_come_117 (by decide) (fun _ => ?_) (fun hq => absurd hq (nI_ne0 (by omega) (by omega)))
          exact W _ _ hL hA hBs hf rfl r4 ec
  | succ k ih =>
    intro i N hi hL hA hf
    have hn5 : n < 5 := by omega
    have hB0 := gB_shP hB4 n i
    have hz0 := hA.2.2.2.2.2.2.2
    have es := shP_s n i (ua g 4 n r)
    have L0 : gl (g_shP n i (ua g 4 n r)) 1 n i = gl (ua g 4 n r) 1 n i := by show (if n = n ∧ i < i then _ else _) = _; rw [if_neg (by omega)]
    have L2 : gl (g_shP n i (ua g 4 n r)) 3 n i = gl (ua g 4 n r) 3 n i := by show (if n = n ∧ i < i then _ else _) = _; rw [if_neg (by omega)]
    have e0 : slotOf 0 n i = 110 + 10 * n + 5 * 0 + i := rfl
    have e1 : slotOf 1 n i = 110 + 10 * n + 5 * 1 + i := rfl
    have e2 : slotOf 2 n i = 60 + 10 * n + 5 * 0 + i := rfl
    have e3 : slotOf 3 n i = 60 + 10 * n + 5 * 1 + i := rfl
    have ok1 : ∀ u, gl (ua g 4 n r) 1 n i = some u → okL (ua g 4 n r) u := fun u hu => hB4.2.2.2.2.2.2.2.2.2.2.2.2.2.2.2 _ _ _ u hu
    have ok3 : ∀ u, gl (ua g 4 n r) 3 n i = some u → okL (ua g 4 n r) u := fun u hu => hB4.2.2.2.2.2.2.2.2.2.2.2.2.2.2.2 _ _ _ u hu
    have y1 := yH_slot hA.2.2.2.2.2.1 (k := 1) (by decide) hn5 (show i < 5 by omega)
    rw [L0] at y1
    generalize hh0 : g_shP n i (ua g 4 n r) = h0 at hA hB0 L0 L2 es
    refine r_iload_n dX9_come_9 rfl ?_
    refine r_iconst (nI 5) dX9_come_10 (by decide) ?_
    refine r_icmp_ge 82 dX9_come_11 (by decide) (fun hq => absurd hq (nI_ge (by omega) (by decide))) (fun _ => ?_)
    refine r_aload_n dX9_come_14 rfl ?_
    refine r_aload_n dX9_come_15 rfl ?_
    refine r_iload_n dX9_come_16 rfl ?_
    refine r_iconst (nI 1) dX9_come_17 (by decide) ?_
    refine r_iload_n dX9_come_18 rfl ?_
    refine r_cV ca_yX9_has ml_X9_181 im_yX9_has se_yX9_has (by decide) rfl (lay_ok hL rfl) (c_X9_has hL) ⟨by decide, by decide⟩ (by first | decide | omega) (by first | decide | omega) rfl (Nat.le_of_ble_eq_true rfl) dX9_come_19 ?_
    refine r_aload_n dX9_come_22 rfl ?_
    refine r_iload_n dX9_come_23 rfl ?_
    refine r_iconst (nI 0) dX9_come_24 (by decide) ?_
    refine r_iload_n dX9_come_25 rfl ?_
    refine r_cV ca_yX9_has ml_X9_181 im_yX9_has se_yX9_has (by decide) rfl (lay_ok hL rfl) (c_X9_has hL) ⟨by decide, by decide⟩ (by first | decide | omega) (by first | decide | omega) rfl (Nat.le_of_ble_eq_true rfl) dX9_come_26 ?_
    refine r_callV ca_yX9_lay ml_X9_173 im_yX9_lay se_yX9_lay (by decide) rfl (lay_ok hL rfl) (c_X9_lay hL (a := 110 + 10 * n + 5 * 1 + i) (b := 110 + 10 * n + 5 * 0 + i) (by omega) (by omega) (by omega) hz0) ⟨by decide, by decide⟩ (by first | decide | omega) (by first | decide | omega) rfl (Nat.le_of_ble_eq_true rfl) dX9_come_29 (fun v0 M1 hp1 => ?_)
    obtain ⟨rfl, f1, z1, t1⟩ := hp1
    have hA1 := absM_set (k := 0) (n := n) (o := i) hL.1 hB0 hA (by decide) hn5 (by omega) f1 z1 (t1 _ (fun u hu => (ok1 u hu).2.2.2.2.2.2.1) y1)
    have hB1 : gB (ul h0 (l_set (gl h0) 0 n i (gl (ua g 4 n r) 1 n i))) := gB_set hB0 (by rw [← hh0]; exact ok1) 0 n i
    have hL := f1.1.lay hL
    obtain ⟨hA2, f2⟩ := absM_none (k := 1) (n := n) (o := i) hL.1 hB1 hA1 (by decide) hn5 (by omega)
    have hB2 := gB_set (t := none) hB1 (fun u hu => by cases hu) 1 n i
    rw [e1] at hA2 f2
    refine r_aload_n dX9_come_32 rfl ?_
    refine r_getF kX9 (k := 19) (by decide) rfl fl_X9_48 (lay_ok hL rfl) (lay_r hL rfl) dX9_come_33 ?_
    refine r_aload_n dX9_come_36 rfl ?_
    refine r_iload_n dX9_come_37 rfl ?_
    refine r_iconst (nI 1) dX9_come_38 (by decide) ?_
    refine r_iload_n dX9_come_39 rfl ?_
    refine r_cV ca_yX9_has ml_X9_181 im_yX9_has se_yX9_has (by decide) rfl (lay_ok hL rfl) (c_X9_has hL) ⟨by decide, by decide⟩ (by first | decide | omega) (by first | decide | omega) rfl (Nat.le_of_ble_eq_true rfl) dX9_come_40 ?_
    refine r_iconst (0) dX9_come_43 (by decide) ?_
    refine r_zastN (lay_ok hL rfl) (by omega) (by decide) (by decide) dX9_come_44 ?_
    refine r_lay (lay_wI hL _ _ _) (fun hL => ?_)
    have y3 := yH_slot hA2.2.2.2.2.2.1 (k := 3) (by decide) hn5 (show i < 5 by omega)
    have q3 : gl (ul (ul h0 (l_set (gl h0) 0 n i (gl (ua g 4 n r) 1 n i))) (l_set (l_set (gl h0) 0 n i (gl (ua g 4 n r) 1 n i)) 1 n i none)) 3 n i = gl (ua g 4 n r) 3 n i := by simp [gl_ul, l_set, L2]
    have y3 : yO _ (slotOf 3 n i) (gl (ul (ul h0 (l_set (gl h0) 0 n i (gl (ua g 4 n r) 1 n i))) (l_set (l_set (gl h0) 0 n i (gl (ua g 4 n r) 1 n i)) 1 n i none)) 3 n i) := y3
    rw [q3, e3] at y3
    refine r_aload_n dX9_come_45 rfl ?_
    refine r_aload_n dX9_come_46 rfl ?_
    refine r_iload_n dX9_come_47 rfl ?_
    refine r_iconst (nI 1) dX9_come_48 (by decide) ?_
    refine r_iload_n dX9_come_49 rfl ?_
    refine r_cV ca_yX9_keeps ml_X9_158 im_yX9_keeps se_yX9_keeps (by decide) rfl (lay_ok hL rfl) (c_X9_keeps hL) ⟨by decide, by decide⟩ (by first | decide | omega) (by first | decide | omega) rfl (Nat.le_of_ble_eq_true rfl) dX9_come_50 ?_
    refine r_aload_n dX9_come_53 rfl ?_
    refine r_iload_n dX9_come_54 rfl ?_
    refine r_iconst (nI 0) dX9_come_55 (by decide) ?_
    refine r_iload_n dX9_come_56 rfl ?_
    refine r_cV ca_yX9_keeps ml_X9_158 im_yX9_keeps se_yX9_keeps (by decide) rfl (lay_ok hL rfl) (c_X9_keeps hL) ⟨by decide, by decide⟩ (by first | decide | omega) (by first | decide | omega) rfl (Nat.le_of_ble_eq_true rfl) dX9_come_57 ?_
    refine r_callV ca_yX9_lay ml_X9_173 im_yX9_lay se_yX9_lay (by decide) rfl (lay_ok hL rfl) (c_X9_lay hL (a := 60 + 10 * n + 5 * 1 + i) (b := 60 + 10 * n + 5 * 0 + i) (by omega) (by omega) (by omega) hA2.2.2.2.2.2.2.2) ⟨by decide, by decide⟩ (by first | decide | omega) (by first | decide | omega) rfl (Nat.le_of_ble_eq_true rfl) dX9_come_60 (fun v0 M2 hp1 => ?_)
    obtain ⟨rfl, f3, z3, t3⟩ := hp1
    have hA3 := absM_set (k := 2) (n := n) (o := i) hL.1 hB2 hA2 (by decide) hn5 (by omega) f3 z3 (t3 _ (fun u hu => (ok3 u hu).2.2.2.2.2.2.1) y3)
    have hB3 := gB_set hB2 (t := gl (ua g 4 n r) 3 n i) (by intro u hu; have := ok3 u hu; rw [← hh0]; exact this) 2 n i
    have hL := f3.1.lay hL
    obtain ⟨hA4, f4⟩ := absM_none (k := 3) (n := n) (o := i) hL.1 hB3 hA3 (by decide) hn5 (by omega)
    rw [e3] at hA4 f4
    refine r_aload_n dX9_come_63 rfl ?_
    refine r_getF kX9 (k := 19) (by decide) rfl fl_X9_48 (lay_ok hL rfl) (lay_r hL rfl) dX9_come_64 ?_
    refine r_aload_n dX9_come_67 rfl ?_
    refine r_iload_n dX9_come_68 rfl ?_
    refine r_iconst (nI 1) dX9_come_69 (by decide) ?_
    refine r_iload_n dX9_come_70 rfl ?_
    refine r_cV ca_yX9_keeps ml_X9_158 im_yX9_keeps se_yX9_keeps (by decide) rfl (lay_ok hL rfl) (c_X9_keeps hL) ⟨by decide, by decide⟩ (by first | decide | omega) (by first | decide | omega) rfl (Nat.le_of_ble_eq_true rfl) dX9_come_71 ?_
    refine r_iconst (0) dX9_come_74 (by decide) ?_
    refine r_zastN (lay_ok hL rfl) (by omega) (by decide) (by decide) dX9_come_75 ?_
    refine r_lay (lay_wI hL _ _ _) (fun hL => ?_)
    refine r_iinc (nI (i + 1)) _ dX9_come_76 (by decide) rfl (nI_1 _) rfl ?_
    refine r_goto 9 dX9_come_79 (by decide) ?_
    exact ih (i + 1) _ (by omega) hL (by rw [es]; rw [← hh0] at hA4 ⊢; exact hA4) ((((hf.tr (f1.1.wd (fun x a => ⟨by omega, by omega⟩))).tr (f2.1.wd (fun x a => ⟨by omega, by omega⟩))).tr (f3.1.wd (fun x a => ⟨by omega, by omega⟩))).tr (f4.1.wd (fun x a => ⟨by omega, by omega⟩)))
set_option maxHeartbeats 4000000 in
set_option maxRecDepth 100000 in
theorem c_X9_come {l : Launch} {X : Nat × (Nat → Int32)} {M : am_M} (hL : Lay M) {g : tG} {n r : Nat} (hA : absM M g) (hB : gB g) (hn : n < gs g 0) (hr : r ≤ 200) : am_C l yX9_come cX9_come 4 (none) 3 0 0 X [.ref 93, .int (nI n), .int (nI r)] M (fun v M' => v = none ∧ absM M' (g_come n r g) ∧ Lay M' ∧ am_fr rS M M') := by
  refine am_C.of (by decide) (by simp [Value.category, va_rf]) (Nat.le_of_ble_eq_true rfl) ?_
  have b1 : gs g 0 ≤ 5 := hB.2.1
  have hA4 := absM_node hL.1 hA (show n < 5 by omega) 4 r (by omega)
  refine r_aload_n dX9_come_0 rfl ?_
  refine r_getF kX9 (k := 15) (by decide) rfl fl_X9_39 (lay_ok hL rfl) (lay_r hL rfl) dX9_come_1 ?_
  refine r_iload_n dX9_come_4 rfl ?_
  refine r_iload_n dX9_come_5 rfl ?_
  refine r_iastN (lay_ok hL rfl) (by omega) (by decide) dX9_come_6 ?_
  refine r_lay (lay_wI hL _ _ _) (fun hL => ?_)
  refine r_iconst (nI 0) dX9_come_7 (by decide) ?_
  refine r_istore_n _ dX9_come_8 (by decide) rfl ?_
  exact l_X9_come hB hn hr 5 0 _ (by omega) hL (by rw [shP_0]; exact hA4) (am_fr.wI _ _ ⟨by decide, by decide⟩)
