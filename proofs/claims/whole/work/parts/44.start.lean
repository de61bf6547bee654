/-! START, NODES -/
set_option maxHeartbeats 4000000 in
set_option maxRecDepth 100000 in
theorem l_X8_start {l : Launch} {X : Nat × (Nat → Int32)} {M : am_M} {g : tG} {c0 : Nat} (hI : gI c0 g) (c6 : gs g 6 = 0) : ∀ (k i : Nat) (N : am_M), i + k = gs g 0 → Lay N → absX N (startP g i) → am_gr (fun x => x ≤ 92) M N → am_V l yX8_start cX8_start 2 (some .int) (am_R 8 80 2560) 80 2560 X (fun v M' => v = some (.int (k_start g).1) ∧ absX M' (k_start g).2 ∧ Lay M' ∧ am_gr (fun x => x ≤ 92) M M') (80 - 16 * i) (2560 - 512 * i) 17 [some (.ref 1), some (.int (nI i))] [] N := by
  intro k
  have hB := hI.1
  have h0 := hI.2.2.2.1 c6
  have b1 : gs g 0 ≤ 5 := hB.2.1
  have hk : k_start g = (nI (gn (g_start g)).length, g_start g) := if_neg (by omega)
  induction k with
  | zero =>
    intro i N hi hL hA hg
    obtain rfl : i = gs g 0 := by omega
    have s0 := hA.1.1
    rw [(startP_i hB (gs g 0) (Nat.le_refl _)).2.1 0 (by decide)] at s0
    have hA : absX N (g_start g) := hA
    refine r_iload_n dX8_start_17 rfl ?_
    refine r_aload_n dX8_start_18 rfl ?_
    refine r_getE (nI (gs g 0)) kX8 (k := 8) (by decide) rfl fl_X8_60 (lay_ok hL rfl) dX8_start_19 s0 ?_
    refine r_icmp_ge 37 dX8_start_22 (by decide) (fun _ => ?_) (fun hq => absurd (nI_le (Nat.le_refl _) (by omega)) hq)
    refine r_aload_n dX8_start_37 rfl ?_
    refine r_getF kX8 (k := 5) (by decide) rfl fl_X8_45 (lay_ok hL rfl) (lay_r hL rfl) dX8_start_38 ?_
    refine r_getE (nI (gn (g_start g)).length) kX5 (k := 1) (by decide) rfl fl_X8_122 (lay_ok hL rfl) dX8_start_41 hA.2.2.2.2.1.1 ?_
    exact r_iret (Or.inl rfl) dX8_start_44 ⟨by rw [hk], by rw [hk]; exact hA, hL, hg⟩
  | succ k ih =>
    intro i N hi hL hA hg
    obtain ⟨p1, p2, p3⟩ := startP_i hB i (by omega)
    have s0 := hA.1.1
    rw [p2 0 (by decide)] at s0
    have hn : i < gs (startP g i) 0 := by rw [p2 0 (by decide)]; show i < gs g 0; omega
    have hx : t_nxt (startP g i) i 0 := Or.inr ⟨rfl, by rw [(p3 i (Nat.le_refl _)).1]; exact (h0.2.2.1 i).1, fun k o => by rw [(p3 i (Nat.le_refl _)).2]; exact h0.2.1 k i o⟩
    refine r_iload_n dX8_start_17 rfl ?_
    refine r_aload_n dX8_start_18 rfl ?_
    refine r_getE (nI (gs g 0)) kX8 (k := 8) (by decide) rfl fl_X8_60 (lay_ok hL rfl) dX8_start_19 s0 ?_
    refine r_icmp_ge 37 dX8_start_22 (by decide) (fun hq => absurd hq (nI_ge (by omega) (by omega))) (fun _ => ?_)
    refine r_aload_n dX8_start_25 rfl ?_
    refine r_iload_n dX8_start_26 rfl ?_
    refine r_iconst (nI 0) dX8_start_27 (by decide) ?_
    refine r_callV ca_yX8_comeInto ml_X8_119 im_yX8_comeInto se_yX8_comeInto (by decide) rfl (lay_ok hL rfl) (c_X8_comeInto hL hA p1 hn hx (by decide)) ⟨by decide, by decide⟩ (by first | decide | omega) (by first | decide | omega) rfl (Nat.le_of_ble_eq_true rfl) dX8_start_28 (fun v0 M1 hp1 => ?_)
    obtain ⟨rfl, hA2, hL2, hg2⟩ := hp1
    refine r_iinc (nI (i + 1)) _ dX8_start_31 (by decide) rfl (nI_1 _) rfl ?_
    refine r_goto 17 dX8_start_34 (by decide) ?_
    refine r_room (bc' := 80 - 16 * (i + 1)) (bs' := 2560 - 512 * (i + 1)) (by omega) (by omega) ?_
    exact ih (i + 1) M1 (by omega) hL2 hA2 (hg.tr hg2)
set_option maxHeartbeats 4000000 in
set_option maxRecDepth 100000 in
theorem k_X8_start {l : Launch} {X : Nat × (Nat → Int32)} {M : am_M} (hL : Lay M) {g : tG} {c0 : Nat} (hX : absX M g) (hI : gI c0 g) : am_C l yX8_start cX8_start 2 (some .int) 8 80 2560 X [.ref 1] M (fun v M' => v = some (.int (k_start g).1) ∧ absX M' (k_start g).2 ∧ Lay M' ∧ am_gr (fun x => x ≤ 92) M M') := by
  refine am_C.of (by decide) (by simp [Value.category, va_rf]) (Nat.le_of_ble_eq_true rfl) ?_
  have hB := hI.1
  obtain ⟨b0, b1, b2, b3, b4, b5, b6, b7, b8, b9, bV, bA, bN, bl, bn, bh⟩ := id hB
  obtain ⟨s0, s1, s2, s3, s4, s5, s6, s7, s8, s9⟩ := hX.1
  have hL0 := hL
  by_cases c6 : gs g 6 = 1
  · have hk : k_start g = (-2, g) := if_pos c6
    refine r_aload_n dX8_start_0 rfl ?_
    refine r_getE (1) kX8 (k := 11) (by decide) rfl fl_X8_85 (lay_ok hL rfl) dX8_start_1 (by rw [s6, c6]; rfl) ?_
    refine r_if_eq 10 dX8_start_4 (by decide) (fun hq => absurd hq (by decide)) (fun _ => ?_)
    refine r_bipush (-2) dX8_start_7 (by decide) ?_
    exact r_iret (Or.inl rfl) dX8_start_9 ⟨by rw [hk], by rw [hk]; exact hX, hL0, am_gr.rf⟩
  · have c0 : gs g 6 = 0 := bool01 b7 c6
    have hA0 := absX_s6 hL0.1 hX 1
    refine r_aload_n dX8_start_0 rfl ?_
    refine r_getE (0) kX8 (k := 11) (by decide) rfl fl_X8_85 (lay_ok hL rfl) dX8_start_1 (by rw [s6, bool01 b7 c6]; rfl) ?_
    refine r_if_eq 10 dX8_start_4 (by decide) (fun _ => ?_) (fun hq => absurd (by decide) hq)
    refine r_aload_n dX8_start_10 rfl ?_
    refine r_iconst (1) dX8_start_11 (by decide) ?_
    refine r_putI kX8 (k := 11) (by decide) rfl (Or.inl rfl) fl_X8_85 (lay_ok hL rfl) (by decide) dX8_start_12 ?_
    refine r_lay (lay_wI hL _ _ _) (fun hL => ?_)
    refine r_iconst (nI 0) dX8_start_15 (by decide) ?_
    refine r_istore_n _ dX8_start_16 (by decide) rfl ?_
    exact l_X8_start hI c0 (gs g 0) 0 _ (by omega) hL hA0 (am_gr.wI 11 1 (by decide))
set_option maxHeartbeats 4000000 in
set_option maxRecDepth 100000 in
theorem l_X8_nodes {l : Launch} {X : Nat × (Nat → Int32)} {M : am_M} {g : tG} {n : Nat} (h2 : 2 ≤ n) (h5 : n ≤ 5) (hk : k_nodes (nI n) g = (nI (gs g 1), g_new n)) : ∀ (k i : Nat) (N : am_M), i + k = 5 → Lay N → (∀ m, m < i → nclr N m) → (∀ m, m < 5 → mks N m) → xZ N → mI N 2 5 = 0 → mI N 2 6 = 0 → mI N 2 7 = 0 → mI N 24 1 = 0 → am_gr (fun x => x ≤ 92) M N → am_V l yX8_nodes cX8_nodes 4 (some .int) (am_R 2 0 0) 0 0 X (fun v M' => v = some (.int (k_nodes (nI n) g).1) ∧ absX M' (k_nodes (nI n) g).2 ∧ Lay M' ∧ am_gr (fun x => x ≤ 92) M M') 0 0 36 [some (.ref 1), some (.int (nI n)), some (.int (nI (gs g 1))), some (.int (nI i))] [] N := by
  intro k
  induction k with
  | zero =>
    intro i N hi hL q1 q2 q3 q4 q5 q6 q7 hg
    obtain rfl : i = 5 := by omega
    have hA : absX (wI (wI (wI (wI (wI (wI (wF N 27 (fl (mI N 27) 4 0)) 1 8 (nI n)) 1 9 0) 1 10 0) 1 11 0) 1 12 0) 1 13 0) (g_new n) := by
      have hgr : am_gr (fun x => x = 1 ∨ x = 27) N (wI (wI (wI (wI (wI (wI (wF N 27 (fl (mI N 27) 4 0)) 1 8 (nI n)) 1 9 0) 1 10 0) 1 11 0) 1 12 0) 1 13 0) := ((((((am_gr.wF _ (Or.inr rfl)).tr (am_gr.wI _ _ (Or.inl rfl))).tr (am_gr.wI _ _ (Or.inl rfl))).tr (am_gr.wI _ _ (Or.inl rfl))).tr (am_gr.wI _ _ (Or.inl rfl))).tr (am_gr.wI _ _ (Or.inl rfl))).tr (am_gr.wI _ _ (Or.inl rfl))
      have hN := hL.1
      refine absX_new ?_ (hgr.i (by omega) (by decide) q4) (hgr.i (by omega) (by decide) q5) (hgr.i (by omega) (by decide) q6) ?_ ?_ ?_ ?_ ?_ (fun k hk => ?_) (hgr.i (by omega) (by decide) q7) (fun m hm => (q1 m hm).gr hgr hN hm (fun x a b => by omega)) (q3.gr hgr hN (fun m j hm h1 h2 => by omega))
      · simp [mI_wI]
      · simp [mI_wI]
      · simp [mI_wI]
      · simp [mI_wI]
      · simp [mI_wI]
      · simp [mI_wI]
      · rw [mI_wI_n _ _ _ (by decide), mI_wI_n _ _ _ (by decide), mI_wI_n _ _ _ (by decide), mI_wI_n _ _ _ (by decide), mI_wI_n _ _ _ (by decide), mI_wI_n _ _ _ (by decide), mI_wF_s, fl, if_pos hk]
    have hgr2 : am_gr (fun x => x ≤ 92) N (wI (wI (wI (wI (wI (wI (wF N 27 (fl (mI N 27) 4 0)) 1 8 (nI n)) 1 9 0) 1 10 0) 1 11 0) 1 12 0) 1 13 0) := ((((((am_gr.wF _ (by decide)).tr (am_gr.wI _ _ (by decide))).tr (am_gr.wI _ _ (by decide))).tr (am_gr.wI _ _ (by decide))).tr (am_gr.wI _ _ (by decide))).tr (am_gr.wI _ _ (by decide))).tr (am_gr.wI _ _ (by decide))
    refine r_iload_n dX8_nodes_36 rfl ?_
    refine r_iconst (nI 5) dX8_nodes_37 (by decide) ?_
    refine r_icmp_ge 56 dX8_nodes_38 (by decide) (fun _ => ?_) (fun hq => absurd (nI_le (Nat.le_refl _) (by decide)) hq)
    refine r_aload_n dX8_nodes_56 rfl ?_
    refine r_getF kX8 (k := 7) (by decide) rfl fl_X8_55 (lay_ok hL rfl) (lay_r hL rfl) dX8_nodes_57 ?_
    refine r_iconst (0) dX8_nodes_60 (by decide) ?_
    refine r_cS ca_yJ7_fill_53178 ml_X8_72 sm_yJ7_fill_53178 (c_J7_fill hL) ⟨by decide, by decide⟩ (by first | decide | omega) (by first | decide | omega) rfl (Nat.le_of_ble_eq_true rfl) dX8_nodes_61 ?_
    refine r_lay (lay_wF hL _ _) (fun hL => ?_)
    refine r_aload_n dX8_nodes_64 rfl ?_
    refine r_iload_n dX8_nodes_65 rfl ?_
    refine r_putI kX8 (k := 8) (by decide) rfl (Or.inl rfl) fl_X8_60 (lay_ok hL rfl) ⟨rfl, rfl⟩ dX8_nodes_66 ?_
    refine r_lay (lay_wI hL _ _ _) (fun hL => ?_)
    refine r_aload_n dX8_nodes_69 rfl ?_
    refine r_iconst (0) dX8_nodes_70 (by decide) ?_
    refine r_putI kX8 (k := 9) (by decide) rfl (Or.inl rfl) fl_X8_78 (lay_ok hL rfl) ⟨rfl, rfl⟩ dX8_nodes_71 ?_
    refine r_lay (lay_wI hL _ _ _) (fun hL => ?_)
    refine r_aload_n dX8_nodes_74 rfl ?_
    refine r_iconst (0) dX8_nodes_75 (by decide) ?_
    refine r_putI kX8 (k := 10) (by decide) rfl (Or.inl rfl) fl_X8_81 (lay_ok hL rfl) (by decide) dX8_nodes_76 ?_
    refine r_lay (lay_wI hL _ _ _) (fun hL => ?_)
    refine r_aload_n dX8_nodes_79 rfl ?_
    refine r_iconst (0) dX8_nodes_80 (by decide) ?_
    refine r_putI kX8 (k := 11) (by decide) rfl (Or.inl rfl) fl_X8_85 (lay_ok hL rfl) (by decide) dX8_nodes_81 ?_
    refine r_lay (lay_wI hL _ _ _) (fun hL => ?_)
    refine r_aload_n dX8_nodes_84 rfl ?_
    refine r_iconst (0) dX8_nodes_85 (by decide) ?_
    refine r_putI kX8 (k := 12) (by decide) rfl (Or.inl rfl) fl_X8_88 (lay_ok hL rfl) ⟨rfl, rfl⟩ dX8_nodes_86 ?_
    refine r_lay (lay_wI hL _ _ _) (fun hL => ?_)
    refine r_aload_n dX8_nodes_89 rfl ?_
    refine r_iconst (0) dX8_nodes_90 (by decide) ?_
    refine r_putI kX8 (k := 13) (by decide) rfl (Or.inl rfl) fl_X8_91 (lay_ok hL rfl) ⟨rfl, rfl⟩ dX8_nodes_91 ?_
    refine r_lay (lay_wI hL _ _ _) (fun hL => ?_)
    refine r_iload_n dX8_nodes_94 rfl ?_
    exact r_iret (Or.inl rfl) dX8_nodes_95 ⟨by rw [hk], by rw [hk]; exact hA, hL, hg.tr hgr2⟩
  | succ k ih =>
    intro i N hi hL q1 q2 q3 q4 q5 q6 q7 hg
    have hn : i < 5 := by omega
    have hN := hL.1
    obtain ⟨p, q, e2, e3, e4⟩ := q2 i hn
    have pf := mk_facts hL hn (q := p) (by omega)
    have qf := mk_facts hL hn (q := q) (by omega)
    obtain ⟨z1, z2, z3, z4⟩ := nclr_step hn e2 e3 e4
    refine r_iload_n dX8_nodes_36 rfl ?_
    refine r_iconst (nI 5) dX8_nodes_37 (by decide) ?_
    refine r_icmp_ge 56 dX8_nodes_38 (by decide) (fun hq => absurd hq (nI_ge (by omega) (by decide))) (fun _ => ?_)
    refine r_aload_n dX8_nodes_41 rfl ?_
    refine r_getF kX8 (k := 6) (by decide) rfl fl_X8_51 (lay_ok hL rfl) (lay_r hL rfl) dX8_nodes_42 ?_
    refine r_iload_n dX8_nodes_45 rfl ?_
    refine r_aaldF (Or.inr rfl) (lay_ok hL rfl) (by omega) (by decide) (lay_r hL (rf_row hn)) dX8_nodes_46 ?_
    refine r_cV ca_yX6_clear ml_X8_71 im_yX6_clear se_yX6_clear (by decide) rfl (lay_ok hL (sh_n0 hn)) (c_X6_clear hL hn e2 e3 pf.1 qf.1) ⟨by decide, by decide⟩ (by first | decide | omega) (by first | decide | omega) rfl (Nat.le_of_ble_eq_true rfl) dX8_nodes_47 ?_
    refine r_mem (w_clr N i p q) rfl ?_
    have hL1 : Lay (w_clr N i p q) := lay_wI (lay_wI (lay_wI (lay_wI (lay_wI (lay_wQ (lay_wQ hL _ (rf_nl hn).1) _ (rf_nl hn).2) _ _ _) _ _ _) _ _ _) _ _ _) _ _ _
    generalize w_clr N i p q = N1 at z1 z2 z3 z4 hL1 ⊢
    refine r_iinc (nI (i + 1)) _ dX8_nodes_50 (by decide) rfl (nI_1 _) rfl ?_
    refine r_goto 36 dX8_nodes_53 (by decide) ?_
    exact ih (i + 1) N1 (by omega) hL1 (fun m hm => by rcases Nat.lt_or_ge m i with c | c; exact (q1 m c).gr z2 hN (by omega) (fun x a b => by omega); rw [show m = i by omega]; exact z1) (fun m hm => by by_cases c : m = i; subst c; exact ⟨p, q, by rw [z4]; exact e2, by rw [z4]; exact e3, e4⟩; exact (q2 m hm).gr z2 hN hm (by omega)) (z3 q3) (z2.i (by omega) (by omega) q4) (z2.i (by omega) (by omega) q5) (z2.i (by omega) (by omega) q6) (z2.i (by omega) (by omega) q7) (hg.tr (z2.wd (fun x _ e => by show x ≤ 92; omega)))
set_option maxHeartbeats 4000000 in
set_option maxRecDepth 100000 in
theorem k_X8_nodes {l : Launch} {X : Nat × (Nat → Int32)} {M : am_M} (hL : Lay M) {g : tG} {c0 : Nat} (hX : absX M g) (hI : gI c0 g) {x : Int32} : am_C l yX8_nodes cX8_nodes 4 (some .int) 2 0 0 X [.ref 1, .int x] M (fun v M' => v = some (.int (k_nodes x g).1) ∧ absX M' (k_nodes x g).2 ∧ Lay M' ∧ am_gr (fun x => x ≤ 92) M M') := by
  refine am_C.of (by decide) (by simp [Value.category, va_rf]) (Nat.le_of_ble_eq_true rfl) ?_
  have hB := hI.1
  obtain ⟨b0, b1, b2, b3, b4, b5, b6, b7, b8, b9, bV, bA, bN, bl, bn, bh⟩ := id hB
  obtain ⟨s0, s1, s2, s3, s4, s5, s6, s7, s8, s9⟩ := hX.1
  have hL0 := hL
  by_cases c1 : x < 2
  · have hk : k_nodes x g = (-1, g) := if_pos c1
    refine r_iload_n dX8_nodes_0 rfl ?_
    refine r_iconst (2) dX8_nodes_1 (by decide) ?_
    refine r_icmp_lt 10 dX8_nodes_2 (by decide) (fun _ => ?_) (fun hq => absurd c1 hq)
    refine r_iconst (-1) dX8_nodes_10 (by decide) ?_
    exact r_iret (Or.inl rfl) dX8_nodes_11 ⟨by rw [hk], by rw [hk]; exact hX, hL0, am_gr.rf⟩
  · by_cases c2 : 5 < x
    · have hk : k_nodes x g = (-1, g) := (if_neg c1).trans (if_pos c2)
      refine r_iload_n dX8_nodes_0 rfl ?_
      refine r_iconst (2) dX8_nodes_1 (by decide) ?_
      refine r_icmp_lt 10 dX8_nodes_2 (by decide) (fun hq => absurd hq c1) (fun _ => ?_)
      refine r_iload_n dX8_nodes_5 rfl ?_
      refine r_iconst (5) dX8_nodes_6 (by decide) ?_
      refine r_icmp_le 12 dX8_nodes_7 (by decide) (fun hq => absurd hq (i32_nle c2)) (fun _ => ?_)
      refine r_iconst (-1) dX8_nodes_10 (by decide) ?_
      exact r_iret (Or.inl rfl) dX8_nodes_11 ⟨by rw [hk], by rw [hk]; exact hX, hL0, am_gr.rf⟩
    · obtain ⟨n, h2, h5, rfl⟩ := in_25 c1 c2
      have hk : k_nodes (nI n) g = (nI (gs g 1), g_new n) := (if_neg c1).trans ((if_neg c2).trans (by rw [nI_clamp (by omega)]))
      have hg0 : am_gr (fun x => x = 2 ∨ x = 24 ∨ x = 25) M (wI (wQ (wI (wI (wI M 2 5 0) 2 6 0) 2 7 0) 25 (fl (mR (wI (wI (wI M 2 5 0) 2 6 0) 2 7 0) 25) 60 none)) 24 1 0) := ((((am_gr.wI _ _ (by decide)).tr (am_gr.wI _ _ (by decide))).tr (am_gr.wI _ _ (by decide))).tr (am_gr.wQ _ (by decide))).tr (am_gr.wI _ _ (by decide))
      refine r_iload_n dX8_nodes_0 rfl ?_
      refine r_iconst (2) dX8_nodes_1 (by decide) ?_
      refine r_icmp_lt 10 dX8_nodes_2 (by decide) (fun hq => absurd hq c1) (fun _ => ?_)
      refine r_iload_n dX8_nodes_5 rfl ?_
      refine r_iconst (5) dX8_nodes_6 (by decide) ?_
      refine r_icmp_le 12 dX8_nodes_7 (by decide) (fun _ => ?_) (fun hq => absurd (i32_le c2) hq)
      refine r_aload_n dX8_nodes_12 rfl ?_
      refine r_getF kX8 (k := 0) (by decide) rfl fl_X8_12 (lay_ok hL rfl) (lay_r hL rfl) dX8_nodes_13 ?_
      refine r_getE (nI (gs g 1)) kX1 (k := 5) (by decide) rfl fl_X8_64 (lay_ok hL rfl) dX8_nodes_16 s1 ?_
      refine r_istore_n _ dX8_nodes_19 (by decide) rfl ?_
      refine r_aload_n dX8_nodes_20 rfl ?_
      refine r_getF kX8 (k := 0) (by decide) rfl fl_X8_12 (lay_ok hL rfl) (lay_r hL rfl) dX8_nodes_21 ?_
      refine r_cV ca_yX1_clear ml_X8_67 im_yX1_clear se_yX1_clear (by decide) rfl (lay_ok hL rfl) (c_X1_clear hL) ⟨by decide, by decide⟩ (by first | decide | omega) (by first | decide | omega) rfl (Nat.le_of_ble_eq_true rfl) dX8_nodes_24 ?_
      refine r_lay (lay_wI (lay_wI (lay_wI hL _ _ _) _ _ _) _ _ _) (fun hL => ?_)
      refine r_aload_n dX8_nodes_27 rfl ?_
      refine r_getF kX8 (k := 5) (by decide) rfl fl_X8_45 (lay_ok hL rfl) (lay_r hL rfl) dX8_nodes_28 ?_
      refine r_cV ca_yX5_clear ml_X8_70 im_yX5_clear se_yX5_clear (by decide) rfl (lay_ok hL rfl) (c_X5_clear hL) ⟨by decide, by decide⟩ (by first | decide | omega) (by first | decide | omega) rfl (Nat.le_of_ble_eq_true rfl) dX8_nodes_31 ?_
      refine r_lay (lay_wI (lay_wQ hL _ (fun _ => rfl)) _ _ _) (fun hL => ?_)
      refine r_iconst (nI 0) dX8_nodes_34 (by decide) ?_
      refine r_istore_n _ dX8_nodes_35 (by decide) rfl ?_
      have hN := hL0.1
      exact l_X8_nodes h2 h5 hk 5 0 _ (by omega) hL (fun m hm => absurd hm (by omega)) (fun m hm => by obtain ⟨p, q, e2, e3, e4, -⟩ := hX.2.2.2.2.2.2.1 m hm; exact mks.gr hg0 hN hm (by omega) ⟨p, q, e2, e3, e4⟩) (hX.2.2.2.2.2.2.2.gr hg0 hN (fun m j hm h1 h2 => by omega)) (by simp [mI_wI, mI_wQ]) (by simp [mI_wI, mI_wQ]) (by simp [mI_wI, mI_wQ]) (by simp [mI_wI, mI_wQ]) (hg0.wd (fun x _ e => by show x ≤ 92; omega))
