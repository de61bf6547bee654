/-! THE REFERENCE WRITES LETTERS -/
set_option maxHeartbeats 4000000 in
set_option maxRecDepth 100000 in
theorem l_X9_addEntry {l : Launch} {X : Nat × (Nat → Int32)} {M : am_M} {s v a k j : Nat} {m : Int32} {es : List tE} (hs : s < 160) (hk0 : mI M 93 3 = nI k) (hk : k ≤ 3) (hj0 : mI M 93 4 = nI j) (hj : j ≤ 1) (hkj : j = 1 → k ≤ 2) (hD : DM M s es) (hl : (t_add j k es v m a).length ≤ 40) (hv : v < 16) (hE : ∀ e ∈ es, e.1 < 16) (hL : Lay M) (c1 : j = 1) : ∀ (k' i : Nat) (N : am_M), N = M → i + k' = t_pl v es → am_V l yX9_addEntry cX9_addEntry 6 (none) (am_R 1 0 0) 0 0 X (fun v' M' => v' = none ∧ afr s M M' ∧ DM M' s (t_add j k es v m a)) 0 0 3 [some (.ref 93), some (.int (nI s)), some (.int (nI v)), some (.int m), some (.int (nI a)), some (.int (nI i))] [] N := by
  intro k'
  have hpl := t_pl_le v es
  have h40 := hD.2.1
  have et : t_add j k es v m a = t_addJ k v m a es := if_neg (by omega)
  have hj1 : mI M 93 4 = 1 := by rw [hj0, c1]; rfl
  induction k' with
  | zero =>
    intro i N hN hi
    subst hN
    have hi : i = t_pl v es := by omega
    by_cases c : t_pl v es = es.length
    · have e := (t_addJ_at k v m a es).1 c
      have hle : es.length < 40 := by rw [et, e] at hl; simp at hl; omega
      obtain ⟨q1, q2⟩ := DM_app hD hle v m a
      refine r_aload_n dX9_addEntry_3 rfl ?_
      refine r_getE (1) kX9 (k := 4) (by decide) rfl fl_X9_124 (lay_ok hL rfl) dX9_addEntry_4 hj1 ?_
      refine r_if_eq 73 dX9_addEntry_7 (by decide) (fun hq => absurd hq (by decide)) (fun _ => ?_)
      refine r_iload dX9_addEntry_10 rfl ?_
      refine r_aload_n dX9_addEntry_12 rfl ?_
      refine r_getF kX9 (k := 25) (by decide) rfl fl_X9_66 (lay_ok hL rfl) (lay_r hL rfl) dX9_addEntry_13 ?_
      refine r_iload_n dX9_addEntry_16 rfl ?_
      refine r_ialdE (nI es.length) (lay_ok hL rfl) (by omega) (by omega) dX9_addEntry_17 hD.1 ?_
      refine r_icmp_ge 73 dX9_addEntry_18 (by decide) (fun _ => ?_) (fun hq => absurd (nI_le (by omega) (by omega)) hq)
      refine r_bipush (nI 40) dX9_addEntry_73 (by decide) ?_
      refine r_iload_n dX9_addEntry_75 rfl ?_
      refine r_imul dX9_addEntry_76 ?_
      refine r_top (nI (40 * s)) (nI_mul _ _) ?_
      refine r_aload_n dX9_addEntry_77 rfl ?_
      refine r_getF kX9 (k := 25) (by decide) rfl fl_X9_66 (lay_ok hL rfl) (lay_r hL rfl) dX9_addEntry_78 ?_
      refine r_iload_n dX9_addEntry_81 rfl ?_
      refine r_ialdE (nI es.length) (lay_ok hL rfl) (by omega) (by omega) dX9_addEntry_82 hD.1 ?_
      refine r_iadd dX9_addEntry_83 ?_
      refine r_top (nI ((40 * s) + es.length)) (nI_add _ _) ?_
      refine r_istore _ dX9_addEntry_84 (by decide) rfl ?_
      refine r_aload_n dX9_addEntry_86 rfl ?_
      refine r_getF kX9 (k := 26) (by decide) rfl fl_X9_69 (lay_ok hL rfl) (lay_r hL rfl) dX9_addEntry_87 ?_
      refine r_iload dX9_addEntry_90 rfl ?_
      refine r_iload_n dX9_addEntry_92 rfl ?_
      refine r_iastN (lay_ok hL rfl) (by omega) (by decide) dX9_addEntry_93 ?_
      refine r_lay (lay_wI hL _ _ _) (fun hL => ?_)
      refine r_aload_n dX9_addEntry_94 rfl ?_
      refine r_getF kX9 (k := 27) (by decide) rfl fl_X9_72 (lay_ok hL rfl) (lay_r hL rfl) dX9_addEntry_95 ?_
      refine r_iload dX9_addEntry_98 rfl ?_
      refine r_iload_n dX9_addEntry_100 rfl ?_
      refine r_iastN (lay_ok hL rfl) (by omega) (by decide) dX9_addEntry_101 ?_
      refine r_lay (lay_wI hL _ _ _) (fun hL => ?_)
      refine r_aload_n dX9_addEntry_102 rfl ?_
      refine r_getF kX9 (k := 28) (by decide) rfl fl_X9_75 (lay_ok hL rfl) (lay_r hL rfl) dX9_addEntry_103 ?_
      refine r_iload dX9_addEntry_106 rfl ?_
      refine r_iload dX9_addEntry_108 rfl ?_
      refine r_iastN (lay_ok hL rfl) (by omega) (by decide) dX9_addEntry_110 ?_
      refine r_lay (lay_wI hL _ _ _) (fun hL => ?_)
      refine r_aload_n dX9_addEntry_111 rfl ?_
      refine r_getF kX9 (k := 25) (by decide) rfl fl_X9_66 (lay_ok hL rfl) (lay_r hL rfl) dX9_addEntry_112 ?_
      refine r_iload_n dX9_addEntry_115 rfl ?_
      refine r_dup2 dX9_addEntry_116 rfl rfl ?_
      refine r_ialdE (nI es.length) (lay_ok hL rfl) (by omega) (by omega) dX9_addEntry_117 (by simp [mI_wI, hD.1]) ?_
      refine r_iconst (nI 1) dX9_addEntry_118 (by decide) ?_
      refine r_iadd dX9_addEntry_119 ?_
      refine r_top (nI (es.length + 1)) (nI_add _ _) ?_
      refine r_iastN (lay_ok hL rfl) (by omega) (by decide) dX9_addEntry_120 ?_
      refine r_lay (lay_wI hL _ _ _) (fun hL => ?_)
      exact r_vret rfl dX9_addEntry_121 ⟨rfl, q2, by rw [et, e]; exact q1⟩
    · obtain ⟨f, hf, hfv⟩ := pl_at (v := v) (es := es) (by omega)
      have e := (t_addJ_at k v m a es).2 f hf
      rw [← hi] at hf e
      obtain ⟨d1, d2, d3⟩ := hD.2.2 i f hf
      obtain ⟨q1, q2⟩ := DM_fold hD hf (t_fold k f.2.1 m)
      refine r_aload_n dX9_addEntry_3 rfl ?_
      refine r_getE (1) kX9 (k := 4) (by decide) rfl fl_X9_124 (lay_ok hL rfl) dX9_addEntry_4 hj1 ?_
      refine r_if_eq 73 dX9_addEntry_7 (by decide) (fun hq => absurd hq (by decide)) (fun _ => ?_)
      refine r_iload dX9_addEntry_10 rfl ?_
      refine r_aload_n dX9_addEntry_12 rfl ?_
      refine r_getF kX9 (k := 25) (by decide) rfl fl_X9_66 (lay_ok hL rfl) (lay_r hL rfl) dX9_addEntry_13 ?_
      refine r_iload_n dX9_addEntry_16 rfl ?_
      refine r_ialdE (nI es.length) (lay_ok hL rfl) (by omega) (by omega) dX9_addEntry_17 hD.1 ?_
      refine r_icmp_ge 73 dX9_addEntry_18 (by decide) (fun hq => absurd hq (nI_ge (by omega) (by omega))) (fun _ => ?_)
      refine r_aload_n dX9_addEntry_21 rfl ?_
      refine r_getF kX9 (k := 26) (by decide) rfl fl_X9_69 (lay_ok hL rfl) (lay_r hL rfl) dX9_addEntry_22 ?_
      refine r_bipush (nI 40) dX9_addEntry_25 (by decide) ?_
      refine r_iload_n dX9_addEntry_27 rfl ?_
      refine r_imul dX9_addEntry_28 ?_
      refine r_top (nI (40 * s)) (nI_mul _ _) ?_
      refine r_iload dX9_addEntry_29 rfl ?_
      refine r_iadd dX9_addEntry_31 ?_
      refine r_top (nI ((40 * s) + i)) (nI_add _ _) ?_
      refine r_ialdE (nI v) (lay_ok hL rfl) (by omega) (by omega) dX9_addEntry_32 (by rw [d1, hfv]) ?_
      refine r_iload_n dX9_addEntry_33 rfl ?_
      refine r_icmp_ne 67 dX9_addEntry_34 (by decide) (fun hq => absurd rfl hq) (fun _ => ?_)
      refine r_aload_n dX9_addEntry_37 rfl ?_
      refine r_getF kX9 (k := 27) (by decide) rfl fl_X9_72 (lay_ok hL rfl) (lay_r hL rfl) dX9_addEntry_38 ?_
      refine r_bipush (nI 40) dX9_addEntry_41 (by decide) ?_
      refine r_iload_n dX9_addEntry_43 rfl ?_
      refine r_imul dX9_addEntry_44 ?_
      refine r_top (nI (40 * s)) (nI_mul _ _) ?_
      refine r_iload dX9_addEntry_45 rfl ?_
      refine r_iadd dX9_addEntry_47 ?_
      refine r_top (nI ((40 * s) + i)) (nI_add _ _) ?_
      refine r_aload_n dX9_addEntry_48 rfl ?_
      refine r_aload_n dX9_addEntry_49 rfl ?_
      refine r_getF kX9 (k := 27) (by decide) rfl fl_X9_72 (lay_ok hL rfl) (lay_r hL rfl) dX9_addEntry_50 ?_
      refine r_bipush (nI 40) dX9_addEntry_53 (by decide) ?_
      refine r_iload_n dX9_addEntry_55 rfl ?_
      refine r_imul dX9_addEntry_56 ?_
      refine r_top (nI (40 * s)) (nI_mul _ _) ?_
      refine r_iload dX9_addEntry_57 rfl ?_
      refine r_iadd dX9_addEntry_59 ?_
      refine r_top (nI ((40 * s) + i)) (nI_add _ _) ?_
      refine r_ialdE (f.2.1) (lay_ok hL rfl) (by omega) (by omega) dX9_addEntry_60 d2 ?_
      refine r_iload_n dX9_addEntry_61 rfl ?_
      refine r_cV ca_yX9_folded ml_X9_154 im_yX9_folded se_yX9_folded (by decide) rfl (lay_ok hL rfl) (c_X9_folded hL hk0 (hkj c1)) ⟨by decide, by decide⟩ (by first | decide | omega) (by first | decide | omega) rfl (Nat.le_of_ble_eq_true rfl) dX9_addEntry_62 ?_
      refine r_iastN (lay_ok hL rfl) (by omega) (by decide) dX9_addEntry_65 ?_
      refine r_lay (lay_wI hL _ _ _) (fun hL => ?_)
      exact r_vret rfl dX9_addEntry_66 ⟨rfl, q2, by rw [et, e]; exact q1⟩
  | succ k' ih =>
    intro i N hN hi
    subst hN
    obtain ⟨f, hf, hfv⟩ := pl_lt (v := v) (es := es) (i := i) (by omega)
    obtain ⟨d1, d2, d3⟩ := hD.2.2 i f hf
    have hf16 := hE f (List.mem_of_getElem? hf)
    refine r_aload_n dX9_addEntry_3 rfl ?_
    refine r_getE (1) kX9 (k := 4) (by decide) rfl fl_X9_124 (lay_ok hL rfl) dX9_addEntry_4 hj1 ?_
    refine r_if_eq 73 dX9_addEntry_7 (by decide) (fun hq => absurd hq (by decide)) (fun _ => ?_)
    refine r_iload dX9_addEntry_10 rfl ?_
    refine r_aload_n dX9_addEntry_12 rfl ?_
    refine r_getF kX9 (k := 25) (by decide) rfl fl_X9_66 (lay_ok hL rfl) (lay_r hL rfl) dX9_addEntry_13 ?_
    refine r_iload_n dX9_addEntry_16 rfl ?_
    refine r_ialdE (nI es.length) (lay_ok hL rfl) (by omega) (by omega) dX9_addEntry_17 hD.1 ?_
    refine r_icmp_ge 73 dX9_addEntry_18 (by decide) (fun hq => absurd hq (nI_ge (by omega) (by omega))) (fun _ => ?_)
    refine r_aload_n dX9_addEntry_21 rfl ?_
    refine r_getF kX9 (k := 26) (by decide) rfl fl_X9_69 (lay_ok hL rfl) (lay_r hL rfl) dX9_addEntry_22 ?_
    refine r_bipush (nI 40) dX9_addEntry_25 (by decide) ?_
    refine r_iload_n dX9_addEntry_27 rfl ?_
    refine r_imul dX9_addEntry_28 ?_
    refine r_top (nI (40 * s)) (nI_mul _ _) ?_
    refine r_iload dX9_addEntry_29 rfl ?_
    refine r_iadd dX9_addEntry_31 ?_
    refine r_top (nI ((40 * s) + i)) (nI_add _ _) ?_
    refine r_ialdE (nI f.1) (lay_ok hL rfl) (by omega) (by omega) dX9_addEntry_32 d1 ?_
    refine r_iload_n dX9_addEntry_33 rfl ?_
    refine r_icmp_ne 67 dX9_addEntry_34 (by decide) (fun _ => ?_) (fun hq => absurd hq (fun z => hfv ((nI_eq (by omega) (by omega)).mp z)))
    refine r_iinc (nI (i + 1)) _ dX9_addEntry_67 (by decide) rfl (nI_1 _) rfl ?_
    refine r_goto 3 dX9_addEntry_70 (by decide) ?_
    exact ih (i + 1) N rfl (by omega)
set_option maxHeartbeats 4000000 in
set_option maxRecDepth 100000 in
theorem c_X9_addEntry {l : Launch} {X : Nat × (Nat → Int32)} {M : am_M} (hL : Lay M) {s v a k j : Nat} {m : Int32} {es : List tE} (hs : s < 160) (hk0 : mI M 93 3 = nI k) (hk : k ≤ 3) (hj0 : mI M 93 4 = nI j) (hj : j ≤ 1) (hkj : j = 1 → k ≤ 2) (hD : DM M s es) (hl : (t_add j k es v m a).length ≤ 40) (hv : v < 16) (hE : ∀ e ∈ es, e.1 < 16) : am_C l yX9_addEntry cX9_addEntry 6 (none) 1 0 0 X [.ref 93, .int (nI s), .int (nI v), .int m, .int (nI a)] M (fun v' M' => v' = none ∧ afr s M M' ∧ DM M' s (t_add j k es v m a)) := by
  refine am_C.of (by decide) (by simp [Value.category, va_rf]) (Nat.le_of_ble_eq_true rfl) ?_
  rcases (show j = 0 ∨ j = 1 by omega) with c0 | c1
  · have et : t_add j k es v m a = es ++ [(v, m, a)] := if_pos c0
    have hle : es.length < 40 := by rw [et] at hl; simp at hl; omega
    have hj1 : mI M 93 4 = 0 := by rw [hj0, c0]; rfl
    obtain ⟨q1, q2⟩ := DM_app hD hle v m a
    refine r_iconst (nI 0) dX9_addEntry_0 (by decide) ?_
    refine r_istore _ dX9_addEntry_1 (by decide) rfl ?_
    refine r_aload_n dX9_addEntry_3 rfl ?_
    refine r_getE (0) kX9 (k := 4) (by decide) rfl fl_X9_124 (lay_ok hL rfl) dX9_addEntry_4 hj1 ?_
    refine r_if_eq 73 dX9_addEntry_7 (by decide) (fun _ => ?_) (fun hq => absurd (by decide) hq)
    refine r_bipush (nI 40) dX9_addEntry_73 (by decide) ?_
    refine r_iload_n dX9_addEntry_75 rfl ?_
    refine r_imul dX9_addEntry_76 ?_
    refine r_top (nI (40 * s)) (nI_mul _ _) ?_
    refine r_aload_n dX9_addEntry_77 rfl ?_
    refine r_getF kX9 (k := 25) (by decide) rfl fl_X9_66 (lay_ok hL rfl) (lay_r hL rfl) dX9_addEntry_78 ?_
    refine r_iload_n dX9_addEntry_81 rfl ?_
    refine r_ialdE (nI es.length) (lay_ok hL rfl) (by omega) (by omega) dX9_addEntry_82 hD.1 ?_
    refine r_iadd dX9_addEntry_83 ?_
    refine r_top (nI ((40 * s) + es.length)) (nI_add _ _) ?_
    refine r_istore _ dX9_addEntry_84 (by decide) rfl ?_
    refine r_aload_n dX9_addEntry_86 rfl ?_
    refine r_getF kX9 (k := 26) (by decide) rfl fl_X9_69 (lay_ok hL rfl) (lay_r hL rfl) dX9_addEntry_87 ?_
    refine r_iload dX9_addEntry_90 rfl ?_
    refine r_iload_n dX9_addEntry_92 rfl ?_
    refine r_iastN (lay_ok hL rfl) (by omega) (by decide) dX9_addEntry_93 ?_
    refine r_lay (lay_wI hL _ _ _) (fun hL => ?_)
    refine r_aload_n dX9_addEntry_94 rfl ?_
    refine r_getF kX9 (k := 27) (by decide) rfl fl_X9_72 (lay_ok hL rfl) (lay_r hL rfl) dX9_addEntry_95 ?_
    refine r_iload dX9_addEntry_98 rfl ?_
    refine r_iload_n dX9_addEntry_100 rfl ?_
    refine r_iastN (lay_ok hL rfl) (by omega) (by decide) dX9_addEntry_101 ?_
    refine r_lay (lay_wI hL _ _ _) (fun hL => ?_)
    refine r_aload_n dX9_addEntry_102 rfl ?_
    refine r_getF kX9 (k := 28) (by decide) rfl fl_X9_75 (lay_ok hL rfl) (lay_r hL rfl) dX9_addEntry_103 ?_
    refine r_iload dX9_addEntry_106 rfl ?_
    refine r_iload dX9_addEntry_108 rfl ?_
    refine r_iastN (lay_ok hL rfl) (by omega) (by decide) dX9_addEntry_110 ?_
    refine r_lay (lay_wI hL _ _ _) (fun hL => ?_)
    refine r_aload_n dX9_addEntry_111 rfl ?_
    refine r_getF kX9 (k := 25) (by decide) rfl fl_X9_66 (lay_ok hL rfl) (lay_r hL rfl) dX9_addEntry_112 ?_
    refine r_iload_n dX9_addEntry_115 rfl ?_
    refine r_dup2 dX9_addEntry_116 rfl rfl ?_
    refine r_ialdE (nI es.length) (lay_ok hL rfl) (by omega) (by omega) dX9_addEntry_117 (by simp [mI_wI, hD.1]) ?_
    refine r_iconst (nI 1) dX9_addEntry_118 (by decide) ?_
    refine r_iadd dX9_addEntry_119 ?_
    refine r_top (nI (es.length + 1)) (nI_add _ _) ?_
    refine r_iastN (lay_ok hL rfl) (by omega) (by decide) dX9_addEntry_120 ?_
    refine r_lay (lay_wI hL _ _ _) (fun hL => ?_)
    exact r_vret rfl dX9_addEntry_121 ⟨rfl, q2, by rw [et]; exact q1⟩
  · skip
    refine r_iconst (nI 0) dX9_addEntry_0 (by decide) ?_
    refine r_istore _ dX9_addEntry_1 (by decide) rfl ?_
    exact l_X9_addEntry hs hk0 hk hj0 hj hkj hD hl hv hE hL c1 (t_pl v es) 0 M rfl (by omega)
set_option maxHeartbeats 4000000 in
set_option maxRecDepth 100000 in
theorem l1_X9_write {l : Launch} {X : Nat × (Nat → Int32)} {M : am_M} {g : tG} {n o s : Nat} {Post : Option Value → am_M → Prop} (hS : yS M g) (hV : yV M g) (hA : yA M g) (hB : gB g) (hn : n < 5) (ho : o < 5) (hs : s < 160) (hN0 : 125 ≤ mN M) {v : Nat} (hv : v < gs g 1) (kk : ∀ N', Lay N' → afr s M N' → DM N' s (t_entP g n o (v + 1)) → am_V l yX9_write cX9_write 6 (none) (am_R 2 0 0) 0 0 X Post 0 0 90 [some (.ref 93), some (.int (nI n)), some (.int (nI o)), some (.int (nI s)), some (.int (nI (v + 1)))] [] N') : ∀ (k i : Nat) (N : am_M), i + k = gs g 2 → Lay N → afr s M N → DM N s (t_eV g n o v i (t_entP g n o v)) → am_V l yX9_write cX9_write 6 (none) (am_R 2 0 0) 0 0 X Post 0 0 102 [some (.ref 93), some (.int (nI n)), some (.int (nI o)), some (.int (nI s)), some (.int (nI v)), some (.int (nI i))] [] N := by
  intro k
  obtain ⟨b0, b1, b2, b3, b4, b5, -, -, -, b9, bV, bA, -⟩ := hB
  obtain ⟨v0, v1, v2, v3, v4⟩ := hV v hv
  obtain ⟨w1, w2⟩ := bV v hv
  induction k with
  | zero =>
    intro i N hi hL hf hD
    obtain rfl : i = gs g 2 := by omega
    have s2 := hf.1.1.i (by omega) hS.2.2.1
    rw [← t_entP_s] at hD
    refine r_iload dX9_write_102 rfl ?_
    refine r_aload_n dX9_write_104 rfl ?_
    refine r_getE (nI (gs g 2)) kX9 (k := 2) (by decide) rfl fl_X9_118 (lay_ok hL rfl) dX9_write_105 s2 ?_
    refine r_icmp_ge 198 dX9_write_108 (by decide) (fun _ => ?_) (fun hq => absurd (nI_le (Nat.le_refl _) (by omega)) hq)
    refine r_iinc (nI (v + 1)) _ dX9_write_198 (by decide) rfl (nI_1 _) rfl ?_
    refine r_goto 90 dX9_write_201 (by decide) ?_
    refine r_take 5 ?_
    exact kk N hL hf hD
  | succ k ih =>
    intro i N hi hL hf hD
    have F := hf.1.1
    have s2 := F.i (by omega) hS.2.2.1
    have s3 := F.i (by omega) hS.2.2.2.1
    have s4 := F.i (by omega) hS.2.2.2.2.1
    have v1 := F.i (by omega) v1
    have v3 := F.i (by omega) v3
    have v4 := F.i (by omega) v4
    obtain ⟨a0, a1, a2⟩ := hA i (by omega)
    obtain ⟨y0, y1⟩ := bA i (by omega)
    have a0 := F.i (by omega) a0
    have a1 := F.i (by omega) a1
    have a2 := F.i (by omega) a2
    have v9 := F.i (by omega) (hV (ga g 3 i) y1).2.2.2.2
    have w9 := (bV (ga g 3 i) y1).1
    have es := t_eV_s g n o v i (t_entP g n o v)
    have el := t_eV_40 b3 n o v (i := i + 1) (by omega)
    have em := t_eV_mem (g := g) (P := fun e => e.1 < 16) (n := n) (o := o) (v := v) (fun _ _ h => h) (fun a _ ha => by have := (bA a ha).2; show ga g 3 a < 16; omega) i (by omega)
    refine r_iload dX9_write_102 rfl ?_
    refine r_aload_n dX9_write_104 rfl ?_
    refine r_getE (nI (gs g 2)) kX9 (k := 2) (by decide) rfl fl_X9_118 (lay_ok hL rfl) dX9_write_105 s2 ?_
    refine r_icmp_ge 198 dX9_write_108 (by decide) (fun hq => absurd hq (nI_ge (by omega) (by omega))) (fun _ => ?_)
    refine r_aload_n dX9_write_111 rfl ?_
    refine r_getF kX9 (k := 11) (by decide) rfl fl_X9_27 (lay_ok hL rfl) (lay_r hL rfl) dX9_write_112 ?_
    refine r_iload dX9_write_115 rfl ?_
    refine r_ialdE (nI (ga g 0 v)) (lay_ok hL rfl) (by omega) (by omega) dX9_write_117 v4 ?_
    refine r_iload_n dX9_write_118 rfl ?_
    refine r_icmp_ne 192 dX9_write_119 (by decide) (fun c119 => ?_) (fun c119 => ?_)
    · refine r_iinc (nI (i + 1)) _ dX9_write_192 (by decide) rfl (nI_1 _) rfl ?_
      refine r_goto 102 dX9_write_195 (by decide) ?_
      first | exact ih (i + 1) N (by omega) hL hf (by rw [es, if_neg (fun z => c119 (by rw [z.1.1]))]; exact hD) | exact ih (i + 1) N (by omega) hL hf (by rw [es, if_neg (fun z => absurd c129 (by rw [z.1.2]; decide))]; exact hD) | exact ih (i + 1) N (by omega) hL hf (by rw [es, if_neg (fun z => c141 (by rw [z.2.1]))]; exact hD) | exact ih (i + 1) N (by omega) hL hf (by rw [es, if_neg (fun z => c157 (by rw [z.2.2]))]; exact hD) | exact ih (i + 1) M1 (by omega) hL (hf.tr hq1) hq2
    · refine r_aload_n dX9_write_122 rfl ?_
      refine r_getF kX9 (k := 10) (by decide) rfl fl_X9_23 (lay_ok hL rfl) (lay_r hL rfl) dX9_write_123 ?_
      refine r_iload dX9_write_126 rfl ?_
      refine r_zaldE (nI (ga g 1 v)) (lay_ok hL rfl) (by omega) (by omega) dX9_write_128 v3 ?_
      refine r_if_eq 192 dX9_write_129 (by decide) (fun c129 => ?_) (fun c129 => ?_)
      · refine r_iinc (nI (i + 1)) _ dX9_write_192 (by decide) rfl (nI_1 _) rfl ?_
        refine r_goto 102 dX9_write_195 (by decide) ?_
        first | exact ih (i + 1) N (by omega) hL hf (by rw [es, if_neg (fun z => c119 (by rw [z.1.1]))]; exact hD) | exact ih (i + 1) N (by omega) hL hf (by rw [es, if_neg (fun z => absurd c129 (by rw [z.1.2]; decide))]; exact hD) | exact ih (i + 1) N (by omega) hL hf (by rw [es, if_neg (fun z => c141 (by rw [z.2.1]))]; exact hD) | exact ih (i + 1) N (by omega) hL hf (by rw [es, if_neg (fun z => c157 (by rw [z.2.2]))]; exact hD) | exact ih (i + 1) M1 (by omega) hL (hf.tr hq1) hq2
      · refine r_aload_n dX9_write_132 rfl ?_
        refine r_getF kX9 (k := 12) (by decide) rfl fl_X9_30 (lay_ok hL rfl) (lay_r hL rfl) dX9_write_133 ?_
        refine r_iload dX9_write_136 rfl ?_
        refine r_ialdE (nI (ga g 2 i)) (lay_ok hL rfl) (by omega) (by omega) dX9_write_138 a0 ?_
        refine r_iload dX9_write_139 rfl ?_
        refine r_icmp_ne 192 dX9_write_141 (by decide) (fun c141 => ?_) (fun c141 => ?_)
        · refine r_iinc (nI (i + 1)) _ dX9_write_192 (by decide) rfl (nI_1 _) rfl ?_
          refine r_goto 102 dX9_write_195 (by decide) ?_
          first | exact ih (i + 1) N (by omega) hL hf (by rw [es, if_neg (fun z => c119 (by rw [z.1.1]))]; exact hD) | exact ih (i + 1) N (by omega) hL hf (by rw [es, if_neg (fun z => absurd c129 (by rw [z.1.2]; decide))]; exact hD) | exact ih (i + 1) N (by omega) hL hf (by rw [es, if_neg (fun z => c141 (by rw [z.2.1]))]; exact hD) | exact ih (i + 1) N (by omega) hL hf (by rw [es, if_neg (fun z => c157 (by rw [z.2.2]))]; exact hD) | exact ih (i + 1) M1 (by omega) hL (hf.tr hq1) hq2
        · refine r_aload_n dX9_write_144 rfl ?_
          refine r_getF kX9 (k := 11) (by decide) rfl fl_X9_27 (lay_ok hL rfl) (lay_r hL rfl) dX9_write_145 ?_
          refine r_aload_n dX9_write_148 rfl ?_
          refine r_getF kX9 (k := 13) (by decide) rfl fl_X9_33 (lay_ok hL rfl) (lay_r hL rfl) dX9_write_149 ?_
          refine r_iload dX9_write_152 rfl ?_
          refine r_ialdE (nI (ga g 3 i)) (lay_ok hL rfl) (by omega) (by omega) dX9_write_154 a1 ?_
          refine r_ialdE (nI (ga g 0 (ga g 3 i))) (lay_ok hL rfl) (by omega) (by omega) dX9_write_155 v9 ?_
          refine r_iload_n dX9_write_156 rfl ?_
          refine r_icmp_ne 192 dX9_write_157 (by decide) (fun c157 => ?_) (fun c157 => ?_)
          · refine r_iinc (nI (i + 1)) _ dX9_write_192 (by decide) rfl (nI_1 _) rfl ?_
            refine r_goto 102 dX9_write_195 (by decide) ?_
            first | exact ih (i + 1) N (by omega) hL hf (by rw [es, if_neg (fun z => c119 (by rw [z.1.1]))]; exact hD) | exact ih (i + 1) N (by omega) hL hf (by rw [es, if_neg (fun z => absurd c129 (by rw [z.1.2]; decide))]; exact hD) | exact ih (i + 1) N (by omega) hL hf (by rw [es, if_neg (fun z => c141 (by rw [z.2.1]))]; exact hD) | exact ih (i + 1) N (by omega) hL hf (by rw [es, if_neg (fun z => c157 (by rw [z.2.2]))]; exact hD) | exact ih (i + 1) M1 (by omega) hL (hf.tr hq1) hq2
          · have ec := es.trans (if_pos ⟨⟨(nI_eq (by omega) (by omega)).mp c119, Nat.le_antisymm w2 (Nat.pos_of_ne_zero (fun z => c129 (by rw [z]; rfl)))⟩, (nI_eq (by omega) (by omega)).mp c141, (nI_eq (by omega) (by omega)).mp c157⟩)
            rw [ec] at el
            refine r_aload_n dX9_write_160 rfl ?_
            refine r_iload_n dX9_write_161 rfl ?_
            refine r_aload_n dX9_write_162 rfl ?_
            refine r_getF kX9 (k := 13) (by decide) rfl fl_X9_33 (lay_ok hL rfl) (lay_r hL rfl) dX9_write_163 ?_
            refine r_iload dX9_write_166 rfl ?_
            refine r_ialdE (nI (ga g 3 i)) (lay_ok hL rfl) (by omega) (by omega) dX9_write_168 a1 ?_
            refine r_aload_n dX9_write_169 rfl ?_
            refine r_aload_n dX9_write_170 rfl ?_
            refine r_getF kX9 (k := 8) (by decide) rfl fl_X9_17 (lay_ok hL rfl) (lay_r hL rfl) dX9_write_171 ?_
            refine r_iload dX9_write_174 rfl ?_
            refine r_ialdE (gi g 1 v) (lay_ok hL rfl) (by omega) (by omega) dX9_write_176 v1 ?_
            refine r_aload_n dX9_write_177 rfl ?_
            refine r_getF kX9 (k := 14) (by decide) rfl fl_X9_36 (lay_ok hL rfl) (lay_r hL rfl) dX9_write_178 ?_
            refine r_iload dX9_write_181 rfl ?_
            refine r_ialdE (gi g 3 i) (lay_ok hL rfl) (by omega) (by omega) dX9_write_183 a2 ?_
            refine r_cV ca_yX9_message ml_X9_166 im_yX9_message se_yX9_message (by decide) rfl (lay_ok hL rfl) (c_X9_message hL s3 b4) ⟨by decide, by decide⟩ (by first | decide | omega) (by first | decide | omega) rfl (Nat.le_of_ble_eq_true rfl) dX9_write_184 ?_
            refine r_iload dX9_write_187 rfl ?_
            refine r_callV ca_yX9_addEntry ml_X9_169 im_yX9_addEntry se_yX9_addEntry (by decide) rfl (lay_ok hL rfl) (c_X9_addEntry hL hs s3 b4 s4 b5 (fun z => by have := b9; omega) hD el (by omega) em) ⟨by decide, by decide⟩ (by first | decide | omega) (by first | decide | omega) rfl (Nat.le_of_ble_eq_true rfl) dX9_write_189 (fun v0 M1 hp1 => ?_)
            obtain ⟨rfl, hq1, hq2⟩ := hp1
            rw [← ec] at hq2
            have hL := hq1.1.1.lay hL
            refine r_iinc (nI (i + 1)) _ dX9_write_192 (by decide) rfl (nI_1 _) rfl ?_
            refine r_goto 102 dX9_write_195 (by decide) ?_
            first | exact ih (i + 1) N (by omega) hL hf (by rw [es, if_neg (fun z => c119 (by rw [z.1.1]))]; exact hD) | exact ih (i + 1) N (by omega) hL hf (by rw [es, if_neg (fun z => absurd c129 (by rw [z.1.2]; decide))]; exact hD) | exact ih (i + 1) N (by omega) hL hf (by rw [es, if_neg (fun z => c141 (by rw [z.2.1]))]; exact hD) | exact ih (i + 1) N (by omega) hL hf (by rw [es, if_neg (fun z => c157 (by rw [z.2.2]))]; exact hD) | exact ih (i + 1) M1 (by omega) hL (hf.tr hq1) hq2
set_option maxHeartbeats 4000000 in
set_option maxRecDepth 100000 in
theorem l2_X9_write {l : Launch} {X : Nat × (Nat → Int32)} {M : am_M} {g : tG} {n o s : Nat} {Post : Option Value → am_M → Prop} (hS : yS M g) (hV : yV M g) (hA : yA M g) (hB : gB g) (hn : n < 5) (ho : o < 5) (hs : s < 160) (hN0 : 125 ≤ mN M) (kk : ∀ N', Lay N' → afr s M N' → DM N' s (t_ent g n o) → am_V l yX9_write cX9_write 6 (none) (am_R 2 0 0) 0 0 X Post 0 0 204 [some (.ref 93), some (.int (nI n)), some (.int (nI o)), some (.int (nI s)), some (.int (nI (gs g 1)))] [] N') : ∀ (k v : Nat) (N : am_M), v + k = gs g 1 → Lay N → afr s M N → DM N s (t_entP g n o v) → am_V l yX9_write cX9_write 6 (none) (am_R 2 0 0) 0 0 X Post 0 0 90 [some (.ref 93), some (.int (nI n)), some (.int (nI o)), some (.int (nI s)), some (.int (nI v))] [] N := by
  intro k
  have b2 := hB.2.2.1
  induction k with
  | zero =>
    intro v N hi hL hf hD
    obtain rfl : v = gs g 1 := by omega
    have s1 := hf.1.1.i (by omega) hS.2.1
    refine r_iload dX9_write_90 rfl ?_
    refine r_aload_n dX9_write_92 rfl ?_
    refine r_getE (nI (gs g 1)) kX9 (k := 1) (by decide) rfl fl_X9_115 (lay_ok hL rfl) dX9_write_93 s1 ?_
    refine r_icmp_ge 204 dX9_write_96 (by decide) (fun _ => ?_) (fun hq => absurd (nI_le (Nat.le_refl _) (by omega)) hq)
    exact kk N hL hf hD
  | succ k ih =>
    intro v N hi hL hf hD
    have s1 := hf.1.1.i (by omega) hS.2.1
    refine r_iload dX9_write_90 rfl ?_
    refine r_aload_n dX9_write_92 rfl ?_
    refine r_getE (nI (gs g 1)) kX9 (k := 1) (by decide) rfl fl_X9_115 (lay_ok hL rfl) dX9_write_93 s1 ?_
    refine r_icmp_ge 204 dX9_write_96 (by decide) (fun hq => absurd hq (nI_ge (by omega) (by omega))) (fun _ => ?_)
    refine r_iconst (nI 0) dX9_write_99 (by decide) ?_
    refine r_istore _ dX9_write_100 (by decide) rfl ?_
    exact l1_X9_write hS hV hA hB hn ho hs hN0 (v := v) (by omega) (fun N' h1 h2 h3 => ih (v + 1) N' (by omega) h1 h2 h3) (gs g 2) 0 N (by omega) hL hf (by rw [t_eV_0]; exact hD)
theorem gB_8 {g : tG} (hB : gB g) (w : Nat) : gB (us g 8 w) := hB
theorem fr_rS {S : Nat → Prop} {M M' : am_M} (h : am_fr S M M') (hS : ∀ x, S x → 93 ≤ x ∧ x ≤ 125) : am_fr rS M M' := h.wd hS
def w_hd (M : am_M) (s : Nat) (t : tL) : am_M := wI (wI (wI (wI (wI (wI (wI M 105 s 1) 106 s (nI t.1)) 107 s (nI t.2.1)) 108 s (nI t.2.2.1)) 109 s (nI t.2.2.2.1)) 110 s (nI t.2.2.2.2.1)) 111 s 0
theorem w_hd_f (M : am_M) (s : Nat) (t : tL) : sfr (fun x => x = s) M (w_hd M s t) ∧ mI (w_hd M s t) 105 s = 1 ∧ mI (w_hd M s t) 106 s = nI t.1 ∧ mI (w_hd M s t) 107 s = nI t.2.1 ∧ mI (w_hd M s t) 108 s = nI t.2.2.1 ∧ mI (w_hd M s t) 109 s = nI t.2.2.2.1 ∧ mI (w_hd M s t) 110 s = nI t.2.2.2.2.1 ∧ mI (w_hd M s t) 111 s = 0 := by
  refine ⟨((((((sfr.w1 (by decide) (by decide)).tr (sfr.w1 (by decide) (by decide))).tr (sfr.w1 (by decide) (by decide))).tr (sfr.w1 (by decide) (by decide))).tr (sfr.w1 (by decide) (by decide))).tr (sfr.w1 (by decide) (by decide))).tr (sfr.w1 (by decide) (by decide)), ?_, ?_, ?_, ?_, ?_, ?_, ?_⟩ <;> simp [w_hd, mI_wI]
set_option maxHeartbeats 4000000 in
set_option maxRecDepth 100000 in
theorem l_X9_write {l : Launch} {X : Nat × (Nat → Int32)} {M : am_M} {g : tG} {n : Nat} (hB : gB g) (hn : n < gs g 0) (hr : ga g 4 n ≤ 199) : ∀ (k i : Nat) (N : am_M), i + k = gs g 0 → Lay N → absM N (itr (fun o => g_write1 n o) i g) → am_fr rS M N → am_V l yX9_write cX9_write 6 (none) (am_R 2 0 0) 0 0 X (fun v M' => v = none ∧ absM M' (g_write n g) ∧ Lay M' ∧ am_fr rS M M') 0 0 2 [some (.ref 93), some (.int (nI n)), some (.int (nI i))] [] N := by
  intro k
  have b1 : gs g 0 ≤ 5 := hB.2.1
  induction k with
  | zero =>
    intro i N hi hL hA hf
    obtain rfl : i = gs g 0 := by omega
    have s0 := hA.1.1
    rw [(sameW_itr n g (gs g 0)).2.2.2.2 0 (by decide)] at s0
    refine r_iload_n dX9_write_2 rfl ?_
    refine r_aload_n dX9_write_3 rfl ?_
    refine r_getE (nI (gs g 0)) kX9 (k := 0) (by decide) rfl fl_X9_7 (lay_ok hL rfl) dX9_write_4 s0 ?_
    refine r_icmp_ge 248 dX9_write_7 (by decide) (fun _ => ?_) (fun hq => absurd (nI_le (Nat.le_refl _) (by omega)) hq)
    exact r_vret rfl dX9_write_248 ⟨rfl, hA, hL, hf⟩
  | succ k ih =>
    intro i N hi hL hA hf
    have sw := sameW_itr n g i
    have hBi := gB_itr hB hn hr i (by omega)
    have s0 := hA.1.1
    rw [sw.2.2.2.2 0 (by decide)] at s0
    have e := itr_s (fun o => g_write1 n o) i g
    have e0 : gs (itr (fun o => g_write1 n o) i g) 0 = gs g 0 := sw.2.2.2.2 0 (by decide)
    have hr2 : ga (itr (fun o => g_write1 n o) i g) 4 n ≤ 199 := by rw [sw.1]; exact hr
    by_cases ci : i = n
    · skip
      refine r_iload_n dX9_write_2 rfl ?_
      refine r_aload_n dX9_write_3 rfl ?_
      refine r_getE (nI (gs g 0)) kX9 (k := 0) (by decide) rfl fl_X9_7 (lay_ok hL rfl) dX9_write_4 s0 ?_
      refine r_icmp_ge 248 dX9_write_7 (by decide) (fun hq => absurd hq (nI_ge (by omega) (by omega))) (fun _ => ?_)
      refine r_iload_n dX9_write_10 rfl ?_
      refine r_iload_n dX9_write_11 rfl ?_
      refine r_icmp_ne 18 dX9_write_12 (by decide) (fun hq => absurd (by rw [ci]) hq) (fun _ => ?_)
      refine r_goto 242 dX9_write_15 (by decide) ?_
      refine r_iinc (nI (i + 1)) _ dX9_write_242 (by decide) rfl (nI_1 _) rfl ?_
      refine r_goto 2 dX9_write_245 (by decide) ?_
      exact ih (i + 1) N (by omega) hL (by rw [e, write1_eq ci]; exact hA) hf
    · rw [write1_ne ci] at e
      generalize itr (fun o => g_write1 n o) i g = h at hA hBi e e0 hr2
      have hN1 := hL.1
      have hn5 : n < 5 := by omega
      have hi5 : i < 5 := by omega
      have okt := okL_let (o := i) hBi (by omega) (by omega) ci hr2
      obtain ⟨s1, s2, s3, s4, s5, s6, s7, s8, s9, s10⟩ := hA.1
      have n4 := (hA.2.2.2.1 n hn5).1
      have f6 : sfr (fun x => x = 60 + 10 * n + 5 * 1 + i) N (wI (wI (wI (wI (wI N 105 (60 + 10 * n + 5 * 1 + i) 1) 106 (60 + 10 * n + 5 * 1 + i) (nI (gs h 7))) 107 (60 + 10 * n + 5 * 1 + i) (nI (ga h 4 n))) 108 (60 + 10 * n + 5 * 1 + i) (nI n)) 109 (60 + 10 * n + 5 * 1 + i) (nI i)) := ((((sfr.w1 (by decide) (by decide)).tr (sfr.w1 (by decide) (by decide))).tr (sfr.w1 (by decide) (by decide))).tr (sfr.w1 (by decide) (by decide))).tr (sfr.w1 (by decide) (by decide))
      have hV6 := hA.2.1.gr f6.1.gr hL.1 (fun x a b => by omega)
      have s16 := f6.1.i (by omega) s2
      have hh := w_hd_f N (60 + 10 * n + 5 * 1 + i) (t_let h n i)
      have hgh := hh.1.1.gr
      have hSh := hA.1.gr hgh hL.1 (by omega) (by omega)
      have hVh := hA.2.1.gr hgh hL.1 (fun x a b => by omega)
      have hAh := hA.2.2.1.gr hgh hL.1 (fun x a b => by omega)
      have hLh := hh.1.1.lay hL
      have hsl : slotOf 3 n i = 60 + 10 * n + 5 * 1 + i := by unfold slotOf; rw [if_neg (by decide)]
      refine r_iload_n dX9_write_2 rfl ?_
      refine r_aload_n dX9_write_3 rfl ?_
      refine r_getE (nI (gs g 0)) kX9 (k := 0) (by decide) rfl fl_X9_7 (lay_ok hL rfl) dX9_write_4 s0 ?_
      refine r_icmp_ge 248 dX9_write_7 (by decide) (fun hq => absurd hq (nI_ge (by omega) (by omega))) (fun _ => ?_)
      refine r_iload_n dX9_write_10 rfl ?_
      refine r_iload_n dX9_write_11 rfl ?_
      refine r_icmp_ne 18 dX9_write_12 (by decide) (fun _ => ?_) (fun hq => absurd hq (fun z => ci ((nI_eq (by omega) (by omega)).mp z)))
      refine r_aload_n dX9_write_18 rfl ?_
      refine r_iload_n dX9_write_19 rfl ?_
      refine r_iconst (nI 1) dX9_write_20 (by decide) ?_
      refine r_iload_n dX9_write_21 rfl ?_
      refine r_cV ca_yX9_keeps ml_X9_158 im_yX9_keeps se_yX9_keeps (by decide) rfl (lay_ok hL rfl) (c_X9_keeps hL) ⟨by decide, by decide⟩ (by first | decide | omega) (by first | decide | omega) rfl (Nat.le_of_ble_eq_true rfl) dX9_write_22 ?_
      refine r_istore_n _ dX9_write_25 (by decide) rfl ?_
      refine r_aload_n dX9_write_26 rfl ?_
      refine r_getF kX9 (k := 19) (by decide) rfl fl_X9_48 (lay_ok hL rfl) (lay_r hL rfl) dX9_write_27 ?_
      refine r_iload_n dX9_write_30 rfl ?_
      refine r_iconst (1) dX9_write_31 (by decide) ?_
      refine r_zastN (lay_ok hL rfl) (by omega) (by decide) (by decide) dX9_write_32 ?_
      refine r_lay (lay_wI hL _ _ _) (fun hL => ?_)
      refine r_aload_n dX9_write_33 rfl ?_
      refine r_getF kX9 (k := 20) (by decide) rfl fl_X9_51 (lay_ok hL rfl) (lay_r hL rfl) dX9_write_34 ?_
      refine r_iload_n dX9_write_37 rfl ?_
      refine r_aload_n dX9_write_38 rfl ?_
      refine r_getE (nI (gs h 7)) kX9 (k := 33) (by decide) rfl fl_X9_137 (lay_ok hL rfl) dX9_write_39 (by rw [mI_wI_n _ _ _ (by decide)]; exact s8) ?_
      refine r_iastN (lay_ok hL rfl) (by omega) (by decide) dX9_write_42 ?_
      refine r_lay (lay_wI hL _ _ _) (fun hL => ?_)
      refine r_aload_n dX9_write_43 rfl ?_
      refine r_getF kX9 (k := 21) (by decide) rfl fl_X9_54 (lay_ok hL rfl) (lay_r hL rfl) dX9_write_44 ?_
      refine r_iload_n dX9_write_47 rfl ?_
      refine r_aload_n dX9_write_48 rfl ?_
      refine r_getF kX9 (k := 15) (by decide) rfl fl_X9_39 (lay_ok hL rfl) (lay_r hL rfl) dX9_write_49 ?_
      refine r_iload_n dX9_write_52 rfl ?_
      refine r_ialdE (nI (ga h 4 n)) (lay_ok hL rfl) (by omega) (by omega) dX9_write_53 (by rw [mI_wI_n _ _ _ (by decide), mI_wI_n _ _ _ (by decide)]; exact n4) ?_
      refine r_iastN (lay_ok hL rfl) (by omega) (by decide) dX9_write_54 ?_
      refine r_lay (lay_wI hL _ _ _) (fun hL => ?_)
      refine r_aload_n dX9_write_55 rfl ?_
      refine r_getF kX9 (k := 22) (by decide) rfl fl_X9_57 (lay_ok hL rfl) (lay_r hL rfl) dX9_write_56 ?_
      refine r_iload_n dX9_write_59 rfl ?_
      refine r_iload_n dX9_write_60 rfl ?_
      refine r_iastN (lay_ok hL rfl) (by omega) (by decide) dX9_write_61 ?_
      refine r_lay (lay_wI hL _ _ _) (fun hL => ?_)
      refine r_aload_n dX9_write_62 rfl ?_
      refine r_getF kX9 (k := 23) (by decide) rfl fl_X9_60 (lay_ok hL rfl) (lay_r hL rfl) dX9_write_63 ?_
      refine r_iload_n dX9_write_66 rfl ?_
      refine r_iload_n dX9_write_67 rfl ?_
      refine r_iastN (lay_ok hL rfl) (by omega) (by decide) dX9_write_68 ?_
      refine r_lay (lay_wI hL _ _ _) (fun hL => ?_)
      refine r_aload_n dX9_write_69 rfl ?_
      refine r_getF kX9 (k := 24) (by decide) rfl fl_X9_63 (lay_ok hL rfl) (lay_r hL rfl) dX9_write_70 ?_
      refine r_iload_n dX9_write_73 rfl ?_
      refine r_aload_n dX9_write_74 rfl ?_
      refine r_iload_n dX9_write_75 rfl ?_
      refine r_cV ca_yX9_activeAt ml_X9_162 im_yX9_activeAt se_yX9_activeAt (by decide) rfl (lay_ok hL rfl) (c_X9_activeAt hL s16 hV6 hBi hn5) ⟨by decide, by decide⟩ (by first | decide | omega) (by first | decide | omega) rfl (Nat.le_of_ble_eq_true rfl) dX9_write_76 ?_
      refine r_iastN (lay_ok hL rfl) (by omega) (by decide) dX9_write_79 ?_
      refine r_lay (lay_wI hL _ _ _) (fun hL => ?_)
      refine r_aload_n dX9_write_80 rfl ?_
      refine r_getF kX9 (k := 25) (by decide) rfl fl_X9_66 (lay_ok hL rfl) (lay_r hL rfl) dX9_write_81 ?_
      refine r_iload_n dX9_write_84 rfl ?_
      refine r_iconst (0) dX9_write_85 (by decide) ?_
      refine r_iastN (lay_ok hL rfl) (by omega) (by decide) dX9_write_86 ?_
      refine r_lay (lay_wI hL _ _ _) (fun hL => ?_)
      refine r_iconst (nI 0) dX9_write_87 (by decide) ?_
      refine r_istore _ dX9_write_88 (by decide) rfl ?_
      refine r_mem (w_hd N (60 + 10 * n + 5 * 1 + i) (t_let h n i)) rfl ?_
      refine l2_X9_write (s := 60 + 10 * n + 5 * 1 + i) hSh hVh hAh hBi hn5 hi5 (by omega) hLh.1 (fun N2 q1 q2 q3 => ?_) (gs h 1) 0 _ (by omega) hLh afr.rf ⟨hh.2.2.2.2.2.2.2, by show 0 ≤ 40; decide, fun j e he => by cases he⟩
      have hL := q1
      have hf2 := hh.1.tr q2.1
      have hz2 : yZ N2 := yZ_sf hA.2.2.2.2.2.2.2 hf2 (by rw [q2.2 105 (by decide) (by decide), hh.2.1]; exact Or.inr rfl) ⟨_, q3.2.1, q3.1⟩
      have hy2 : yO N2 (60 + 10 * n + 5 * 1 + i) (some (t_let h n i)) := yO_let (by rw [q2.2 105 (by decide) (by decide)]; exact hh.2.1) (by rw [q2.2 106 (by decide) (by decide)]; exact hh.2.2.1) (by rw [q2.2 107 (by decide) (by decide)]; exact hh.2.2.2.1) (by rw [q2.2 108 (by decide) (by decide)]; exact hh.2.2.2.2.1) (by rw [q2.2 109 (by decide) (by decide)]; exact hh.2.2.2.2.2.1) (by rw [q2.2 110 (by decide) (by decide)]; exact hh.2.2.2.2.2.2.1) q3
      have hA2 := absM_set hN1 hBi hA (k := 3) (by decide) hn5 hi5 (by rw [hsl]; exact hf2) hz2 (by rw [hsl]; exact hy2)
      have hB2 := gB_hold hBi okt 3 n i
      have hA3 := absM_s (f := 34) (j := 8) q1.1 hA2 (gs h 8 + 1) (by omega)
      have hB3 : gB (us (ul h (l_set (gl h) 3 n i (some (t_let h n i)))) 8 (gs h 8 + 1)) := gB_8 hB2 _
      have n8 : mI N2 93 34 = nI (gs h 8) := hA2.1.2.2.2.2.2.2.2.2.1
      have n18 : mI (wI N2 93 34 (nI (gs h 8 + 1))) 93 18 = nI (gn h).length := hA3.2.2.2.2.1.1
      have hz3 : yZ (wI N2 93 34 (nI (gs h 8 + 1))) := hA3.2.2.2.2.2.2.2
      have hff : am_fr rS M (wI N2 93 34 (nI (gs h 8 + 1))) := (hf.tr (hf2.1.wd (fun x a => by have := a.1; have := a.2; exact ⟨by omega, by omega⟩))).tr (am_fr.wI _ _ ⟨by decide, by decide⟩)
      have hy3 : yO (wI N2 93 34 (nI (gs h 8 + 1))) (60 + 10 * n + 5 * 1 + i) (some (t_let h n i)) := hy2.gr (am_gr.wI (S := fun x => x = 93) _ _ rfl) q1.1 (fun x a b => by omega)
      by_cases c60 : (gn h).length < 60
      · skip
        refine r_aload_n dX9_write_204 rfl ?_
        refine r_dup dX9_write_205 rfl ?_
        refine r_getE (nI (gs h 8)) kX9 (k := 34) (by decide) rfl fl_X9_140 (lay_ok hL rfl) dX9_write_206 n8 ?_
        refine r_iconst (1) dX9_write_209 (by decide) ?_
        refine r_iadd dX9_write_210 ?_
        refine r_top (nI (gs h 8 + 1)) (nI_1 _) ?_
        refine r_putI kX9 (k := 34) (by decide) rfl (Or.inl rfl) fl_X9_140 (lay_ok hL rfl) ⟨rfl, rfl⟩ dX9_write_211 ?_
        refine r_lay (lay_wI hL _ _ _) (fun hL => ?_)
        refine r_aload_n dX9_write_214 rfl ?_
        refine r_getE (nI (gn h).length) kX9 (k := 18) (by decide) rfl fl_X9_134 (lay_ok hL rfl) dX9_write_215 n18 ?_
        refine r_bipush (nI 60) dX9_write_218 (by decide) ?_
        refine r_icmp_ge 242 dX9_write_220 (by decide) (fun hq => absurd hq (nI_ge (by omega) (by decide))) (fun _ => ?_)
        refine r_aload_n dX9_write_223 rfl ?_
        refine r_iload_n dX9_write_224 rfl ?_
        refine r_aload_n dX9_write_225 rfl ?_
        refine r_getE (nI (gn h).length) kX9 (k := 18) (by decide) rfl fl_X9_134 (lay_ok hL rfl) dX9_write_226 n18 ?_
        refine r_callV ca_yX9_lay ml_X9_173 im_yX9_lay se_yX9_lay (by decide) rfl (lay_ok hL rfl) (c_X9_lay hL (a := 60 + 10 * n + 5 * 1 + i) (b := (gn h).length) (by omega) (by omega) (by omega) hz3) ⟨by decide, by decide⟩ (by first | decide | omega) (by first | decide | omega) rfl (Nat.le_of_ble_eq_true rfl) dX9_write_229 (fun v0 M1 hp1 => ?_)
        obtain ⟨rfl, y1, y2, y3⟩ := hp1
        have hy4 := y3 _ (fun u hu => by cases hu; exact okt.2.2.2.2.2.2.1) hy3
        have n19 := y1.1.i (by omega) n18
        have hA4 := absM_push (M := wI N2 93 34 (nI (gs h 8 + 1))) (t := t_let h n i) q1.1 hB3 hA3 c60 y1 y2 hy4
        have hL4 := y1.1.lay hL
        have hff4 := (hff.tr (y1.1.wd (fun x a => by have := a.1; have := a.2; exact ⟨by omega, by omega⟩))).tr (am_fr.wI (a := 93) 18 (nI ((gn h).length + 1)) ⟨by decide, by decide⟩)
        have hL := hL4
        refine r_aload_n dX9_write_232 rfl ?_
        refine r_dup dX9_write_233 rfl ?_
        refine r_getE (nI (gn h).length) kX9 (k := 18) (by decide) rfl fl_X9_134 (lay_ok hL rfl) dX9_write_234 n19 ?_
        refine r_iconst (1) dX9_write_237 (by decide) ?_
        refine r_iadd dX9_write_238 ?_
        refine r_top (nI ((gn h).length + 1)) (nI_1 _) ?_
        refine r_putI kX9 (k := 18) (by decide) rfl (Or.inl rfl) fl_X9_134 (lay_ok hL rfl) ⟨rfl, rfl⟩ dX9_write_239 ?_
        refine r_lay (lay_wI hL _ _ _) (fun hL => ?_)
        refine r_iinc (nI (i + 1)) _ dX9_write_242 (by decide) rfl (nI_1 _) rfl ?_
        refine r_goto 2 dX9_write_245 (by decide) ?_
        refine r_take 3 ?_
        exact ih (i + 1) _ (by omega) hL (by rw [e]; unfold t_push; rw [if_pos c60]; exact hA4) hff4
      · skip
        refine r_aload_n dX9_write_204 rfl ?_
        refine r_dup dX9_write_205 rfl ?_
        refine r_getE (nI (gs h 8)) kX9 (k := 34) (by decide) rfl fl_X9_140 (lay_ok hL rfl) dX9_write_206 n8 ?_
        refine r_iconst (1) dX9_write_209 (by decide) ?_
        refine r_iadd dX9_write_210 ?_
        refine r_top (nI (gs h 8 + 1)) (nI_1 _) ?_
        refine r_putI kX9 (k := 34) (by decide) rfl (Or.inl rfl) fl_X9_140 (lay_ok hL rfl) ⟨rfl, rfl⟩ dX9_write_211 ?_
        refine r_lay (lay_wI hL _ _ _) (fun hL => ?_)
        refine r_aload_n dX9_write_214 rfl ?_
        refine r_getE (nI (gn h).length) kX9 (k := 18) (by decide) rfl fl_X9_134 (lay_ok hL rfl) dX9_write_215 n18 ?_
        refine r_bipush (nI 60) dX9_write_218 (by decide) ?_
        refine r_icmp_ge 242 dX9_write_220 (by decide) (fun _ => ?_) (fun hq => absurd (nI_le (by omega) (by have := hBi.2.2.2.2.2.2.2.2.2.2.2.2.2.1; omega)) hq)
        refine r_iinc (nI (i + 1)) _ dX9_write_242 (by decide) rfl (nI_1 _) rfl ?_
        refine r_goto 2 dX9_write_245 (by decide) ?_
        refine r_take 3 ?_
        exact ih (i + 1) _ (by omega) hL (by rw [e]; unfold t_push; rw [if_neg c60]; exact hA3) hff
set_option maxHeartbeats 4000000 in
set_option maxRecDepth 100000 in
theorem c_X9_write {l : Launch} {X : Nat × (Nat → Int32)} {M : am_M} (hL : Lay M) {g : tG} {n : Nat} (hA : absM M g) (hB : gB g) (hn : n < gs g 0) (hr : ga g 4 n ≤ 199) : am_C l yX9_write cX9_write 6 (none) 2 0 0 X [.ref 93, .int (nI n)] M (fun v M' => v = none ∧ absM M' (g_write n g) ∧ Lay M' ∧ am_fr rS M M') := by
  refine am_C.of (by decide) (by simp [Value.category, va_rf]) (Nat.le_of_ble_eq_true rfl) ?_
  refine r_iconst (nI 0) dX9_write_0 (by decide) ?_
  refine r_istore_n _ dX9_write_1 (by decide) rfl ?_
  exact l_X9_write hB hn hr (gs g 0) 0 M (by omega) hL hA am_fr.rf
