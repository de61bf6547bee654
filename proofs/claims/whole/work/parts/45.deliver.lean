/-! RESEND, DELIVER -/
set_option maxHeartbeats 4000000 in
set_option maxRecDepth 100000 in
theorem l2_X8_resend {l : Launch} {X : Nat × (Nat → Int32)} {M N : am_M} {g : tG} {cn : Nat} {a b : Nat} (ha : a < 5) (hb : b < 5) {kk : Int32 × tG} (hL : Lay N) (hA : absX N g) (hB : gB g) (hg : am_gr (fun x => x ≤ 92) M N) (hk : kk = (nI cn, g)) : am_V l yX8_resend cX8_resend 7 (some .int) (am_R 2 0 0) 0 0 X (fun v M' => v = some (.int (kk).1) ∧ absX M' (kk).2 ∧ Lay M' ∧ am_gr (fun x => x ≤ 92) M M') 0 0 58 [some (.ref 1), some (.int (nI a)), some (.int (nI b)), some (.ref (28 + 13 * a)), some (.int (nI (cn))), some (.int (nI (ga g 4 a + 1)))] [] N := by
  have x4 := (hA.2.2.2.1 a ha).1
  have y4 := (hB.2.2.2.2.2.2.2.2.2.2.2.2.1 a ha).1
  refine r_iload dX8_resend_58 rfl ?_
  refine r_aload_n dX8_resend_60 rfl ?_
  refine r_getE (nI (ga g 4 a)) kX6 (k := 4) (by decide) rfl fl_X8_178 (lay_ok hL (sh_n0 ha)) dX8_resend_61 x4 ?_
  refine r_icmp_gt 102 dX8_resend_64 (by decide) (fun _ => ?_) (fun hq => absurd (nI_lt (by omega) (by omega)) hq)
  refine r_iload dX8_resend_102 rfl ?_
  exact r_iret (Or.inl rfl) dX8_resend_104 ⟨by rw [hk], by rw [hk]; exact hA, hL, hg⟩
theorem un_id (g : tG) : un g (gn g) = g := rfl
theorem gB_push {g : tG} {t : tL} (hB : gB g) (ht : okL g t) (hl : (gn g).length < 60) : gB (un g (gn g ++ [t])) := by
  obtain ⟨b0, b1, b2, b3, b4, b5, b6, b7, b8, b9, bV, bA, bN, bl, bn, bh⟩ := hB
  refine ⟨b0, b1, b2, b3, b4, b5, b6, b7, b8, b9, bV, bA, bN, ?_, fun u hu => ?_, bh⟩
  · show (gn g ++ [t]).length ≤ 60
    simp
    omega
  · have hu : u ∈ gn g ++ [t] := hu
    rcases List.mem_append.mp hu with h | h
    · exact bn u h
    · rw [List.mem_singleton.mp h]; exact ht
theorem sub1_1 (n : Nat) : nI n - 1 + Int32.ofInt 1 = nI n := by
  show nI n - 1 + 1 = nI n
  rw [Int32.sub_add_cancel]
theorem sub1_ngt {n : Nat} (h : n < 2 ^ 30) : ¬ nI n < nI n - 1 := by
  cases n with
  | zero => decide
  | succ k => rw [nI_sub1 (by omega)]; exact nI_nlt (by omega) (by omega)
set_option maxHeartbeats 4000000 in
set_option maxRecDepth 100000 in
theorem l1_X8_resend {l : Launch} {X : Nat × (Nat → Int32)} {M N : am_M} {g : tG} {cn : Nat} {a b : Nat} (ha : a < 5) (hb : b < 5) {kk : Int32 × tG} (hL : Lay N) (hA : absX N g) (hB : gB g) (hg : am_gr (fun x => x ≤ 92) M N) (hk : kk = (nI (cn + t_re1 a b 1 g), g_re1 a b 1 g)) : am_V l yX8_resend cX8_resend 7 (some .int) (am_R 2 0 0) 0 0 X (fun v M' => v = some (.int (kk).1) ∧ absX M' (kk).2 ∧ Lay M' ∧ am_gr (fun x => x ≤ 92) M M') 0 0 58 [some (.ref 1), some (.int (nI a)), some (.int (nI b)), some (.ref (28 + 13 * a)), some (.int (nI (cn))), some (.int (nI (ga g 4 a)))] [] N := by
  have x4 := (hA.2.2.2.1 a ha).1
  have y4 := (hB.2.2.2.2.2.2.2.2.2.2.2.2.1 a ha).1
  have hx : (nI (ga g 4 a) : Int32) &&& 1 = nI ((ga g 4 a + 1 + 1) % 2) := by rw [show (ga g 4 a + 1 + 1) % 2 = ga g 4 a % 2 by omega]; exact and1 (by omega)
  have hO := (hA.2.2.2.2.2.1 a b 1 ha hb (by decide)).2
  have hlen := hA.2.2.2.2.1
  have hb60 := hB.2.2.2.2.2.2.2.2.2.2.2.2.2.1
  cases hc : gl g (2 + 1) a b with
  | none =>
    rw [hc] at hO
    have e0 := isO_none hO
    refine r_iload dX8_resend_58 rfl ?_
    refine r_aload_n dX8_resend_60 rfl ?_
    refine r_getE (nI (ga g 4 a)) kX6 (k := 4) (by decide) rfl fl_X8_178 (lay_ok hL (sh_n0 ha)) dX8_resend_61 x4 ?_
    refine r_icmp_gt 102 dX8_resend_64 (by decide) (fun hq => absurd hq (nI_nlt (Nat.le_refl _) (by omega))) (fun _ => ?_)
    refine r_aload_n dX8_resend_67 rfl ?_
    refine r_iload_n dX8_resend_68 rfl ?_
    refine r_iload dX8_resend_69 rfl ?_
    refine r_cV ca_yX6_keptFor ml_X8_179 im_yX6_keptFor se_yX6_keptFor (by decide) rfl (lay_ok hL (sh_n0 ha)) (c_X6_keptFor hL ha (p := (ga g 4 a + 1 + 1) % 2) (q := b) hx (by omega) hb) ⟨by decide, by decide⟩ (by first | decide | omega) (by first | decide | omega) rfl (Nat.le_of_ble_eq_true rfl) dX8_resend_71 ?_
    rw [e0]
    refine r_astoreq _ dX8_resend_74 (by decide) rfl ?_
    refine r_aloadq dX8_resend_76 rfl ?_
    refine r_ifnull (r := none) 96 dX8_resend_78 (by decide) (fun _ => ?_) (fun _ hq => by cases hq)
    refine r_iinc (nI (ga g 4 a + 1)) _ dX8_resend_96 (by decide) rfl (nI_1 _) rfl ?_
    refine r_goto 58 dX8_resend_99 (by decide) ?_
    refine r_take 6 ?_
    exact l2_X8_resend (g := g) (cn := cn) ha hb hL hA hB hg (by rw [hk]; simp only [g_re1, t_re1, hc, Nat.add_zero, Nat.zero_add])
  | some t =>
    obtain ⟨A, e0, hl⟩ : ∃ A, mR N (28 + 13 * a + 2) ((ga g 4 a + 1 + 1) % 2 * 5 + b) = some A ∧ isL N A t := by
      cases e : mR N (28 + 13 * a + 2) ((ga g 4 a + 1 + 1) % 2 * 5 + b) with
      | none => rw [e, hc] at hO; exact hO.elim
      | some A => rw [e, hc] at hO; exact ⟨A, rfl, hO⟩
    have l1 := hl.1
    by_cases c7 : (gn g).length < 60
    · have hq := absX_net hL.1 hA hl c7
      have hq2 : gB (un g (gn g ++ [t])) := gB_push hB (hB.2.2.2.2.2.2.2.2.2.2.2.2.2.2.2 _ _ _ _ hc) c7
      have hg2 : am_gr (fun x => x ≤ 92) N (wI (wR N 25 (gn g).length (some A)) 24 1 (nI ((gn g).length + 1))) := (am_gr.wR _ _ (by decide)).tr (am_gr.wI _ _ (by decide))
      refine r_iload dX8_resend_58 rfl ?_
      refine r_aload_n dX8_resend_60 rfl ?_
      refine r_getE (nI (ga g 4 a)) kX6 (k := 4) (by decide) rfl fl_X8_178 (lay_ok hL (sh_n0 ha)) dX8_resend_61 x4 ?_
      refine r_icmp_gt 102 dX8_resend_64 (by decide) (fun hq => absurd hq (nI_nlt (Nat.le_refl _) (by omega))) (fun _ => ?_)
      refine r_aload_n dX8_resend_67 rfl ?_
      refine r_iload_n dX8_resend_68 rfl ?_
      refine r_iload dX8_resend_69 rfl ?_
      refine r_cV ca_yX6_keptFor ml_X8_179 im_yX6_keptFor se_yX6_keptFor (by decide) rfl (lay_ok hL (sh_n0 ha)) (c_X6_keptFor hL ha (p := (ga g 4 a + 1 + 1) % 2) (q := b) hx (by omega) hb) ⟨by decide, by decide⟩ (by first | decide | omega) (by first | decide | omega) rfl (Nat.le_of_ble_eq_true rfl) dX8_resend_71 ?_
      rw [e0]
      refine r_astore _ dX8_resend_74 (by decide) rfl ?_
      refine r_aload dX8_resend_76 rfl ?_
      refine r_ifnull (r := some A) 96 dX8_resend_78 (by decide) (fun hq => by cases hq) (fun _ _ => ?_)
      refine r_aload_n dX8_resend_81 rfl ?_
      refine r_getF kX8 (k := 5) (by decide) rfl fl_X8_45 (lay_ok hL rfl) (lay_r hL rfl) dX8_resend_82 ?_
      refine r_aload dX8_resend_85 rfl ?_
      refine r_cV ca_yX5_add ml_X8_171 im_yX5_add se_yX5_add (by decide) rfl (lay_ok hL rfl) (c_X5_add hL l1 hlen.1 hlen.2.1) ⟨by decide, by decide⟩ (by first | decide | omega) (by first | decide | omega) rfl (Nat.le_of_ble_eq_true rfl) dX8_resend_87 ?_
      rw [if_pos c7, if_pos c7]
      have hL2 : Lay (wI (wR N 25 (gn g).length (some A)) 24 1 (nI ((gn g).length + 1))) := lay_wI (lay_wR hL _ rfl) _ _ _
      refine r_if_eq 96 dX8_resend_90 (by decide) (fun hq => absurd hq (by decide)) (fun _ => ?_)
      refine r_iinc (nI (cn + 1)) _ dX8_resend_93 (by decide) rfl (nI_1 _) rfl ?_
      refine r_iinc (nI (ga g 4 a + 1)) _ dX8_resend_96 (by decide) rfl (nI_1 _) rfl ?_
      refine r_goto 58 dX8_resend_99 (by decide) ?_
      refine r_take 6 ?_
      exact l2_X8_resend (g := (un g (gn g ++ [t]))) (cn := (cn + 1)) ha hb hL2 hq hq2 (hg.tr hg2) (by rw [hk]; simp only [g_re1, t_re1, hc, t_push, if_pos c7, Nat.add_assoc, Nat.add_zero])
    · skip
      refine r_iload dX8_resend_58 rfl ?_
      refine r_aload_n dX8_resend_60 rfl ?_
      refine r_getE (nI (ga g 4 a)) kX6 (k := 4) (by decide) rfl fl_X8_178 (lay_ok hL (sh_n0 ha)) dX8_resend_61 x4 ?_
      refine r_icmp_gt 102 dX8_resend_64 (by decide) (fun hq => absurd hq (nI_nlt (Nat.le_refl _) (by omega))) (fun _ => ?_)
      refine r_aload_n dX8_resend_67 rfl ?_
      refine r_iload_n dX8_resend_68 rfl ?_
      refine r_iload dX8_resend_69 rfl ?_
      refine r_cV ca_yX6_keptFor ml_X8_179 im_yX6_keptFor se_yX6_keptFor (by decide) rfl (lay_ok hL (sh_n0 ha)) (c_X6_keptFor hL ha (p := (ga g 4 a + 1 + 1) % 2) (q := b) hx (by omega) hb) ⟨by decide, by decide⟩ (by first | decide | omega) (by first | decide | omega) rfl (Nat.le_of_ble_eq_true rfl) dX8_resend_71 ?_
      rw [e0]
      refine r_astore _ dX8_resend_74 (by decide) rfl ?_
      refine r_aload dX8_resend_76 rfl ?_
      refine r_ifnull (r := some A) 96 dX8_resend_78 (by decide) (fun hq => by cases hq) (fun _ _ => ?_)
      refine r_aload_n dX8_resend_81 rfl ?_
      refine r_getF kX8 (k := 5) (by decide) rfl fl_X8_45 (lay_ok hL rfl) (lay_r hL rfl) dX8_resend_82 ?_
      refine r_aload dX8_resend_85 rfl ?_
      refine r_cV ca_yX5_add ml_X8_171 im_yX5_add se_yX5_add (by decide) rfl (lay_ok hL rfl) (c_X5_add hL l1 hlen.1 hlen.2.1) ⟨by decide, by decide⟩ (by first | decide | omega) (by first | decide | omega) rfl (Nat.le_of_ble_eq_true rfl) dX8_resend_87 ?_
      rw [if_neg c7, if_neg c7]
      refine r_if_eq 96 dX8_resend_90 (by decide) (fun _ => ?_) (fun hq => absurd (by decide) hq)
      refine r_iinc (nI (ga g 4 a + 1)) _ dX8_resend_96 (by decide) rfl (nI_1 _) rfl ?_
      refine r_goto 58 dX8_resend_99 (by decide) ?_
      refine r_take 6 ?_
      exact l2_X8_resend (g := g) (cn := cn) ha hb hL hA hB hg (by rw [hk]; simp only [g_re1, t_re1, hc, t_push, if_neg c7, Nat.add_zero, Nat.zero_add, un_id])
set_option maxHeartbeats 4000000 in
set_option maxRecDepth 100000 in
theorem l0_X8_resend {l : Launch} {X : Nat × (Nat → Int32)} {M N : am_M} {g : tG} {cn : Nat} {a b : Nat} (ha : a < 5) (hb : b < 5) {kk : Int32 × tG} (hL : Lay N) (hA : absX N g) (hB : gB g) (hg : am_gr (fun x => x ≤ 92) M N) (hk : kk = (nI (cn + (t_re1 a b 0 g + t_re1 a b 1 (g_re1 a b 0 g))), g_re1 a b 1 (g_re1 a b 0 g))) : am_V l yX8_resend cX8_resend 7 (some .int) (am_R 2 0 0) 0 0 X (fun v M' => v = some (.int (kk).1) ∧ absX M' (kk).2 ∧ Lay M' ∧ am_gr (fun x => x ≤ 92) M M') 0 0 58 [some (.ref 1), some (.int (nI a)), some (.int (nI b)), some (.ref (28 + 13 * a)), some (.int (nI (cn))), some (.int (nI (ga g 4 a) - 1))] [] N := by
  have x4 := (hA.2.2.2.1 a ha).1
  have y4 := (hB.2.2.2.2.2.2.2.2.2.2.2.2.1 a ha).1
  have hx : (nI (ga g 4 a) - 1 : Int32) &&& 1 = nI ((ga g 4 a + 1 + 0) % 2) := and1p (by omega)
  have hO := (hA.2.2.2.2.2.1 a b 0 ha hb (by decide)).2
  have hlen := hA.2.2.2.2.1
  have hb60 := hB.2.2.2.2.2.2.2.2.2.2.2.2.2.1
  cases hc : gl g (2 + 0) a b with
  | none =>
    rw [hc] at hO
    have e0 := isO_none hO
    refine r_iload dX8_resend_58 rfl ?_
    refine r_aload_n dX8_resend_60 rfl ?_
    refine r_getE (nI (ga g 4 a)) kX6 (k := 4) (by decide) rfl fl_X8_178 (lay_ok hL (sh_n0 ha)) dX8_resend_61 x4 ?_
    refine r_icmp_gt 102 dX8_resend_64 (by decide) (fun hq => absurd hq (sub1_ngt (by omega))) (fun _ => ?_)
    refine r_aload_n dX8_resend_67 rfl ?_
    refine r_iload_n dX8_resend_68 rfl ?_
    refine r_iload dX8_resend_69 rfl ?_
    refine r_cV ca_yX6_keptFor ml_X8_179 im_yX6_keptFor se_yX6_keptFor (by decide) rfl (lay_ok hL (sh_n0 ha)) (c_X6_keptFor hL ha (p := (ga g 4 a + 1 + 0) % 2) (q := b) hx (by omega) hb) ⟨by decide, by decide⟩ (by first | decide | omega) (by first | decide | omega) rfl (Nat.le_of_ble_eq_true rfl) dX8_resend_71 ?_
    rw [e0]
    refine r_astoreq _ dX8_resend_74 (by decide) rfl ?_
    refine r_aloadq dX8_resend_76 rfl ?_
    refine r_ifnull (r := none) 96 dX8_resend_78 (by decide) (fun _ => ?_) (fun _ hq => by cases hq)
    refine r_iinc (nI (ga g 4 a)) _ dX8_resend_96 (by decide) rfl (sub1_1 _) rfl ?_
    refine r_goto 58 dX8_resend_99 (by decide) ?_
    refine r_take 6 ?_
    exact l1_X8_resend (g := g) (cn := cn) ha hb hL hA hB hg (by rw [hk]; simp only [g_re1, t_re1, hc, Nat.add_zero, Nat.zero_add])
  | some t =>
    obtain ⟨A, e0, hl⟩ : ∃ A, mR N (28 + 13 * a + 2) ((ga g 4 a + 1 + 0) % 2 * 5 + b) = some A ∧ isL N A t := by
      cases e : mR N (28 + 13 * a + 2) ((ga g 4 a + 1 + 0) % 2 * 5 + b) with
      | none => rw [e, hc] at hO; exact hO.elim
      | some A => rw [e, hc] at hO; exact ⟨A, rfl, hO⟩
    have l1 := hl.1
    by_cases c7 : (gn g).length < 60
    · have hq := absX_net hL.1 hA hl c7
      have hq2 : gB (un g (gn g ++ [t])) := gB_push hB (hB.2.2.2.2.2.2.2.2.2.2.2.2.2.2.2 _ _ _ _ hc) c7
      have hg2 : am_gr (fun x => x ≤ 92) N (wI (wR N 25 (gn g).length (some A)) 24 1 (nI ((gn g).length + 1))) := (am_gr.wR _ _ (by decide)).tr (am_gr.wI _ _ (by decide))
      refine r_iload dX8_resend_58 rfl ?_
      refine r_aload_n dX8_resend_60 rfl ?_
      refine r_getE (nI (ga g 4 a)) kX6 (k := 4) (by decide) rfl fl_X8_178 (lay_ok hL (sh_n0 ha)) dX8_resend_61 x4 ?_
      refine r_icmp_gt 102 dX8_resend_64 (by decide) (fun hq => absurd hq (sub1_ngt (by omega))) (fun _ => ?_)
      refine r_aload_n dX8_resend_67 rfl ?_
      refine r_iload_n dX8_resend_68 rfl ?_
      refine r_iload dX8_resend_69 rfl ?_
      refine r_cV ca_yX6_keptFor ml_X8_179 im_yX6_keptFor se_yX6_keptFor (by decide) rfl (lay_ok hL (sh_n0 ha)) (c_X6_keptFor hL ha (p := (ga g 4 a + 1 + 0) % 2) (q := b) hx (by omega) hb) ⟨by decide, by decide⟩ (by first | decide | omega) (by first | decide | omega) rfl (Nat.le_of_ble_eq_true rfl) dX8_resend_71 ?_
      rw [e0]
      refine r_astore _ dX8_resend_74 (by decide) rfl ?_
      refine r_aload dX8_resend_76 rfl ?_
      refine r_ifnull (r := some A) 96 dX8_resend_78 (by decide) (fun hq => by cases hq) (fun _ _ => ?_)
      refine r_aload_n dX8_resend_81 rfl ?_
      refine r_getF kX8 (k := 5) (by decide) rfl fl_X8_45 (lay_ok hL rfl) (lay_r hL rfl) dX8_resend_82 ?_
      refine r_aload dX8_resend_85 rfl ?_
      refine r_cV ca_yX5_add ml_X8_171 im_yX5_add se_yX5_add (by decide) rfl (lay_ok hL rfl) (c_X5_add hL l1 hlen.1 hlen.2.1) ⟨by decide, by decide⟩ (by first | decide | omega) (by first | decide | omega) rfl (Nat.le_of_ble_eq_true rfl) dX8_resend_87 ?_
      rw [if_pos c7, if_pos c7]
      have hL2 : Lay (wI (wR N 25 (gn g).length (some A)) 24 1 (nI ((gn g).length + 1))) := lay_wI (lay_wR hL _ rfl) _ _ _
      refine r_if_eq 96 dX8_resend_90 (by decide) (fun hq => absurd hq (by decide)) (fun _ => ?_)
      refine r_iinc (nI (cn + 1)) _ dX8_resend_93 (by decide) rfl (nI_1 _) rfl ?_
      refine r_iinc (nI (ga g 4 a)) _ dX8_resend_96 (by decide) rfl (sub1_1 _) rfl ?_
      refine r_goto 58 dX8_resend_99 (by decide) ?_
      refine r_take 6 ?_
      exact l1_X8_resend (g := (un g (gn g ++ [t]))) (cn := (cn + 1)) ha hb hL2 hq hq2 (hg.tr hg2) (by rw [hk]; simp only [g_re1, t_re1, hc, t_push, if_pos c7, Nat.add_assoc, Nat.add_zero])
    · skip
      refine r_iload dX8_resend_58 rfl ?_
      refine r_aload_n dX8_resend_60 rfl ?_
      refine r_getE (nI (ga g 4 a)) kX6 (k := 4) (by decide) rfl fl_X8_178 (lay_ok hL (sh_n0 ha)) dX8_resend_61 x4 ?_
      refine r_icmp_gt 102 dX8_resend_64 (by decide) (fun hq => absurd hq (sub1_ngt (by omega))) (fun _ => ?_)
      refine r_aload_n dX8_resend_67 rfl ?_
      refine r_iload_n dX8_resend_68 rfl ?_
      refine r_iload dX8_resend_69 rfl ?_
      refine r_cV ca_yX6_keptFor ml_X8_179 im_yX6_keptFor se_yX6_keptFor (by decide) rfl (lay_ok hL (sh_n0 ha)) (c_X6_keptFor hL ha (p := (ga g 4 a + 1 + 0) % 2) (q := b) hx (by omega) hb) ⟨by decide, by decide⟩ (by first | decide | omega) (by first | decide | omega) rfl (Nat.le_of_ble_eq_true rfl) dX8_resend_71 ?_
      rw [e0]
      refine r_astore _ dX8_resend_74 (by decide) rfl ?_
      refine r_aload dX8_resend_76 rfl ?_
      refine r_ifnull (r := some A) 96 dX8_resend_78 (by decide) (fun hq => by cases hq) (fun _ _ => ?_)
      refine r_aload_n dX8_resend_81 rfl ?_
      refine r_getF kX8 (k := 5) (by decide) rfl fl_X8_45 (lay_ok hL rfl) (lay_r hL rfl) dX8_resend_82 ?_
      refine r_aload dX8_resend_85 rfl ?_
      refine r_cV ca_yX5_add ml_X8_171 im_yX5_add se_yX5_add (by decide) rfl (lay_ok hL rfl) (c_X5_add hL l1 hlen.1 hlen.2.1) ⟨by decide, by decide⟩ (by first | decide | omega) (by first | decide | omega) rfl (Nat.le_of_ble_eq_true rfl) dX8_resend_87 ?_
      rw [if_neg c7, if_neg c7]
      refine r_if_eq 96 dX8_resend_90 (by decide) (fun _ => ?_) (fun hq => absurd (by decide) hq)
      refine r_iinc (nI (ga g 4 a)) _ dX8_resend_96 (by decide) rfl (sub1_1 _) rfl ?_
      refine r_goto 58 dX8_resend_99 (by decide) ?_
      refine r_take 6 ?_
      exact l1_X8_resend (g := g) (cn := cn) ha hb hL hA hB hg (by rw [hk]; simp only [g_re1, t_re1, hc, t_push, if_neg c7, Nat.add_zero, Nat.zero_add, un_id])
set_option maxHeartbeats 4000000 in
set_option maxRecDepth 100000 in
theorem k_X8_resend {l : Launch} {X : Nat × (Nat → Int32)} {M : am_M} (hL : Lay M) {g : tG} {c0 : Nat} (hX : absX M g) (hI : gI c0 g) {x y : Int32} : am_C l yX8_resend cX8_resend 7 (some .int) 2 0 0 X [.ref 1, .int x, .int y] M (fun v M' => v = some (.int (k_resend x y g).1) ∧ absX M' (k_resend x y g).2 ∧ Lay M' ∧ am_gr (fun x => x ≤ 92) M M') := by
  refine am_C.of (by decide) (by simp [Value.category, va_rf]) (Nat.le_of_ble_eq_true rfl) ?_
  have hB := hI.1
  obtain ⟨b0, b1, b2, b3, b4, b5, b6, b7, b8, b9, bV, bA, bN, bl, bn, bh⟩ := id hB
  obtain ⟨s0, s1, s2, s3, s4, s5, s6, s7, s8, s9⟩ := hX.1
  have hL0 := hL
  rcases inN_cases x (k := gs g 0) (by omega) with ⟨e, c⟩ | ⟨a, hj, rfl, e⟩
  · have hk : k_resend x y g = (-1, g) := by simp only [k_resend, e]
    refine r_aload_n dX8_resend_0 rfl ?_
    refine r_iload_n dX8_resend_1 rfl ?_
    refine r_cV ca_yX8_isNode ml_X8_94 im_yX8_isNode se_yX8_isNode (by decide) rfl (lay_ok hL rfl) (c_X8_isNode hL) ⟨by decide, by decide⟩ (by first | decide | omega) (by first | decide | omega) rfl (Nat.le_of_ble_eq_true rfl) dX8_resend_2 ?_
    refine r_top 0 (by rw [s0]; exact inN_no c) ?_
    refine r_if_eq 21 dX8_resend_5 (by decide) (fun _ => ?_) (fun hq => absurd (by decide) hq)
    refine r_iconst (-1) dX8_resend_21 (by decide) ?_
    exact r_iret (Or.inl rfl) dX8_resend_22 ⟨by rw [hk], by rw [hk]; exact hX, hL0, am_gr.rf⟩
  · rcases inN_cases y (k := gs g 0) (by omega) with ⟨f, c⟩ | ⟨b, hb, rfl, f⟩
    · have hk : k_resend (nI a) y g = (-1, g) := by simp only [k_resend, e, f]
      refine r_aload_n dX8_resend_0 rfl ?_
      refine r_iload_n dX8_resend_1 rfl ?_
      refine r_cV ca_yX8_isNode ml_X8_94 im_yX8_isNode se_yX8_isNode (by decide) rfl (lay_ok hL rfl) (c_X8_isNode hL) ⟨by decide, by decide⟩ (by first | decide | omega) (by first | decide | omega) rfl (Nat.le_of_ble_eq_true rfl) dX8_resend_2 ?_
      refine r_top 1 (by rw [s0]; exact inN_yes hj (by omega)) ?_
      refine r_if_eq 21 dX8_resend_5 (by decide) (fun hq => absurd hq (by decide)) (fun _ => ?_)
      refine r_aload_n dX8_resend_8 rfl ?_
      refine r_iload_n dX8_resend_9 rfl ?_
      refine r_cV ca_yX8_isNode ml_X8_94 im_yX8_isNode se_yX8_isNode (by decide) rfl (lay_ok hL rfl) (c_X8_isNode hL) ⟨by decide, by decide⟩ (by first | decide | omega) (by first | decide | omega) rfl (Nat.le_of_ble_eq_true rfl) dX8_resend_10 ?_
      refine r_top 0 (by rw [s0]; exact inN_no c) ?_
      refine r_if_eq 21 dX8_resend_13 (by decide) (fun _ => ?_) (fun hq => absurd (by decide) hq)
      refine r_iconst (-1) dX8_resend_21 (by decide) ?_
      exact r_iret (Or.inl rfl) dX8_resend_22 ⟨by rw [hk], by rw [hk]; exact hX, hL0, am_gr.rf⟩
    · have ha : a < 5 := by omega
      obtain ⟨x4, x5, x6⟩ := hX.2.2.2.1 a ha
      obtain ⟨y4, y5, y6⟩ := bN a ha
      by_cases cab : a = b
      · have hk : k_resend (nI a) (nI b) g = (-1, g) := by simp only [k_resend, e, f, if_pos cab]
        refine r_aload_n dX8_resend_0 rfl ?_
        refine r_iload_n dX8_resend_1 rfl ?_
        refine r_cV ca_yX8_isNode ml_X8_94 im_yX8_isNode se_yX8_isNode (by decide) rfl (lay_ok hL rfl) (c_X8_isNode hL) ⟨by decide, by decide⟩ (by first | decide | omega) (by first | decide | omega) rfl (Nat.le_of_ble_eq_true rfl) dX8_resend_2 ?_
        refine r_top 1 (by rw [s0]; exact inN_yes hj (by omega)) ?_
        refine r_if_eq 21 dX8_resend_5 (by decide) (fun hq => absurd hq (by decide)) (fun _ => ?_)
        refine r_aload_n dX8_resend_8 rfl ?_
        refine r_iload_n dX8_resend_9 rfl ?_
        refine r_cV ca_yX8_isNode ml_X8_94 im_yX8_isNode se_yX8_isNode (by decide) rfl (lay_ok hL rfl) (c_X8_isNode hL) ⟨by decide, by decide⟩ (by first | decide | omega) (by first | decide | omega) rfl (Nat.le_of_ble_eq_true rfl) dX8_resend_10 ?_
        refine r_top 1 (by rw [s0]; exact inN_yes hb (by omega)) ?_
        refine r_if_eq 21 dX8_resend_13 (by decide) (fun hq => absurd hq (by decide)) (fun _ => ?_)
        refine r_iload_n dX8_resend_16 rfl ?_
        refine r_iload_n dX8_resend_17 rfl ?_
        refine r_icmp_ne 23 dX8_resend_18 (by decide) (fun hq => absurd (by rw [cab]) hq) (fun _ => ?_)
        refine r_iconst (-1) dX8_resend_21 (by decide) ?_
        exact r_iret (Or.inl rfl) dX8_resend_22 ⟨by rw [hk], by rw [hk]; exact hX, hL0, am_gr.rf⟩
      · by_cases c6 : gs g 6 = 1
        · by_cases d6 : ga g 6 a = 1
          · have hk : k_resend (nI a) (nI b) g = (-2, g) := by simp only [k_resend, e, f, if_neg cab, if_pos (show gs g 6 = 0 ∨ ga g 6 a = 1 from Or.inr d6)]
            refine r_aload_n dX8_resend_0 rfl ?_
            refine r_iload_n dX8_resend_1 rfl ?_
            refine r_cV ca_yX8_isNode ml_X8_94 im_yX8_isNode se_yX8_isNode (by decide) rfl (lay_ok hL rfl) (c_X8_isNode hL) ⟨by decide, by decide⟩ (by first | decide | omega) (by first | decide | omega) rfl (Nat.le_of_ble_eq_true rfl) dX8_resend_2 ?_
            refine r_top 1 (by rw [s0]; exact inN_yes hj (by omega)) ?_
            refine r_if_eq 21 dX8_resend_5 (by decide) (fun hq => absurd hq (by decide)) (fun _ => ?_)
            refine r_aload_n dX8_resend_8 rfl ?_
            refine r_iload_n dX8_resend_9 rfl ?_
            refine r_cV ca_yX8_isNode ml_X8_94 im_yX8_isNode se_yX8_isNode (by decide) rfl (lay_ok hL rfl) (c_X8_isNode hL) ⟨by decide, by decide⟩ (by first | decide | omega) (by first | decide | omega) rfl (Nat.le_of_ble_eq_true rfl) dX8_resend_10 ?_
            refine r_top 1 (by rw [s0]; exact inN_yes hb (by omega)) ?_
            refine r_if_eq 21 dX8_resend_13 (by decide) (fun hq => absurd hq (by decide)) (fun _ => ?_)
            refine r_iload_n dX8_resend_16 rfl ?_
            refine r_iload_n dX8_resend_17 rfl ?_
            refine r_icmp_ne 23 dX8_resend_18 (by decide) (fun _ => ?_) (fun hq => absurd hq (fun z => cab ((nI_eq (by omega) (by omega)).mp z)))
            refine r_aload_n dX8_resend_23 rfl ?_
            refine r_getF kX8 (k := 6) (by decide) rfl fl_X8_51 (lay_ok hL rfl) (lay_r hL rfl) dX8_resend_24 ?_
            refine r_iload_n dX8_resend_27 rfl ?_
            refine r_aaldF (Or.inr rfl) (lay_ok hL rfl) (by omega) (by decide) (lay_r hL (rf_row ha)) dX8_resend_28 ?_
            refine r_astore_n _ dX8_resend_29 (by decide) rfl ?_
            refine r_aload_n dX8_resend_30 rfl ?_
            refine r_getE (1) kX8 (k := 11) (by decide) rfl fl_X8_85 (lay_ok hL rfl) dX8_resend_31 (by rw [s6, c6]; rfl) ?_
            refine r_if_eq 44 dX8_resend_34 (by decide) (fun hq => absurd hq (by decide)) (fun _ => ?_)
            refine r_aload_n dX8_resend_37 rfl ?_
            refine r_getE (1) kX6 (k := 6) (by decide) rfl fl_X8_175 (lay_ok hL (sh_n0 ha)) dX8_resend_38 (by rw [x6, d6]; rfl) ?_
            refine r_if_eq 47 dX8_resend_41 (by decide) (fun hq => absurd hq (by decide)) (fun _ => ?_)
            refine r_bipush (-2) dX8_resend_44 (by decide) ?_
            exact r_iret (Or.inl rfl) dX8_resend_46 ⟨by rw [hk], by rw [hk]; exact hX, hL0, am_gr.rf⟩
          · have hk : k_resend (nI a) (nI b) g = (nI (t_re1 a b 0 g + t_re1 a b 1 (g_re1 a b 0 g)), g_re1 a b 1 (g_re1 a b 0 g)) := by simp only [k_resend, e, f, if_neg cab, if_neg (show ¬ (gs g 6 = 0 ∨ ga g 6 a = 1) by omega)]
            refine r_aload_n dX8_resend_0 rfl ?_
            refine r_iload_n dX8_resend_1 rfl ?_
            refine r_cV ca_yX8_isNode ml_X8_94 im_yX8_isNode se_yX8_isNode (by decide) rfl (lay_ok hL rfl) (c_X8_isNode hL) ⟨by decide, by decide⟩ (by first | decide | omega) (by first | decide | omega) rfl (Nat.le_of_ble_eq_true rfl) dX8_resend_2 ?_
            refine r_top 1 (by rw [s0]; exact inN_yes hj (by omega)) ?_
            refine r_if_eq 21 dX8_resend_5 (by decide) (fun hq => absurd hq (by decide)) (fun _ => ?_)
            refine r_aload_n dX8_resend_8 rfl ?_
            refine r_iload_n dX8_resend_9 rfl ?_
            refine r_cV ca_yX8_isNode ml_X8_94 im_yX8_isNode se_yX8_isNode (by decide) rfl (lay_ok hL rfl) (c_X8_isNode hL) ⟨by decide, by decide⟩ (by first | decide | omega) (by first | decide | omega) rfl (Nat.le_of_ble_eq_true rfl) dX8_resend_10 ?_
            refine r_top 1 (by rw [s0]; exact inN_yes hb (by omega)) ?_
            refine r_if_eq 21 dX8_resend_13 (by decide) (fun hq => absurd hq (by decide)) (fun _ => ?_)
            refine r_iload_n dX8_resend_16 rfl ?_
            refine r_iload_n dX8_resend_17 rfl ?_
            refine r_icmp_ne 23 dX8_resend_18 (by decide) (fun _ => ?_) (fun hq => absurd hq (fun z => cab ((nI_eq (by omega) (by omega)).mp z)))
            refine r_aload_n dX8_resend_23 rfl ?_
            refine r_getF kX8 (k := 6) (by decide) rfl fl_X8_51 (lay_ok hL rfl) (lay_r hL rfl) dX8_resend_24 ?_
            refine r_iload_n dX8_resend_27 rfl ?_
            refine r_aaldF (Or.inr rfl) (lay_ok hL rfl) (by omega) (by decide) (lay_r hL (rf_row ha)) dX8_resend_28 ?_
            refine r_astore_n _ dX8_resend_29 (by decide) rfl ?_
            refine r_aload_n dX8_resend_30 rfl ?_
            refine r_getE (1) kX8 (k := 11) (by decide) rfl fl_X8_85 (lay_ok hL rfl) dX8_resend_31 (by rw [s6, c6]; rfl) ?_
            refine r_if_eq 44 dX8_resend_34 (by decide) (fun hq => absurd hq (by decide)) (fun _ => ?_)
            refine r_aload_n dX8_resend_37 rfl ?_
            refine r_getE (0) kX6 (k := 6) (by decide) rfl fl_X8_175 (lay_ok hL (sh_n0 ha)) dX8_resend_38 (by rw [x6, bool01 y6 d6]; rfl) ?_
            refine r_if_eq 47 dX8_resend_41 (by decide) (fun _ => ?_) (fun hq => absurd (by decide) hq)
            refine r_iconst (nI 0) dX8_resend_47 (by decide) ?_
            refine r_istore _ dX8_resend_48 (by decide) rfl ?_
            refine r_aload_n dX8_resend_50 rfl ?_
            refine r_getE (nI (ga g 4 a)) kX6 (k := 4) (by decide) rfl fl_X8_178 (lay_ok hL (sh_n0 ha)) dX8_resend_51 x4 ?_
            refine r_iconst (1) dX8_resend_54 (by decide) ?_
            refine r_isub dX8_resend_55 ?_
            refine r_istore _ dX8_resend_56 (by decide) rfl ?_
            exact l0_X8_resend (cn := 0) ha (show b < 5 by omega) hL hX hB am_gr.rf (by rw [hk, Nat.zero_add])
        · have hk : k_resend (nI a) (nI b) g = (-2, g) := by simp only [k_resend, e, f, if_neg cab, if_pos (show gs g 6 = 0 ∨ ga g 6 a = 1 from Or.inl (bool01 b7 c6))]
          refine r_aload_n dX8_resend_0 rfl ?_
          refine r_iload_n dX8_resend_1 rfl ?_
          refine r_cV ca_yX8_isNode ml_X8_94 im_yX8_isNode se_yX8_isNode (by decide) rfl (lay_ok hL rfl) (c_X8_isNode hL) ⟨by decide, by decide⟩ (by first | decide | omega) (by first | decide | omega) rfl (Nat.le_of_ble_eq_true rfl) dX8_resend_2 ?_
          refine r_top 1 (by rw [s0]; exact inN_yes hj (by omega)) ?_
          refine r_if_eq 21 dX8_resend_5 (by decide) (fun hq => absurd hq (by decide)) (fun _ => ?_)
          refine r_aload_n dX8_resend_8 rfl ?_
          refine r_iload_n dX8_resend_9 rfl ?_
          refine r_cV ca_yX8_isNode ml_X8_94 im_yX8_isNode se_yX8_isNode (by decide) rfl (lay_ok hL rfl) (c_X8_isNode hL) ⟨by decide, by decide⟩ (by first | decide | omega) (by first | decide | omega) rfl (Nat.le_of_ble_eq_true rfl) dX8_resend_10 ?_
          refine r_top 1 (by rw [s0]; exact inN_yes hb (by omega)) ?_
          refine r_if_eq 21 dX8_resend_13 (by decide) (fun hq => absurd hq (by decide)) (fun _ => ?_)
          refine r_iload_n dX8_resend_16 rfl ?_
          refine r_iload_n dX8_resend_17 rfl ?_
          refine r_icmp_ne 23 dX8_resend_18 (by decide) (fun _ => ?_) (fun hq => absurd hq (fun z => cab ((nI_eq (by omega) (by omega)).mp z)))
          refine r_aload_n dX8_resend_23 rfl ?_
          refine r_getF kX8 (k := 6) (by decide) rfl fl_X8_51 (lay_ok hL rfl) (lay_r hL rfl) dX8_resend_24 ?_
          refine r_iload_n dX8_resend_27 rfl ?_
          refine r_aaldF (Or.inr rfl) (lay_ok hL rfl) (by omega) (by decide) (lay_r hL (rf_row ha)) dX8_resend_28 ?_
          refine r_astore_n _ dX8_resend_29 (by decide) rfl ?_
          refine r_aload_n dX8_resend_30 rfl ?_
          refine r_getE (0) kX8 (k := 11) (by decide) rfl fl_X8_85 (lay_ok hL rfl) dX8_resend_31 (by rw [s6, bool01 b7 c6]; rfl) ?_
          refine r_if_eq 44 dX8_resend_34 (by decide) (fun _ => ?_) (fun hq => absurd (by decide) hq)
          refine r_bipush (-2) dX8_resend_44 (by decide) ?_
          exact r_iret (Or.inl rfl) dX8_resend_46 ⟨by rw [hk], by rw [hk]; exact hX, hL0, am_gr.rf⟩
/-- what holds of node n and the state as its rounds are finished one behind the other -/
def onI (n i : Nat) (h : tG) : Prop := gB h ∧ n < gs h 0 ∧ (ga h 5 n = 0 → ga h 4 n ≤ 199) ∧ (∀ w o, w < 2 → gs h 0 ≤ o → gl h w n o = none) ∧ (1 ≤ i → ga h 5 n = 0 → ∀ o, gl h 1 n o = none) ∧ (2 ≤ i → ga h 5 n = 0 → ∀ o, gl h 0 n o = none)
theorem gB_fin {n : Nat} {h : tG} (hB : gB h) (hn : n < gs h 0) (hr : ga h 4 n ≤ 199) : gB (g_fin n h) := by
  unfold g_fin
  split
  · exact gB_ua hB n (Or.inl rfl) (Nat.le_refl _)
  · exact gB_come (gB_take hB) (by rw [(sameT_take n h).1]; exact hn) (by omega)
theorem onI_step {n i : Nat} {h : tG} (k : onI n i h) (hf : ga h 5 n = 0 ∧ t_held h n = gs h 0 - 1) : onI n (i + 1) (g_fin n h) := by
  obtain ⟨k1, k2, k3, k4, k5, k6⟩ := k
  have hB := gB_fin k1 k2 (k3 hf.1)
  refine ⟨hB, ?_⟩
  by_cases c : t_toldA h n = 0
  · rw [show g_fin n h = ua h 5 n 1 from if_pos c]
    have e : ga (ua h 5 n 1) 5 n = 1 := by rw [ga_ua, if_pos ⟨rfl, rfl⟩]
    exact ⟨k2, fun z => by omega, k4, fun _ z => by omega, fun _ z => by omega⟩
  · rw [show g_fin n h = g_come n (ga h 4 n + 1) (g_take n h) from if_neg c]
    have st := sameT_take n h
    have e0 : gs (g_come n (ga h 4 n + 1) (g_take n h)) 0 = gs h 0 := by rw [come_gs _ _ _ (by decide), st.1]
    have e4 : ga (g_come n (ga h 4 n + 1) (g_take n h)) 4 n = ga h 4 n + 1 := by rw [come_ga, if_pos ⟨rfl, rfl⟩]
    have e5 : ga (g_come n (ga h 4 n + 1) (g_take n h)) 5 n = if ga h 4 n + 1 = 200 then 1 else ga h 5 n := by
      rw [come_ga, if_neg (by omega)]
      by_cases z : ga h 4 n + 1 = 200
      · rw [if_pos ⟨rfl, rfl, z⟩, if_pos z]
      · rw [if_neg (fun y => z y.2.2), if_neg z, st.2.2.2.2.2.1 5 (by decide)]
    have g0 : ∀ o, gl (g_come n (ga h 4 n + 1) (g_take n h)) 0 n o = gl h 1 n o := fun o => by
      rw [come_gl (by decide)]
      show (if n = n then (if 0 = 0 then gl (g_take n h) 1 n o else _) else _) = _
      rw [if_pos rfl, if_pos rfl, st.2.2.1]
    have g1 : ∀ o, gl (g_come n (ga h 4 n + 1) (g_take n h)) 1 n o = none := fun o => by
      rw [come_gl (by decide)]
      show (if n = n then (if 1 = 0 then _ else if 1 = 2 then _ else if 1 = 1 ∨ 1 = 3 then none else _) else _) = _
      rw [if_pos rfl, if_neg (by decide), if_neg (by decide), if_pos (by decide)]
    refine ⟨by rw [e0]; exact k2, fun z => ?_, fun w o hw ho => ?_, fun _ _ o => g1 o, fun hi _ o => ?_⟩
    · rw [e4]
      rw [e5] at z
      split at z
      · cases z
      · have := k3 hf.1
        omega
    · rw [e0] at ho
      rcases (show w = 0 ∨ w = 1 by omega) with rfl | rfl
      · rw [g0]; exact k4 1 o (by decide) ho
      · exact g1 o
    · rw [g0]
      exact k5 (by omega) hf.1 o
theorem onI_stop {n : Nat} {h : tG} (k : onI n 2 h) : ¬ (ga h 5 n = 0 ∧ t_held h n = gs h 0 - 1) := fun ⟨z1, z2⟩ => by
  have h0 := k.2.2.2.2.2 (Nat.le_refl _) z1
  have e : t_held h n = 0 := by
    have := itr_tail (f := fun o c => if (gl h 0 n o).isSome = true then c + 1 else c) 0 0 (gs h 0) (fun i y _ => by rw [h0 i]; rfl)
    rw [Nat.zero_add] at this
    exact this
  have := k.1.1
  omega
theorem on_full {n f : Nat} {h : tG} (z : ga h 5 n = 0 ∧ t_held h n = gs h 0 - 1) : g_on n (f + 1) h = g_on n f (g_fin n h) := if_pos z
theorem on_not {n f : Nat} {h : tG} (z : ¬ (ga h 5 n = 0 ∧ t_held h n = gs h 0 - 1)) : g_on n f h = h := by
  cases f with
  | zero => rfl
  | succ f => exact if_neg z
set_option maxHeartbeats 4000000 in
set_option maxRecDepth 100000 in
theorem l_X8_deliver {l : Launch} {X : Nat × (Nat → Int32)} {M : am_M} {n j a : Nat} {t : tL} {kk : Int32 × tG} (htn : t.2.2.2.1 = n) : ∀ (k i : Nat) (N : am_M) (h : tG), i + k = 2 → onI n i h → Lay N → absX N h → am_gr (fun x => x ≤ 92) M N → isL N a t → kk = (0, g_on n (201 - i) h) → am_V l yX8_deliver cX8_deliver 6 (some .int) (am_R 9 32 1024) 32 1024 X (fun v M' => v = some (.int (kk).1) ∧ absX M' (kk).2 ∧ Lay M' ∧ am_gr (fun x => x ≤ 92) M M') (32 - 16 * i) (1024 - 512 * i) 63 [some (.ref 1), some (.int (nI j)), some (.ref a), some (.int 0), some (.ref (28 + 13 * n)), some (.int (nI i))] [] N := by
  intro k
  induction k with
  | zero =>
    intro i N h hi hJ hL hA hg hl hk
    obtain rfl : i = 2 := by omega
    have hn5 : n < 5 := by have := hJ.2.1; have := hJ.1.2.1; omega
    have l1 := hl.1
    have hz := onI_stop hJ
    rw [on_not hz] at hk
    refine r_iload dX8_deliver_63 rfl ?_
    refine r_sipush (nI 200) dX8_deliver_65 (by decide) ?_
    refine r_icmp_gt 94 dX8_deliver_68 (by decide) (fun hq => absurd hq (nI_nlt (by omega) (by decide))) (fun _ => ?_)
    refine r_aload_n dX8_deliver_71 rfl ?_
    refine r_aload dX8_deliver_72 rfl ?_
    refine r_cV ca_yX8_isComplete ml_X8_164 im_yX8_isComplete se_yX8_isComplete (by decide) rfl (lay_ok hL rfl) (c_X8_isComplete hL hA hJ.1 hn5 (fun o ho => hJ.2.2.2.1 0 o (by decide) ho)) ⟨by decide, by decide⟩ (by first | decide | omega) (by first | decide | omega) rfl (Nat.le_of_ble_eq_true rfl) dX8_deliver_74 ?_
    refine r_top 0 (if_neg hz) ?_
    refine r_if_eq 94 dX8_deliver_77 (by decide) (fun _ => ?_) (fun hq => absurd (by decide) hq)
    refine r_iload_n dX8_deliver_94 rfl ?_
    exact r_iret (Or.inl rfl) dX8_deliver_95 ⟨by rw [hk], by rw [hk]; exact hA, hL, hg⟩
  | succ k ih =>
    intro i N h hi hJ hL hA hg hl hk
    have hn5 : n < 5 := by have := hJ.2.1; have := hJ.1.2.1; omega
    have l1 := hl.1
    have l6 : mI N a 3 = nI n := by rw [← htn]; exact hl.2.2.2.2.2.1
    by_cases hz : ga h 5 n = 0 ∧ t_held h n = gs h 0 - 1
    · rw [show 201 - i = 200 - i + 1 by omega, on_full hz] at hk
      refine r_iload dX8_deliver_63 rfl ?_
      refine r_sipush (nI 200) dX8_deliver_65 (by decide) ?_
      refine r_icmp_gt 94 dX8_deliver_68 (by decide) (fun hq => absurd hq (nI_nlt (by omega) (by decide))) (fun _ => ?_)
      refine r_aload_n dX8_deliver_71 rfl ?_
      refine r_aload dX8_deliver_72 rfl ?_
      refine r_cV ca_yX8_isComplete ml_X8_164 im_yX8_isComplete se_yX8_isComplete (by decide) rfl (lay_ok hL rfl) (c_X8_isComplete hL hA hJ.1 hn5 (fun o ho => hJ.2.2.2.1 0 o (by decide) ho)) ⟨by decide, by decide⟩ (by first | decide | omega) (by first | decide | omega) rfl (Nat.le_of_ble_eq_true rfl) dX8_deliver_74 ?_
      refine r_top 1 (if_pos hz) ?_
      refine r_if_eq 94 dX8_deliver_77 (by decide) (fun hq => absurd hq (by decide)) (fun _ => ?_)
      refine r_aload_n dX8_deliver_80 rfl ?_
      refine r_aload_n dX8_deliver_81 rfl ?_
      refine r_getE (nI n) kX3 (k := 3) (by decide) rfl fl_X8_134 l1 dX8_deliver_82 l6 ?_
      refine r_callV ca_yX8_finishRound ml_X8_168 im_yX8_finishRound se_yX8_finishRound (by decide) rfl (lay_ok hL rfl) (c_X8_finishRound hL hA hJ.1 hJ.2.1 (hJ.2.2.1 hz.1) (fun o ho => hJ.2.2.2.1 0 o (by decide) ho)) ⟨by decide, by decide⟩ (by first | decide | omega) (by first | decide | omega) rfl (Nat.le_of_ble_eq_true rfl) dX8_deliver_85 (fun v0 M1 hp1 => ?_)
      obtain ⟨rfl, hA2, hL2, hg2⟩ := hp1
      refine r_iinc (nI (i + 1)) _ dX8_deliver_88 (by decide) rfl (nI_1 _) rfl ?_
      refine r_goto 63 dX8_deliver_91 (by decide) ?_
      refine r_room (bc' := 32 - 16 * (i + 1)) (bs' := 1024 - 512 * (i + 1)) (by omega) (by omega) ?_
      exact ih (i + 1) M1 (g_fin n h) (by omega) (onI_step hJ hz) hL2 hA2 (hg.tr hg2) (hl.gr hg2 (fun x h1 h2 (e : x ≤ 92) => by omega)) (by rw [hk, show 201 - (i + 1) = 200 - i by omega])
    · rw [on_not hz] at hk
      refine r_iload dX8_deliver_63 rfl ?_
      refine r_sipush (nI 200) dX8_deliver_65 (by decide) ?_
      refine r_icmp_gt 94 dX8_deliver_68 (by decide) (fun hq => absurd hq (nI_nlt (by omega) (by decide))) (fun _ => ?_)
      refine r_aload_n dX8_deliver_71 rfl ?_
      refine r_aload dX8_deliver_72 rfl ?_
      refine r_cV ca_yX8_isComplete ml_X8_164 im_yX8_isComplete se_yX8_isComplete (by decide) rfl (lay_ok hL rfl) (c_X8_isComplete hL hA hJ.1 hn5 (fun o ho => hJ.2.2.2.1 0 o (by decide) ho)) ⟨by decide, by decide⟩ (by first | decide | omega) (by first | decide | omega) rfl (Nat.le_of_ble_eq_true rfl) dX8_deliver_74 ?_
      refine r_top 0 (if_neg hz) ?_
      refine r_if_eq 94 dX8_deliver_77 (by decide) (fun _ => ?_) (fun hq => absurd (by decide) hq)
      refine r_iload_n dX8_deliver_94 rfl ?_
      exact r_iret (Or.inl rfl) dX8_deliver_95 ⟨by rw [hk], by rw [hk]; exact hA, hL, hg⟩
theorem how_lt (g : tG) (t : tL) : t_how g t < 4 := by
  unfold t_how
  split
  · decide
  · split
    · decide
    · split <;> decide
theorem how0 {g : tG} {t : tL} (h : t_how g t = 0) : ¬ ga g 6 t.2.2.2.1 = 1 ∧ t.1 = gs g 7 ∧ ga g 4 t.2.2.2.1 ≤ t.2.1 ∧ ¬ ga g 5 t.2.2.2.1 = 1 ∧ gl g (t.2.1 - ga g 4 t.2.2.2.1) t.2.2.2.1 t.2.2.1 = none := by
  unfold t_how at h
  split at h
  · cases h
  · rename_i z1
    split at h
    · cases h
    · rename_i z2
      split at h
      · cases h
      · rename_i z3
        refine ⟨z1, Classical.byContradiction (fun z => z2 (Or.inl z)), Nat.le_of_not_lt (fun z => z2 (Or.inr (Or.inl z))), fun z => z2 (Or.inr (Or.inr z)), ?_⟩
        cases e : gl g (t.2.1 - ga g 4 t.2.2.2.1) t.2.2.2.1 t.2.2.1 with
        | none => rfl
        | some u => rw [e] at z3; exact absurd rfl z3
theorem gI_w {c : Nat} {g : tG} (hI : gI c g) {t : tL} (ha : t_any g t) (hk : okL g t) (h : t.1 = gs g 7) : t.2.1 ≤ ga g 4 t.2.2.2.1 + 1 := by
  have h1 := hI.2.2.2.2.1 t ha h
  have h2 := hI.2.2.2.2.2.1 t.2.2.1 t.2.2.2.1 hk.2.2.1 hk.2.2.2.1
  omega
theorem gB_out {g : tG} (hB : gB g) (i : Nat) : gB (g_out i g) := by
  obtain ⟨b0, b1, b2, b3, b4, b5, b6, b7, b8, b9, bV, bA, bN, bl, bn, bh⟩ := hB
  refine ⟨b0, b1, b2, b3, b4, b5, b6, b7, b8, b9, bV, bA, bN, ?_, fun u hu => bn u (List.mem_of_mem_eraseIdx hu), bh⟩
  show ((gn g).eraseIdx i).length ≤ 60
  rw [List.length_eraseIdx]
  split <;> omega
theorem gB_cnt {g : tG} (hB : gB g) (j v : Nat) : gB (us g (9 + j) v) := by
  have e : ∀ k, k < 9 → gs (us g (9 + j) v) k = gs g k := fun k hk => by rw [gs_us, if_neg (by omega)]
  obtain ⟨b0, b1, b2, b3, b4, b5, b6, b7, b8, b9, bV, bA, bN, bl, bn, bh⟩ := hB
  have ok : ∀ t, okL g t → okL (us g (9 + j) v) t := fun t ⟨h1, h2, h3, h4, h5, h6, h7, h8⟩ => ⟨by rw [e 7 (by decide)]; exact h1, h2, by rw [e 0 (by decide)]; exact h3, by rw [e 0 (by decide)]; exact h4, h5, h6, h7, fun x hx => ⟨by rw [e 1 (by decide)]; exact (h8 x hx).1, (h8 x hx).2⟩⟩
  unfold gB
  rw [e 0 (by decide), e 1 (by decide), e 2 (by decide), e 3 (by decide), e 4 (by decide), e 5 (by decide), e 6 (by decide), e 7 (by decide)]
  exact ⟨b0, b1, b2, b3, b4, b5, b6, b7, b8, b9, bV, bA, bN, bl, fun t ht => ok t (bn t ht), fun k n o t ht => ok t (bh k n o t ht)⟩
theorem gB_hold {g : tG} (hB : gB g) {t : tL} (ht : okL g t) (w n o : Nat) : gB (ul g (l_set (gl g) w n o (some t))) := by
  obtain ⟨b0, b1, b2, b3, b4, b5, b6, b7, b8, b9, bV, bA, bN, bl, bn, bh⟩ := hB
  refine ⟨b0, b1, b2, b3, b4, b5, b6, b7, b8, b9, bV, bA, bN, bl, bn, fun k m q u hu => ?_⟩
  have hu : (if k = w ∧ m = n ∧ q = o then some t else gl g k m q) = some u := hu
  split at hu
  · cases hu; exact ht
  · exact bh k m q u hu
/-- a letter that is taken, before rounds are finished -/
def g_hold (i : Nat) (t : tL) (g : tG) : tG := us (g_out i (ul g (l_set (gl g) (t.2.1 - ga g 4 t.2.2.2.1) t.2.2.2.1 t.2.2.1 (some t)))) 9 (gs g 9 + 1)
theorem onI_hold {c i : Nat} {t : tL} {g : tG} (hI : gI c g) (ht : (gn g)[i]? = some t) (h0 : t_how g t = 0) : onI t.2.2.2.1 0 (g_hold i t g) := by
  have hm := List.mem_of_getElem? ht
  have hk := hI.1.2.2.2.2.2.2.2.2.2.2.2.2.2.2.1 t hm
  obtain ⟨z1, z2, z3, z4, z5⟩ := how0 h0
  have zn : t.2.2.2.1 < 5 := by have := hk.2.2.2.1; have := hI.1.2.1; omega
  refine ⟨gB_cnt (gB_out (gB_hold hI.1 hk _ _ _) i) 0 _, hk.2.2.2.1, fun _ => ?_, fun w o hw ho => ?_, fun z => absurd z (by decide), fun z => absurd z (by decide)⟩
  · have e1 := hI.2.2.2.2.2.2.2.1 t.2.2.2.1 hk.2.2.2.1
    have e2 := (hI.1.2.2.2.2.2.2.2.2.2.2.2.2.1 _ zn).1
    show ga g 4 t.2.2.2.1 ≤ 199
    rcases Nat.lt_or_ge (ga g 4 t.2.2.2.1) 200 with y | y
    · omega
    · rcases e1 (by omega) with x | x
      · exact absurd x z4
      · exact absurd x z1
  · show (if w = t.2.1 - ga g 4 t.2.2.2.1 ∧ t.2.2.2.1 = t.2.2.2.1 ∧ o = t.2.2.1 then some t else gl g w t.2.2.2.1 o) = none
    have ho : gs g 0 ≤ o := ho
    rw [if_neg (fun y => by have := hk.2.2.1; omega)]
    cases e : gl g w t.2.2.2.1 o with
    | none => rfl
    | some u =>
      have y1 := hI.2.2.2.2.2.2.1 w _ o u hw e
      have y2 := hI.1.2.2.2.2.2.2.2.2.2.2.2.2.2.2.2 w _ o u e
      have := y2.2.2.1
      omega
set_option maxHeartbeats 4000000 in
set_option maxRecDepth 100000 in
theorem k_X8_deliver {l : Launch} {X : Nat × (Nat → Int32)} {M : am_M} (hL : Lay M) {g : tG} {c0 : Nat} (hX : absX M g) (hI : gI c0 g) {x : Int32} : am_C l yX8_deliver cX8_deliver 6 (some .int) 9 32 1024 X [.ref 1, .int x] M (fun v M' => v = some (.int (k_deliver x g).1) ∧ absX M' (k_deliver x g).2 ∧ Lay M' ∧ am_gr (fun x => x ≤ 92) M M') := by
  refine am_C.of (by decide) (by simp [Value.category, va_rf]) (Nat.le_of_ble_eq_true rfl) ?_
  have hB := hI.1
  obtain ⟨b0, b1, b2, b3, b4, b5, b6, b7, b8, b9, bV, bA, bN, bl, bn, bh⟩ := id hB
  obtain ⟨s0, s1, s2, s3, s4, s5, s6, s7, s8, s9⟩ := hX.1
  have hL0 := hL
  rcases inN_cases x (k := (gn g).length) (by omega) with ⟨e, c⟩ | ⟨i, hi, rfl, e⟩
  · have hk : k_deliver x g = (-1, g) := by simp only [k_deliver, e]
    refine r_aload_n dX8_deliver_0 rfl ?_
    refine r_getF kX8 (k := 5) (by decide) rfl fl_X8_45 (lay_ok hL rfl) (lay_r hL rfl) dX8_deliver_1 ?_
    refine r_iload_n dX8_deliver_4 rfl ?_
    refine r_cV ca_yX5_at ml_X8_125 im_yX5_at se_yX5_at (by decide) rfl (lay_ok hL rfl) (c_X5_at hL hX.2.2.2.2.1.1 hX.2.2.2.2.1.2.1) ⟨by decide, by decide⟩ (by first | decide | omega) (by first | decide | omega) rfl (Nat.le_of_ble_eq_true rfl) dX8_deliver_5 ?_
    rw [show (if x < 0 then none else if nI (gn g).length ≤ x then none else mR M 25 x.toNatClampNeg) = (none : Option Nat) from inN_no c]
    refine r_astore_nq _ dX8_deliver_8 (by decide) rfl ?_
    refine r_aload_nq dX8_deliver_9 rfl ?_
    refine r_ifnonnull (r := none) 15 dX8_deliver_10 (by decide) (fun _ hq => by cases hq) (fun _ => ?_)
    refine r_iconst (-1) dX8_deliver_13 (by decide) ?_
    exact r_iret (Or.inl rfl) dX8_deliver_14 ⟨by rw [hk], by rw [hk]; exact hX, hL0, am_gr.rf⟩
  · obtain ⟨t, ht⟩ : ∃ t, (gn g)[i]? = some t := ⟨_, List.getElem?_eq_getElem hi⟩
    obtain ⟨a, ha, hl⟩ := hX.2.2.2.2.1.2.2 i t ht
    obtain ⟨l1, l2, l3, l4, l5, l6, l7, p, q, r, m1, m2, m3, o1, o2, o3, p1, p2, p3, l8⟩ := id hl
    have tk := bn t (List.mem_of_getElem? ht)
    have hk : k_deliver (nI i) g = (nI (t_how g t), g_deliver i t g) := by simp only [k_deliver, e, ht]
    have hw := gI_w hI (Or.inl (List.mem_of_getElem? ht)) tk
    have h4 := how_lt g t
    refine r_aload_n dX8_deliver_0 rfl ?_
    refine r_getF kX8 (k := 5) (by decide) rfl fl_X8_45 (lay_ok hL rfl) (lay_r hL rfl) dX8_deliver_1 ?_
    refine r_iload_n dX8_deliver_4 rfl ?_
    refine r_cV ca_yX5_at ml_X8_125 im_yX5_at se_yX5_at (by decide) rfl (lay_ok hL rfl) (c_X5_at hL hX.2.2.2.2.1.1 hX.2.2.2.2.1.2.1) ⟨by decide, by decide⟩ (by first | decide | omega) (by first | decide | omega) rfl (Nat.le_of_ble_eq_true rfl) dX8_deliver_5 ?_
    rw [show (if nI i < 0 then none else if nI (gn g).length ≤ nI i then none else mR M 25 (nI i).toNatClampNeg) = some a from (inN_yes hi (by omega)).trans (by rw [nI_clamp (by omega)]; exact ha)]
    refine r_astore_n _ dX8_deliver_8 (by decide) rfl ?_
    refine r_aload_n dX8_deliver_9 rfl ?_
    refine r_ifnonnull (r := some a) 15 dX8_deliver_10 (by decide) (fun _ _ => ?_) (fun hq => by cases hq)
    refine r_aload_n dX8_deliver_15 rfl ?_
    refine r_getF kX8 (k := 5) (by decide) rfl fl_X8_45 (lay_ok hL rfl) (lay_r hL rfl) dX8_deliver_16 ?_
    refine r_iload_n dX8_deliver_19 rfl ?_
    refine r_cV ca_yX5_remove ml_X8_152 im_yX5_remove se_yX5_remove (by decide) rfl (lay_ok hL rfl) (c_X5_remove hL hX.2.2.2.2.1.1 hX.2.2.2.2.1.2.1 hi (fun u hu => by obtain ⟨a2, e1, e2⟩ := hX.2.2.2.2.1.2.2 u _ (List.getElem?_eq_getElem hu); exact ⟨a2, e1, e2.1⟩)) ⟨by decide, by decide⟩ (by first | decide | omega) (by first | decide | omega) rfl (Nat.le_of_ble_eq_true rfl) dX8_deliver_20 ?_
    obtain ⟨hq, hg⟩ := absX_out hL0.1 hX hi
    have hL := lay_wR (lay_wI (lay_wQ hL0 (a := 25) (sft (mR M 25) i (gn g).length) (fun _ => rfl)) 24 1 (nI ((gn g).length - 1))) (a := 25) (k := (gn g).length - 1) none rfl
    generalize wR (wI (wQ M 25 (sft (mR M 25) i (gn g).length)) 24 1 (nI ((gn g).length - 1))) 25 ((gn g).length - 1) none = M1 at hq hg hL
    have hl1 := hl.gr hg (fun x h1 h2 z => by rcases z with z | z <;> omega)
    have l1 := hl1.1
    refine r_aload_n dX8_deliver_23 rfl ?_
    refine r_aload_n dX8_deliver_24 rfl ?_
    refine r_cV ca_yX8_outcomeOf ml_X8_156 im_yX8_outcomeOf se_yX8_outcomeOf (by decide) rfl (lay_ok hL rfl) (c_X8_outcomeOf hL hq (gB_out hB i) tk hl1 hw) ⟨by decide, by decide⟩ (by first | decide | omega) (by first | decide | omega) rfl (Nat.le_of_ble_eq_true rfl) dX8_deliver_25 ?_
    refine r_top (nI (t_how g t)) rfl ?_
    refine r_istore_n _ dX8_deliver_28 (by decide) rfl ?_
    refine r_aload_n dX8_deliver_29 rfl ?_
    refine r_getF kX8 (k := 7) (by decide) rfl fl_X8_55 (lay_ok hL rfl) (lay_r hL rfl) dX8_deliver_30 ?_
    refine r_iload_n dX8_deliver_33 rfl ?_
    refine r_dup2 dX8_deliver_34 rfl rfl ?_
    refine r_ialdE (nI (gs g (9 + t_how g t))) (lay_ok hL rfl) (by omega) (by omega) dX8_deliver_35 (hq.1.2.2.2.2.2.2.2.2.2 _ h4) ?_
    refine r_iconst (1) dX8_deliver_36 (by decide) ?_
    refine r_iadd dX8_deliver_37 ?_
    refine r_top (nI (gs g (9 + t_how g t) + 1)) (nI_1 _) ?_
    refine r_iastN (lay_ok hL rfl) (by omega) (by decide) dX8_deliver_38 ?_
    refine r_lay (lay_wI hL _ _ _) (fun hL => ?_)
    have hC := absX_cnt (M := M1) hL.1 hq h4 (gs g (9 + t_how g t) + 1)
    have hgC : am_gr (fun x => x ≤ 92) M1 (wI M1 27 (t_how g t) (nI (gs g (9 + t_how g t) + 1))) := am_gr.wI _ _ (by decide)
    have hgD := (hg.wd (fun x _ h => by show x ≤ 92; rcases h with h | h <;> omega)).tr hgC
    have hlC := hl1.gr hgC (fun x h1 h2 (z : x ≤ 92) => by omega)
    generalize wI M1 27 (t_how g t) (nI (gs g (9 + t_how g t) + 1)) = M2 at hC hgC hgD hlC hL ⊢
    have l1 := hlC.1
    refine r_iload_n dX8_deliver_39 rfl ?_
    refine r_if_ne 94 dX8_deliver_40 (by decide) (fun c40 => ?_) (fun c40 => ?_)
    · refine r_iload_n dX8_deliver_94 rfl ?_
      exact r_iret (Or.inl rfl) dX8_deliver_95 ⟨by rw [hk], by rw [hk]; show absX M2 (g_deliver i t g); rw [show g_deliver i t g = us (g_out i g) (9 + t_how g t) (gs g (9 + t_how g t) + 1) from if_neg (fun z => c40 (by rw [z]; rfl))]; exact hC, hL, hgD⟩
    · have h0 : t_how g t = 0 := (nI_eq (a := t_how g t) (b := 0) (by omega) (by decide)).mp c40
      have hn5 : t.2.2.2.1 < 5 := by have := tk.2.2.2.1; omega
      obtain ⟨z1, z2, z3, z4, z5⟩ := how0 h0
      have zw := hw z2
      have tk3 := tk.2.2.1
      rw [h0] at hC hk ⊢
      have hH := absX_held (w := t.2.1 - ga g 4 t.2.2.2.1) hL.1 hC hn5 (show t.2.2.1 < 5 by omega) (by omega) hlC
      rw [show ga (us (g_out i g) (9 + 0) (gs g (9 + 0) + 1)) 4 t.2.2.2.1 = ga g 4 t.2.2.2.1 from rfl, show (ga g 4 t.2.2.2.1 + (t.2.1 - ga g 4 t.2.2.2.1)) % 2 = t.2.1 % 2 by rw [show ga g 4 t.2.2.2.1 + (t.2.1 - ga g 4 t.2.2.2.1) = t.2.1 by omega]] at hH
      have tk2 := tk.2.1
      refine r_aload_n dX8_deliver_43 rfl ?_
      refine r_getF kX8 (k := 6) (by decide) rfl fl_X8_51 (lay_ok hL rfl) (lay_r hL rfl) dX8_deliver_44 ?_
      refine r_aload_n dX8_deliver_47 rfl ?_
      refine r_getE (nI t.2.2.2.1) kX3 (k := 3) (by decide) rfl fl_X8_134 l1 dX8_deliver_48 hlC.2.2.2.2.2.1 ?_
      refine r_aaldF (Or.inr rfl) (lay_ok hL rfl) (by omega) (by decide) (lay_r hL (rf_row hn5)) dX8_deliver_51 ?_
      refine r_astore _ dX8_deliver_52 (by decide) rfl ?_
      refine r_aload dX8_deliver_54 rfl ?_
      refine r_aload_n dX8_deliver_56 rfl ?_
      refine r_cV ca_yX6_hold ml_X8_160 im_yX6_hold se_yX6_hold (by decide) rfl (lay_ok hL (sh_n0 hn5)) (c_X6_hold hL hn5 (p := t.2.1 % 2) (q := t.2.2.1) hlC.1 (by rw [hlC.2.2.2.1]; exact and1 (by omega)) (by omega) hlC.2.2.2.2.1 (by omega)) ⟨by decide, by decide⟩ (by first | decide | omega) (by first | decide | omega) rfl (Nat.le_of_ble_eq_true rfl) dX8_deliver_57 ?_
      obtain ⟨hH1, hH2⟩ := hH
      have hL3 := lay_wR hL (some a) (rf_n1 hn5 (k := t.2.1 % 2 * 5 + t.2.2.1))
      have hl3 := hlC.gr hH2 (fun x h1 h2 (z : x = 28 + 13 * t.2.2.2.1 + 1) => by omega)
      refine r_iconst (nI 0) dX8_deliver_60 (by decide) ?_
      refine r_istore _ dX8_deliver_61 (by decide) rfl ?_
      exact l_X8_deliver rfl 2 0 _ (g_hold i t g) (by omega) (onI_hold hI ht h0) hL3 hH1 (hgD.tr (hH2.wd (fun x _ (z : x = 28 + 13 * t.2.2.2.1 + 1) => by show x ≤ 92; omega))) hl3 (by rw [hk]; show (nI 0, g_deliver i t g) = _; rw [show g_deliver i t g = g_on t.2.2.2.1 201 (g_hold i t g) from if_pos h0]; rfl)
