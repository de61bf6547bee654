/-! THE REFERENCE'S CALLS: resend, deliver, what is told -/
theorem b01_1 {a : Nat} (h : a ≤ 1) (c : ¬ nI a = 0) : (1 : Int32) = nI a := by
  rcases (show a = 0 ∨ a = 1 by omega) with rfl | rfl
  · exact absurd rfl c
  · rfl
theorem out_k {z : Int32} {k : Nat} (hk : k < 2 ^ 31) (h : ∀ q, q ≤ k → ¬ z = nI q) : (if z < 0 then (0 : Int32) else if nI k < z then 0 else 1) = 0 := by
  by_cases a : z < 0
  · rw [if_pos a]
  · rw [if_neg a, if_pos]
    obtain ⟨q, hq, rfl⟩ := nI_of a
    exact nI_lt (Nat.lt_of_not_le (fun y => h q y rfl)) hq
set_option maxHeartbeats 4000000 in
set_option maxRecDepth 100000 in
theorem l2_X9_resend {l : Launch} {X : Nat × (Nat → Int32)} {M N : am_M} {g : tG} {cn : Nat} {a b : Nat} (ha : a < 5) (hb : b < 5) {kk : Int32 × tG} (hL : Lay N) (hA : absM N g) (hB : gB g) (hf : am_fr rS M N) (hk : kk = (nI cn, g)) : am_V l yX9_resend cX9_resend 5 (some .int) (am_R 2 0 0) 0 0 X (fun v M' => v = some (.int (kk).1) ∧ absM M' (kk).2 ∧ Lay M' ∧ am_fr rS M M') 0 0 47 [some (.ref 93), some (.int (nI a)), some (.int (nI b)), some (.int (nI (cn))), some (.int (nI 2))] [] N := by
  refine r_iload dX9_resend_47 rfl ?_
  refine r_iconst (nI 2) dX9_resend_49 (by decide) ?_
  refine r_icmp_ge 113 dX9_resend_50 (by decide) (fun _ => ?_) (fun hq => absurd (nI_le (Nat.le_refl 2) (by decide)) hq)
  refine r_iload_n dX9_resend_113 rfl ?_
  exact r_iret (Or.inl rfl) dX9_resend_114 ⟨by rw [hk], by rw [hk]; exact hA, hL, hf⟩
set_option maxHeartbeats 4000000 in
set_option maxRecDepth 100000 in
theorem l1_X9_resend {l : Launch} {X : Nat × (Nat → Int32)} {M N : am_M} {g : tG} {cn : Nat} {a b : Nat} (ha : a < 5) (hb : b < 5) {kk : Int32 × tG} (hL : Lay N) (hA : absM N g) (hB : gB g) (hf : am_fr rS M N) (hk : kk = (nI (cn + t_re1 a b 1 g), g_re1 a b 1 g)) : am_V l yX9_resend cX9_resend 5 (some .int) (am_R 2 0 0) 0 0 X (fun v M' => v = some (.int (kk).1) ∧ absM M' (kk).2 ∧ Lay M' ∧ am_fr rS M M') 0 0 47 [some (.ref 93), some (.int (nI a)), some (.int (nI b)), some (.int (nI (cn))), some (.int (nI 1))] [] N := by
  have hO := (hA.2.2.2.2.2.1 a b 1 ha hb (by decide)).2
  have s18 := hA.2.2.2.2.1.1
  have bl := hB.2.2.2.2.2.2.2.2.2.2.2.2.2.1
  have hL0 := hL
  cases hc : gl g (2 + 1) a b with
  | none =>
    rw [hc] at hO
    have e0 : mI N 105 (60 + 10 * a + 5 * 1 + b) = 0 := hO
    refine r_iload dX9_resend_47 rfl ?_
    refine r_iconst (nI 2) dX9_resend_49 (by decide) ?_
    refine r_icmp_ge 113 dX9_resend_50 (by decide) (fun hq => absurd hq (nI_ge (by omega) (by decide))) (fun _ => ?_)
    refine r_aload_n dX9_resend_53 rfl ?_
    refine r_getF kX9 (k := 19) (by decide) rfl fl_X9_48 (lay_ok hL rfl) (lay_r hL rfl) dX9_resend_54 ?_
    refine r_aload_n dX9_resend_57 rfl ?_
    refine r_iload_n dX9_resend_58 rfl ?_
    refine r_iload dX9_resend_59 rfl ?_
    refine r_iload_n dX9_resend_61 rfl ?_
    refine r_cV ca_yX9_keeps ml_X9_158 im_yX9_keeps se_yX9_keeps (by decide) rfl (lay_ok hL rfl) (c_X9_keeps hL) ⟨by decide, by decide⟩ (by first | decide | omega) (by first | decide | omega) rfl (Nat.le_of_ble_eq_true rfl) dX9_resend_62 ?_
    refine r_zaldE (0) (lay_ok hL rfl) (by omega) (by omega) dX9_resend_65 e0 ?_
    refine r_if_eq 107 dX9_resend_66 (by decide) (fun _ => ?_) (fun hq => absurd (by decide) hq)
    refine r_iinc (nI (1 + 1)) _ dX9_resend_107 (by decide) rfl (nI_1 _) rfl ?_
    refine r_goto 47 dX9_resend_110 (by decide) ?_
    exact l2_X9_resend (g := g) (cn := cn) ha hb hL hA hB hf (by rw [hk]; simp only [g_re1, t_re1, hc, Nat.add_zero, Nat.zero_add])
  | some t =>
    rw [hc] at hO
    have e0 : mI N 105 (60 + 10 * a + 5 * 1 + b) = 1 := hO.1
    have tk := hB.2.2.2.2.2.2.2.2.2.2.2.2.2.2.2 _ _ _ _ hc
    by_cases c7 : (gn g).length < 60
    · have hq2 : gB (un g (gn g ++ [t])) := gB_push hB tk c7
      refine r_iload dX9_resend_47 rfl ?_
      refine r_iconst (nI 2) dX9_resend_49 (by decide) ?_
      refine r_icmp_ge 113 dX9_resend_50 (by decide) (fun hq => absurd hq (nI_ge (by omega) (by decide))) (fun _ => ?_)
      refine r_aload_n dX9_resend_53 rfl ?_
      refine r_getF kX9 (k := 19) (by decide) rfl fl_X9_48 (lay_ok hL rfl) (lay_r hL rfl) dX9_resend_54 ?_
      refine r_aload_n dX9_resend_57 rfl ?_
      refine r_iload_n dX9_resend_58 rfl ?_
      refine r_iload dX9_resend_59 rfl ?_
      refine r_iload_n dX9_resend_61 rfl ?_
      refine r_cV ca_yX9_keeps ml_X9_158 im_yX9_keeps se_yX9_keeps (by decide) rfl (lay_ok hL rfl) (c_X9_keeps hL) ⟨by decide, by decide⟩ (by first | decide | omega) (by first | decide | omega) rfl (Nat.le_of_ble_eq_true rfl) dX9_resend_62 ?_
      refine r_zaldE (1) (lay_ok hL rfl) (by omega) (by omega) dX9_resend_65 e0 ?_
      refine r_if_eq 107 dX9_resend_66 (by decide) (fun hq => absurd hq (by decide)) (fun _ => ?_)
      refine r_aload_n dX9_resend_69 rfl ?_
      refine r_getE (nI (gn g).length) kX9 (k := 18) (by decide) rfl fl_X9_134 (lay_ok hL rfl) dX9_resend_70 s18 ?_
      refine r_bipush (nI 60) dX9_resend_73 (by decide) ?_
      refine r_icmp_ge 107 dX9_resend_75 (by decide) (fun hq => absurd hq (nI_ge c7 (by decide))) (fun _ => ?_)
      refine r_aload_n dX9_resend_78 rfl ?_
      refine r_aload_n dX9_resend_79 rfl ?_
      refine r_iload_n dX9_resend_80 rfl ?_
      refine r_iload dX9_resend_81 rfl ?_
      refine r_iload_n dX9_resend_83 rfl ?_
      refine r_cV ca_yX9_keeps ml_X9_158 im_yX9_keeps se_yX9_keeps (by decide) rfl (lay_ok hL rfl) (c_X9_keeps hL) ⟨by decide, by decide⟩ (by first | decide | omega) (by first | decide | omega) rfl (Nat.le_of_ble_eq_true rfl) dX9_resend_84 ?_
      refine r_aload_n dX9_resend_87 rfl ?_
      refine r_getE (nI (gn g).length) kX9 (k := 18) (by decide) rfl fl_X9_134 (lay_ok hL rfl) dX9_resend_88 s18 ?_
      refine r_callV ca_yX9_lay ml_X9_173 im_yX9_lay se_yX9_lay (by decide) rfl (lay_ok hL rfl) (c_X9_lay hL (a := 60 + 10 * a + 5 * 1 + b) (b := (gn g).length) (by omega) (by omega) (by omega) hA.2.2.2.2.2.2.2) ⟨by decide, by decide⟩ (by first | decide | omega) (by first | decide | omega) rfl (Nat.le_of_ble_eq_true rfl) dX9_resend_91 (fun v0 M1 hp1 => ?_)
      obtain ⟨rfl, y1, y2, y3⟩ := hp1
      have n19 := y1.1.i (by omega) s18
      have hA4 := absM_push (t := t) hL0.1 hB hA c7 y1 y2 (y3 _ (fun u hu => by cases hu; exact tk.2.2.2.2.2.2.1) hO)
      have hL := y1.1.lay hL
      have hff := (hf.tr (y1.1.wd (fun x a => by have := a.1; have := a.2; exact ⟨by omega, by omega⟩))).tr (am_fr.wI (a := 93) 18 (nI ((gn g).length + 1)) ⟨by decide, by decide⟩)
      refine r_aload_n dX9_resend_94 rfl ?_
      refine r_dup dX9_resend_95 rfl ?_
      refine r_getE (nI (gn g).length) kX9 (k := 18) (by decide) rfl fl_X9_134 (lay_ok hL rfl) dX9_resend_96 n19 ?_
      refine r_iconst (1) dX9_resend_99 (by decide) ?_
      refine r_iadd dX9_resend_100 ?_
      refine r_top (nI ((gn g).length + 1)) (nI_1 _) ?_
      refine r_putI kX9 (k := 18) (by decide) rfl (Or.inl rfl) fl_X9_134 (lay_ok hL rfl) ⟨rfl, rfl⟩ dX9_resend_101 ?_
      refine r_lay (lay_wI hL _ _ _) (fun hL => ?_)
      refine r_iinc (nI (cn + 1)) _ dX9_resend_104 (by decide) rfl (nI_1 _) rfl ?_
      refine r_iinc (nI (1 + 1)) _ dX9_resend_107 (by decide) rfl (nI_1 _) rfl ?_
      refine r_goto 47 dX9_resend_110 (by decide) ?_
      exact l2_X9_resend (g := (un g (gn g ++ [t]))) (cn := (cn + 1)) ha hb hL hA4 hq2 hff (by rw [hk]; simp only [g_re1, t_re1, hc, t_push, if_pos c7, Nat.add_assoc, Nat.add_zero])
    · skip
      refine r_iload dX9_resend_47 rfl ?_
      refine r_iconst (nI 2) dX9_resend_49 (by decide) ?_
      refine r_icmp_ge 113 dX9_resend_50 (by decide) (fun hq => absurd hq (nI_ge (by omega) (by decide))) (fun _ => ?_)
      refine r_aload_n dX9_resend_53 rfl ?_
      refine r_getF kX9 (k := 19) (by decide) rfl fl_X9_48 (lay_ok hL rfl) (lay_r hL rfl) dX9_resend_54 ?_
      refine r_aload_n dX9_resend_57 rfl ?_
      refine r_iload_n dX9_resend_58 rfl ?_
      refine r_iload dX9_resend_59 rfl ?_
      refine r_iload_n dX9_resend_61 rfl ?_
      refine r_cV ca_yX9_keeps ml_X9_158 im_yX9_keeps se_yX9_keeps (by decide) rfl (lay_ok hL rfl) (c_X9_keeps hL) ⟨by decide, by decide⟩ (by first | decide | omega) (by first | decide | omega) rfl (Nat.le_of_ble_eq_true rfl) dX9_resend_62 ?_
      refine r_zaldE (1) (lay_ok hL rfl) (by omega) (by omega) dX9_resend_65 e0 ?_
      refine r_if_eq 107 dX9_resend_66 (by decide) (fun hq => absurd hq (by decide)) (fun _ => ?_)
      refine r_aload_n dX9_resend_69 rfl ?_
      refine r_getE (nI (gn g).length) kX9 (k := 18) (by decide) rfl fl_X9_134 (lay_ok hL rfl) dX9_resend_70 s18 ?_
      refine r_bipush (nI 60) dX9_resend_73 (by decide) ?_
      refine r_icmp_ge 107 dX9_resend_75 (by decide) (fun _ => ?_) (fun hq => absurd (nI_le (by omega) (by omega)) hq)
      refine r_iinc (nI (1 + 1)) _ dX9_resend_107 (by decide) rfl (nI_1 _) rfl ?_
      refine r_goto 47 dX9_resend_110 (by decide) ?_
      exact l2_X9_resend (g := g) (cn := cn) ha hb hL hA hB hf (by rw [hk]; simp only [g_re1, t_re1, hc, t_push, if_neg c7, Nat.add_zero, Nat.zero_add, un_id])
set_option maxHeartbeats 4000000 in
set_option maxRecDepth 100000 in
theorem l0_X9_resend {l : Launch} {X : Nat × (Nat → Int32)} {M N : am_M} {g : tG} {cn : Nat} {a b : Nat} (ha : a < 5) (hb : b < 5) {kk : Int32 × tG} (hL : Lay N) (hA : absM N g) (hB : gB g) (hf : am_fr rS M N) (hk : kk = (nI (cn + (t_re1 a b 0 g + t_re1 a b 1 (g_re1 a b 0 g))), g_re1 a b 1 (g_re1 a b 0 g))) : am_V l yX9_resend cX9_resend 5 (some .int) (am_R 2 0 0) 0 0 X (fun v M' => v = some (.int (kk).1) ∧ absM M' (kk).2 ∧ Lay M' ∧ am_fr rS M M') 0 0 47 [some (.ref 93), some (.int (nI a)), some (.int (nI b)), some (.int (nI (cn))), some (.int (nI 0))] [] N := by
  have hO := (hA.2.2.2.2.2.1 a b 0 ha hb (by decide)).2
  have s18 := hA.2.2.2.2.1.1
  have bl := hB.2.2.2.2.2.2.2.2.2.2.2.2.2.1
  have hL0 := hL
  cases hc : gl g (2 + 0) a b with
  | none =>
    rw [hc] at hO
    have e0 : mI N 105 (60 + 10 * a + 5 * 0 + b) = 0 := hO
    refine r_iload dX9_resend_47 rfl ?_
    refine r_iconst (nI 2) dX9_resend_49 (by decide) ?_
    refine r_icmp_ge 113 dX9_resend_50 (by decide) (fun hq => absurd hq (nI_ge (by omega) (by decide))) (fun _ => ?_)
    refine r_aload_n dX9_resend_53 rfl ?_
    refine r_getF kX9 (k := 19) (by decide) rfl fl_X9_48 (lay_ok hL rfl) (lay_r hL rfl) dX9_resend_54 ?_
    refine r_aload_n dX9_resend_57 rfl ?_
    refine r_iload_n dX9_resend_58 rfl ?_
    refine r_iload dX9_resend_59 rfl ?_
    refine r_iload_n dX9_resend_61 rfl ?_
    refine r_cV ca_yX9_keeps ml_X9_158 im_yX9_keeps se_yX9_keeps (by decide) rfl (lay_ok hL rfl) (c_X9_keeps hL) ⟨by decide, by decide⟩ (by first | decide | omega) (by first | decide | omega) rfl (Nat.le_of_ble_eq_true rfl) dX9_resend_62 ?_
    refine r_zaldE (0) (lay_ok hL rfl) (by omega) (by omega) dX9_resend_65 e0 ?_
    refine r_if_eq 107 dX9_resend_66 (by decide) (fun _ => ?_) (fun hq => absurd (by decide) hq)
    refine r_iinc (nI (0 + 1)) _ dX9_resend_107 (by decide) rfl (nI_1 _) rfl ?_
    refine r_goto 47 dX9_resend_110 (by decide) ?_
    exact l1_X9_resend (g := g) (cn := cn) ha hb hL hA hB hf (by rw [hk]; simp only [g_re1, t_re1, hc, Nat.add_zero, Nat.zero_add])
  | some t =>
    rw [hc] at hO
    have e0 : mI N 105 (60 + 10 * a + 5 * 0 + b) = 1 := hO.1
    have tk := hB.2.2.2.2.2.2.2.2.2.2.2.2.2.2.2 _ _ _ _ hc
    by_cases c7 : (gn g).length < 60
    · have hq2 : gB (un g (gn g ++ [t])) := gB_push hB tk c7
      refine r_iload dX9_resend_47 rfl ?_
      refine r_iconst (nI 2) dX9_resend_49 (by decide) ?_
      refine r_icmp_ge 113 dX9_resend_50 (by decide) (fun hq => absurd hq (nI_ge (by omega) (by decide))) (fun _ => ?_)
      refine r_aload_n dX9_resend_53 rfl ?_
      refine r_getF kX9 (k := 19) (by decide) rfl fl_X9_48 (lay_ok hL rfl) (lay_r hL rfl) dX9_resend_54 ?_
      refine r_aload_n dX9_resend_57 rfl ?_
      refine r_iload_n dX9_resend_58 rfl ?_
      refine r_iload dX9_resend_59 rfl ?_
      refine r_iload_n dX9_resend_61 rfl ?_
      refine r_cV ca_yX9_keeps ml_X9_158 im_yX9_keeps se_yX9_keeps (by decide) rfl (lay_ok hL rfl) (c_X9_keeps hL) ⟨by decide, by decide⟩ (by first | decide | omega) (by first | decide | omega) rfl (Nat.le_of_ble_eq_true rfl) dX9_resend_62 ?_
      refine r_zaldE (1) (lay_ok hL rfl) (by omega) (by omega) dX9_resend_65 e0 ?_
      refine r_if_eq 107 dX9_resend_66 (by decide) (fun hq => absurd hq (by decide)) (fun _ => ?_)
      refine r_aload_n dX9_resend_69 rfl ?_
      refine r_getE (nI (gn g).length) kX9 (k := 18) (by decide) rfl fl_X9_134 (lay_ok hL rfl) dX9_resend_70 s18 ?_
      refine r_bipush (nI 60) dX9_resend_73 (by decide) ?_
      refine r_icmp_ge 107 dX9_resend_75 (by decide) (fun hq => absurd hq (nI_ge c7 (by decide))) (fun _ => ?_)
      refine r_aload_n dX9_resend_78 rfl ?_
      refine r_aload_n dX9_resend_79 rfl ?_
      refine r_iload_n dX9_resend_80 rfl ?_
      refine r_iload dX9_resend_81 rfl ?_
      refine r_iload_n dX9_resend_83 rfl ?_
      refine r_cV ca_yX9_keeps ml_X9_158 im_yX9_keeps se_yX9_keeps (by decide) rfl (lay_ok hL rfl) (c_X9_keeps hL) ⟨by decide, by decide⟩ (by first | decide | omega) (by first | decide | omega) rfl (Nat.le_of_ble_eq_true rfl) dX9_resend_84 ?_
      refine r_aload_n dX9_resend_87 rfl ?_
      refine r_getE (nI (gn g).length) kX9 (k := 18) (by decide) rfl fl_X9_134 (lay_ok hL rfl) dX9_resend_88 s18 ?_
      refine r_callV ca_yX9_lay ml_X9_173 im_yX9_lay se_yX9_lay (by decide) rfl (lay_ok hL rfl) (c_X9_lay hL (a := 60 + 10 * a + 5 * 0 + b) (b := (gn g).length) (by omega) (by omega) (by omega) hA.2.2.2.2.2.2.2) ⟨by decide, by decide⟩ (by first | decide | omega) (by first | decide | omega) rfl (Nat.le_of_ble_eq_true rfl) dX9_resend_91 (fun v0 M1 hp1 => ?_)
      obtain ⟨rfl, y1, y2, y3⟩ := hp1
      have n19 := y1.1.i (by omega) s18
      have hA4 := absM_push (t := t) hL0.1 hB hA c7 y1 y2 (y3 _ (fun u hu => by cases hu; exact tk.2.2.2.2.2.2.1) hO)
      have hL := y1.1.lay hL
      have hff := (hf.tr (y1.1.wd (fun x a => by have := a.1; have := a.2; exact ⟨by omega, by omega⟩))).tr (am_fr.wI (a := 93) 18 (nI ((gn g).length + 1)) ⟨by decide, by decide⟩)
      refine r_aload_n dX9_resend_94 rfl ?_
      refine r_dup dX9_resend_95 rfl ?_
      refine r_getE (nI (gn g).length) kX9 (k := 18) (by decide) rfl fl_X9_134 (lay_ok hL rfl) dX9_resend_96 n19 ?_
      refine r_iconst (1) dX9_resend_99 (by decide) ?_
      refine r_iadd dX9_resend_100 ?_
      refine r_top (nI ((gn g).length + 1)) (nI_1 _) ?_
      refine r_putI kX9 (k := 18) (by decide) rfl (Or.inl rfl) fl_X9_134 (lay_ok hL rfl) ⟨rfl, rfl⟩ dX9_resend_101 ?_
      refine r_lay (lay_wI hL _ _ _) (fun hL => ?_)
      refine r_iinc (nI (cn + 1)) _ dX9_resend_104 (by decide) rfl (nI_1 _) rfl ?_
      refine r_iinc (nI (0 + 1)) _ dX9_resend_107 (by decide) rfl (nI_1 _) rfl ?_
      refine r_goto 47 dX9_resend_110 (by decide) ?_
      exact l1_X9_resend (g := (un g (gn g ++ [t]))) (cn := (cn + 1)) ha hb hL hA4 hq2 hff (by rw [hk]; simp only [g_re1, t_re1, hc, t_push, if_pos c7, Nat.add_assoc, Nat.add_zero])
    · skip
      refine r_iload dX9_resend_47 rfl ?_
      refine r_iconst (nI 2) dX9_resend_49 (by decide) ?_
      refine r_icmp_ge 113 dX9_resend_50 (by decide) (fun hq => absurd hq (nI_ge (by omega) (by decide))) (fun _ => ?_)
      refine r_aload_n dX9_resend_53 rfl ?_
      refine r_getF kX9 (k := 19) (by decide) rfl fl_X9_48 (lay_ok hL rfl) (lay_r hL rfl) dX9_resend_54 ?_
      refine r_aload_n dX9_resend_57 rfl ?_
      refine r_iload_n dX9_resend_58 rfl ?_
      refine r_iload dX9_resend_59 rfl ?_
      refine r_iload_n dX9_resend_61 rfl ?_
      refine r_cV ca_yX9_keeps ml_X9_158 im_yX9_keeps se_yX9_keeps (by decide) rfl (lay_ok hL rfl) (c_X9_keeps hL) ⟨by decide, by decide⟩ (by first | decide | omega) (by first | decide | omega) rfl (Nat.le_of_ble_eq_true rfl) dX9_resend_62 ?_
      refine r_zaldE (1) (lay_ok hL rfl) (by omega) (by omega) dX9_resend_65 e0 ?_
      refine r_if_eq 107 dX9_resend_66 (by decide) (fun hq => absurd hq (by decide)) (fun _ => ?_)
      refine r_aload_n dX9_resend_69 rfl ?_
      refine r_getE (nI (gn g).length) kX9 (k := 18) (by decide) rfl fl_X9_134 (lay_ok hL rfl) dX9_resend_70 s18 ?_
      refine r_bipush (nI 60) dX9_resend_73 (by decide) ?_
      refine r_icmp_ge 107 dX9_resend_75 (by decide) (fun _ => ?_) (fun hq => absurd (nI_le (by omega) (by omega)) hq)
      refine r_iinc (nI (0 + 1)) _ dX9_resend_107 (by decide) rfl (nI_1 _) rfl ?_
      refine r_goto 47 dX9_resend_110 (by decide) ?_
      exact l1_X9_resend (g := g) (cn := cn) ha hb hL hA hB hf (by rw [hk]; simp only [g_re1, t_re1, hc, t_push, if_neg c7, Nat.add_zero, Nat.zero_add, un_id])
set_option maxHeartbeats 4000000 in
set_option maxRecDepth 100000 in
theorem k_X9_resend {l : Launch} {X : Nat × (Nat → Int32)} {M : am_M} (hL : Lay M) {g : tG} {c0 : Nat} (hA : absM M g) (hI : gI c0 g) {x y : Int32} : am_C l yX9_resend cX9_resend 5 (some .int) 2 0 0 X [.ref 93, .int x, .int y] M (fun v M' => v = some (.int (k_resend x y g).1) ∧ absM M' (k_resend x y g).2 ∧ Lay M' ∧ am_fr rS M M') := by
  refine am_C.of (by decide) (by simp [Value.category, va_rf]) (Nat.le_of_ble_eq_true rfl) ?_
  have hB := hI.1
  obtain ⟨b0, b1, b2, b3, b4, b5, b6, b7, b8, b9, bV, bA, bN, bl, bn, bh⟩ := id hB
  obtain ⟨s0, s1, s2, s3, s4, s5, s6, s7, s8, s9⟩ := hA.1
  have s18 := hA.2.2.2.2.1.1
  have hL0 := hL
  rcases inN_cases x (k := gs g 0) (by omega) with ⟨e, c⟩ | ⟨a, hj, rfl, e⟩
  · have hk : k_resend x y g = (-1, g) := by simp only [k_resend, e]
    refine r_aload_n dX9_resend_0 rfl ?_
    refine r_iload_n dX9_resend_1 rfl ?_
    refine r_cV ca_yX9_isNode ml_X9_147 im_yX9_isNode se_yX9_isNode (by decide) rfl (lay_ok hL rfl) (c_X9_isNode hL s0 (by omega)) ⟨by decide, by decide⟩ (by first | decide | omega) (by first | decide | omega) rfl (Nat.le_of_ble_eq_true rfl) dX9_resend_2 ?_
    refine r_top 0 (inN_no c) ?_
    refine r_if_eq 21 dX9_resend_5 (by decide) (fun _ => ?_) (fun hq => absurd (by decide) hq)
    refine r_iconst (-1) dX9_resend_21 (by decide) ?_
    exact r_iret (Or.inl rfl) dX9_resend_22 ⟨by rw [hk], by rw [hk]; exact hA, hL0, am_fr.rf⟩
  · rcases inN_cases y (k := gs g 0) (by omega) with ⟨f, c⟩ | ⟨b, hb, rfl, f⟩
    · have hk : k_resend (nI a) y g = (-1, g) := by simp only [k_resend, e, f]
      refine r_aload_n dX9_resend_0 rfl ?_
      refine r_iload_n dX9_resend_1 rfl ?_
      refine r_cV ca_yX9_isNode ml_X9_147 im_yX9_isNode se_yX9_isNode (by decide) rfl (lay_ok hL rfl) (c_X9_isNode hL s0 (by omega)) ⟨by decide, by decide⟩ (by first | decide | omega) (by first | decide | omega) rfl (Nat.le_of_ble_eq_true rfl) dX9_resend_2 ?_
      refine r_top 1 (inN_yes hj (by omega)) ?_
      refine r_if_eq 21 dX9_resend_5 (by decide) (fun hq => absurd hq (by decide)) (fun _ => ?_)
      refine r_aload_n dX9_resend_8 rfl ?_
      refine r_iload_n dX9_resend_9 rfl ?_
      refine r_cV ca_yX9_isNode ml_X9_147 im_yX9_isNode se_yX9_isNode (by decide) rfl (lay_ok hL rfl) (c_X9_isNode hL s0 (by omega)) ⟨by decide, by decide⟩ (by first | decide | omega) (by first | decide | omega) rfl (Nat.le_of_ble_eq_true rfl) dX9_resend_10 ?_
      refine r_top 0 (inN_no c) ?_
      refine r_if_eq 21 dX9_resend_13 (by decide) (fun _ => ?_) (fun hq => absurd (by decide) hq)
      refine r_iconst (-1) dX9_resend_21 (by decide) ?_
      exact r_iret (Or.inl rfl) dX9_resend_22 ⟨by rw [hk], by rw [hk]; exact hA, hL0, am_fr.rf⟩
    · have ha : a < 5 := by omega
      obtain ⟨x4, x5, x6⟩ := hA.2.2.2.1 a ha
      obtain ⟨y4, y5, y6⟩ := bN a ha
      by_cases cab : a = b
      · have hk : k_resend (nI a) (nI b) g = (-1, g) := by simp only [k_resend, e, f, if_pos cab]
        refine r_aload_n dX9_resend_0 rfl ?_
        refine r_iload_n dX9_resend_1 rfl ?_
        refine r_cV ca_yX9_isNode ml_X9_147 im_yX9_isNode se_yX9_isNode (by decide) rfl (lay_ok hL rfl) (c_X9_isNode hL s0 (by omega)) ⟨by decide, by decide⟩ (by first | decide | omega) (by first | decide | omega) rfl (Nat.le_of_ble_eq_true rfl) dX9_resend_2 ?_
        refine r_top 1 (inN_yes hj (by omega)) ?_
        refine r_if_eq 21 dX9_resend_5 (by decide) (fun hq => absurd hq (by decide)) (fun _ => ?_)
        refine r_aload_n dX9_resend_8 rfl ?_
        refine r_iload_n dX9_resend_9 rfl ?_
        refine r_cV ca_yX9_isNode ml_X9_147 im_yX9_isNode se_yX9_isNode (by decide) rfl (lay_ok hL rfl) (c_X9_isNode hL s0 (by omega)) ⟨by decide, by decide⟩ (by first | decide | omega) (by first | decide | omega) rfl (Nat.le_of_ble_eq_true rfl) dX9_resend_10 ?_
        refine r_top 1 (inN_yes hb (by omega)) ?_
        refine r_if_eq 21 dX9_resend_13 (by decide) (fun hq => absurd hq (by decide)) (fun _ => ?_)
        refine r_iload_n dX9_resend_16 rfl ?_
        refine r_iload_n dX9_resend_17 rfl ?_
        refine r_icmp_ne 23 dX9_resend_18 (by decide) (fun hq => absurd (by rw [cab]) hq) (fun _ => ?_)
        refine r_iconst (-1) dX9_resend_21 (by decide) ?_
        exact r_iret (Or.inl rfl) dX9_resend_22 ⟨by rw [hk], by rw [hk]; exact hA, hL0, am_fr.rf⟩
      · by_cases c6 : gs g 6 = 1
        · by_cases d6 : ga g 6 a = 1
          · have hk : k_resend (nI a) (nI b) g = (-2, g) := by simp only [k_resend, e, f, if_neg cab, if_pos (show gs g 6 = 0 ∨ ga g 6 a = 1 from Or.inr d6)]
            refine r_aload_n dX9_resend_0 rfl ?_
            refine r_iload_n dX9_resend_1 rfl ?_
            refine r_cV ca_yX9_isNode ml_X9_147 im_yX9_isNode se_yX9_isNode (by decide) rfl (lay_ok hL rfl) (c_X9_isNode hL s0 (by omega)) ⟨by decide, by decide⟩ (by first | decide | omega) (by first | decide | omega) rfl (Nat.le_of_ble_eq_true rfl) dX9_resend_2 ?_
            refine r_top 1 (inN_yes hj (by omega)) ?_
            refine r_if_eq 21 dX9_resend_5 (by decide) (fun hq => absurd hq (by decide)) (fun _ => ?_)
            refine r_aload_n dX9_resend_8 rfl ?_
            refine r_iload_n dX9_resend_9 rfl ?_
            refine r_cV ca_yX9_isNode ml_X9_147 im_yX9_isNode se_yX9_isNode (by decide) rfl (lay_ok hL rfl) (c_X9_isNode hL s0 (by omega)) ⟨by decide, by decide⟩ (by first | decide | omega) (by first | decide | omega) rfl (Nat.le_of_ble_eq_true rfl) dX9_resend_10 ?_
            refine r_top 1 (inN_yes hb (by omega)) ?_
            refine r_if_eq 21 dX9_resend_13 (by decide) (fun hq => absurd hq (by decide)) (fun _ => ?_)
            refine r_iload_n dX9_resend_16 rfl ?_
            refine r_iload_n dX9_resend_17 rfl ?_
            refine r_icmp_ne 23 dX9_resend_18 (by decide) (fun _ => ?_) (fun hq => absurd hq (fun z => cab ((nI_eq (by omega) (by omega)).mp z)))
            refine r_aload_n dX9_resend_23 rfl ?_
            refine r_getE (1) kX9 (k := 6) (by decide) rfl fl_X9_131 (lay_ok hL rfl) dX9_resend_24 (by rw [s6, c6]; rfl) ?_
            refine r_if_eq 39 dX9_resend_27 (by decide) (fun hq => absurd hq (by decide)) (fun _ => ?_)
            refine r_aload_n dX9_resend_30 rfl ?_
            refine r_getF kX9 (k := 17) (by decide) rfl fl_X9_45 (lay_ok hL rfl) (lay_r hL rfl) dX9_resend_31 ?_
            refine r_iload_n dX9_resend_34 rfl ?_
            refine r_zaldE (1) (lay_ok hL rfl) (by omega) (by omega) dX9_resend_35 (by rw [x6, d6]; rfl) ?_
            refine r_if_eq 42 dX9_resend_36 (by decide) (fun hq => absurd hq (by decide)) (fun _ => ?_)
            refine r_bipush (-2) dX9_resend_39 (by decide) ?_
            exact r_iret (Or.inl rfl) dX9_resend_41 ⟨by rw [hk], by rw [hk]; exact hA, hL0, am_fr.rf⟩
          · have hk : k_resend (nI a) (nI b) g = (nI (t_re1 a b 0 g + t_re1 a b 1 (g_re1 a b 0 g)), g_re1 a b 1 (g_re1 a b 0 g)) := by simp only [k_resend, e, f, if_neg cab, if_neg (show ¬ (gs g 6 = 0 ∨ ga g 6 a = 1) by omega)]
            refine r_aload_n dX9_resend_0 rfl ?_
            refine r_iload_n dX9_resend_1 rfl ?_
            refine r_cV ca_yX9_isNode ml_X9_147 im_yX9_isNode se_yX9_isNode (by decide) rfl (lay_ok hL rfl) (c_X9_isNode hL s0 (by omega)) ⟨by decide, by decide⟩ (by first | decide | omega) (by first | decide | omega) rfl (Nat.le_of_ble_eq_true rfl) dX9_resend_2 ?_
            refine r_top 1 (inN_yes hj (by omega)) ?_
            refine r_if_eq 21 dX9_resend_5 (by decide) (fun hq => absurd hq (by decide)) (fun _ => ?_)
            refine r_aload_n dX9_resend_8 rfl ?_
            refine r_iload_n dX9_resend_9 rfl ?_
            refine r_cV ca_yX9_isNode ml_X9_147 im_yX9_isNode se_yX9_isNode (by decide) rfl (lay_ok hL rfl) (c_X9_isNode hL s0 (by omega)) ⟨by decide, by decide⟩ (by first | decide | omega) (by first | decide | omega) rfl (Nat.le_of_ble_eq_true rfl) dX9_resend_10 ?_
            refine r_top 1 (inN_yes hb (by omega)) ?_
            refine r_if_eq 21 dX9_resend_13 (by decide) (fun hq => absurd hq (by decide)) (fun _ => ?_)
            refine r_iload_n dX9_resend_16 rfl ?_
            refine r_iload_n dX9_resend_17 rfl ?_
            refine r_icmp_ne 23 dX9_resend_18 (by decide) (fun _ => ?_) (fun hq => absurd hq (fun z => cab ((nI_eq (by omega) (by omega)).mp z)))
            refine r_aload_n dX9_resend_23 rfl ?_
            refine r_getE (1) kX9 (k := 6) (by decide) rfl fl_X9_131 (lay_ok hL rfl) dX9_resend_24 (by rw [s6, c6]; rfl) ?_
            refine r_if_eq 39 dX9_resend_27 (by decide) (fun hq => absurd hq (by decide)) (fun _ => ?_)
            refine r_aload_n dX9_resend_30 rfl ?_
            refine r_getF kX9 (k := 17) (by decide) rfl fl_X9_45 (lay_ok hL rfl) (lay_r hL rfl) dX9_resend_31 ?_
            refine r_iload_n dX9_resend_34 rfl ?_
            refine r_zaldE (0) (lay_ok hL rfl) (by omega) (by omega) dX9_resend_35 (by rw [x6, bool01 y6 d6]; rfl) ?_
            refine r_if_eq 42 dX9_resend_36 (by decide) (fun _ => ?_) (fun hq => absurd (by decide) hq)
            refine r_iconst (nI 0) dX9_resend_42 (by decide) ?_
            refine r_istore_n _ dX9_resend_43 (by decide) rfl ?_
            refine r_iconst (nI 0) dX9_resend_44 (by decide) ?_
            refine r_istore _ dX9_resend_45 (by decide) rfl ?_
            exact l0_X9_resend (cn := 0) ha (show b < 5 by omega) hL hA hB am_fr.rf (by rw [hk, Nat.zero_add])
        · have hk : k_resend (nI a) (nI b) g = (-2, g) := by simp only [k_resend, e, f, if_neg cab, if_pos (show gs g 6 = 0 ∨ ga g 6 a = 1 from Or.inl (bool01 b7 c6))]
          refine r_aload_n dX9_resend_0 rfl ?_
          refine r_iload_n dX9_resend_1 rfl ?_
          refine r_cV ca_yX9_isNode ml_X9_147 im_yX9_isNode se_yX9_isNode (by decide) rfl (lay_ok hL rfl) (c_X9_isNode hL s0 (by omega)) ⟨by decide, by decide⟩ (by first | decide | omega) (by first | decide | omega) rfl (Nat.le_of_ble_eq_true rfl) dX9_resend_2 ?_
          refine r_top 1 (inN_yes hj (by omega)) ?_
          refine r_if_eq 21 dX9_resend_5 (by decide) (fun hq => absurd hq (by decide)) (fun _ => ?_)
          refine r_aload_n dX9_resend_8 rfl ?_
          refine r_iload_n dX9_resend_9 rfl ?_
          refine r_cV ca_yX9_isNode ml_X9_147 im_yX9_isNode se_yX9_isNode (by decide) rfl (lay_ok hL rfl) (c_X9_isNode hL s0 (by omega)) ⟨by decide, by decide⟩ (by first | decide | omega) (by first | decide | omega) rfl (Nat.le_of_ble_eq_true rfl) dX9_resend_10 ?_
          refine r_top 1 (inN_yes hb (by omega)) ?_
          refine r_if_eq 21 dX9_resend_13 (by decide) (fun hq => absurd hq (by decide)) (fun _ => ?_)
          refine r_iload_n dX9_resend_16 rfl ?_
          refine r_iload_n dX9_resend_17 rfl ?_
          refine r_icmp_ne 23 dX9_resend_18 (by decide) (fun _ => ?_) (fun hq => absurd hq (fun z => cab ((nI_eq (by omega) (by omega)).mp z)))
          refine r_aload_n dX9_resend_23 rfl ?_
          refine r_getE (0) kX9 (k := 6) (by decide) rfl fl_X9_131 (lay_ok hL rfl) dX9_resend_24 (by rw [s6, bool01 b7 c6]; rfl) ?_
          refine r_if_eq 39 dX9_resend_27 (by decide) (fun _ => ?_) (fun hq => absurd (by decide) hq)
          refine r_bipush (-2) dX9_resend_39 (by decide) ?_
          exact r_iret (Or.inl rfl) dX9_resend_41 ⟨by rw [hk], by rw [hk]; exact hA, hL0, am_fr.rf⟩
theorem nI_subN {a b : Nat} (h : b ≤ a) : nI a - nI b = nI (a - b) := by
  have e : nI (a - b) + nI b = nI a := by rw [nI_add, show a - b + b = a by omega]
  rw [← e]
  exact Int32.add_sub_cancel _ _
set_option maxHeartbeats 4000000 in
set_option maxRecDepth 100000 in
theorem c_X9_coming {l : Launch} {X : Nat × (Nat → Int32)} {M : am_M} (hL : Lay M) {g : tG} {i : Nat} {t : tL} (hA : absM M g) (hB : gB g) (ht : (gn g)[i]? = some t) (hw : t.1 = gs g 7 → t.2.1 ≤ ga g 4 t.2.2.2.1 + 1) : am_F l yX9_coming cX9_coming 3 (some .int) 1 0 0 X [.ref 93, .int (nI i)] M (some (.int (nI (t_how g t)))) (M) := by
  refine am_C.of (by decide) (by simp [Value.category, va_rf]) (Nat.le_of_ble_eq_true rfl) ?_
  obtain ⟨y0, l3, l4, l5, l6, l7, l9, l8⟩ := id (hA.2.2.2.2.1.2 i t ht)
  have tk := hB.2.2.2.2.2.2.2.2.2.2.2.2.2.2.1 t (List.mem_of_getElem? ht)
  have hn5 : t.2.2.2.1 < 5 := by have := tk.2.2.2.1; have := hB.2.1; omega
  have ho5 : t.2.2.1 < 5 := by have := tk.2.2.1; have := hB.2.1; omega
  obtain ⟨x4, x5, x6⟩ := hA.2.2.2.1 t.2.2.2.1 hn5
  obtain ⟨w4, w5, w6⟩ := hB.2.2.2.2.2.2.2.2.2.2.2.2.1 t.2.2.2.1 hn5
  have s7 := hA.1.2.2.2.2.2.2.2.1
  have b8 := hB.2.2.2.2.2.2.2.2.1
  have h60 : i < 60 := by have := (List.getElem?_eq_some_iff.mp ht).1; have := hB.2.2.2.2.2.2.2.2.2.2.2.2.2.1; omega
  have t1 := tk.1
  have t2 := tk.2.1
  by_cases d6 : ga g 6 t.2.2.2.1 = 1
  · have hk : t_how g t = 3 := by unfold t_how; rw [if_pos d6]
    rw [hk]
    refine r_aload_n dX9_coming_0 rfl ?_
    refine r_getF kX9 (k := 23) (by decide) rfl fl_X9_60 (lay_ok hL rfl) (lay_r hL rfl) dX9_coming_1 ?_
    refine r_iload_n dX9_coming_4 rfl ?_
    refine r_ialdE (nI t.2.2.2.1) (lay_ok hL rfl) (by omega) (by omega) dX9_coming_5 l6 ?_
    refine r_istore_n _ dX9_coming_6 (by decide) rfl ?_
    refine r_aload_n dX9_coming_7 rfl ?_
    refine r_getF kX9 (k := 17) (by decide) rfl fl_X9_45 (lay_ok hL rfl) (lay_r hL rfl) dX9_coming_8 ?_
    refine r_iload_n dX9_coming_11 rfl ?_
    refine r_zaldE (1) (lay_ok hL rfl) (by omega) (by omega) dX9_coming_12 (by rw [x6, d6]; rfl) ?_
    refine r_if_eq 18 dX9_coming_13 (by decide) (fun hq => absurd hq (by decide)) (fun _ => ?_)
    refine r_iconst (3) dX9_coming_16 (by decide) ?_
    exact r_iret (Or.inl rfl) dX9_coming_17 ⟨rfl, rfl⟩
  · by_cases c1 : t.1 = gs g 7
    · by_cases c2 : t.2.1 < ga g 4 t.2.2.2.1
      · have hk : t_how g t = 1 := by unfold t_how; rw [if_neg d6, if_pos (Or.inr (Or.inl c2))]
        rw [hk]
        refine r_aload_n dX9_coming_0 rfl ?_
        refine r_getF kX9 (k := 23) (by decide) rfl fl_X9_60 (lay_ok hL rfl) (lay_r hL rfl) dX9_coming_1 ?_
        refine r_iload_n dX9_coming_4 rfl ?_
        refine r_ialdE (nI t.2.2.2.1) (lay_ok hL rfl) (by omega) (by omega) dX9_coming_5 l6 ?_
        refine r_istore_n _ dX9_coming_6 (by decide) rfl ?_
        refine r_aload_n dX9_coming_7 rfl ?_
        refine r_getF kX9 (k := 17) (by decide) rfl fl_X9_45 (lay_ok hL rfl) (lay_r hL rfl) dX9_coming_8 ?_
        refine r_iload_n dX9_coming_11 rfl ?_
        refine r_zaldE (0) (lay_ok hL rfl) (by omega) (by omega) dX9_coming_12 (by rw [x6, bool01 w6 d6]; rfl) ?_
        refine r_if_eq 18 dX9_coming_13 (by decide) (fun _ => ?_) (fun hq => absurd (by decide) hq)
        refine r_aload_n dX9_coming_18 rfl ?_
        refine r_getF kX9 (k := 20) (by decide) rfl fl_X9_51 (lay_ok hL rfl) (lay_r hL rfl) dX9_coming_19 ?_
        refine r_iload_n dX9_coming_22 rfl ?_
        refine r_ialdE (nI t.1) (lay_ok hL rfl) (by omega) (by omega) dX9_coming_23 l3 ?_
        refine r_aload_n dX9_coming_24 rfl ?_
        refine r_getE (nI (gs g 7)) kX9 (k := 33) (by decide) rfl fl_X9_137 (lay_ok hL rfl) dX9_coming_25 s7 ?_
        refine r_icmp_ne 55 dX9_coming_28 (by decide) (fun hq => absurd (by rw [c1]) hq) (fun _ => ?_)
        refine r_aload_n dX9_coming_31 rfl ?_
        refine r_getF kX9 (k := 21) (by decide) rfl fl_X9_54 (lay_ok hL rfl) (lay_r hL rfl) dX9_coming_32 ?_
        refine r_iload_n dX9_coming_35 rfl ?_
        refine r_ialdE (nI t.2.1) (lay_ok hL rfl) (by omega) (by omega) dX9_coming_36 l4 ?_
        refine r_aload_n dX9_coming_37 rfl ?_
        refine r_getF kX9 (k := 15) (by decide) rfl fl_X9_39 (lay_ok hL rfl) (lay_r hL rfl) dX9_coming_38 ?_
        refine r_iload_n dX9_coming_41 rfl ?_
        refine r_ialdE (nI (ga g 4 t.2.2.2.1)) (lay_ok hL rfl) (by omega) (by omega) dX9_coming_42 x4 ?_
        refine r_icmp_lt 55 dX9_coming_43 (by decide) (fun _ => ?_) (fun hq => absurd (nI_lt c2 (by omega)) hq)
        refine r_iconst (1) dX9_coming_55 (by decide) ?_
        exact r_iret (Or.inl rfl) dX9_coming_56 ⟨rfl, rfl⟩
      · by_cases c3 : ga g 5 t.2.2.2.1 = 1
        · have hk : t_how g t = 1 := by unfold t_how; rw [if_neg d6, if_pos (Or.inr (Or.inr c3))]
          rw [hk]
          refine r_aload_n dX9_coming_0 rfl ?_
          refine r_getF kX9 (k := 23) (by decide) rfl fl_X9_60 (lay_ok hL rfl) (lay_r hL rfl) dX9_coming_1 ?_
          refine r_iload_n dX9_coming_4 rfl ?_
          refine r_ialdE (nI t.2.2.2.1) (lay_ok hL rfl) (by omega) (by omega) dX9_coming_5 l6 ?_
          refine r_istore_n _ dX9_coming_6 (by decide) rfl ?_
          refine r_aload_n dX9_coming_7 rfl ?_
          refine r_getF kX9 (k := 17) (by decide) rfl fl_X9_45 (lay_ok hL rfl) (lay_r hL rfl) dX9_coming_8 ?_
          refine r_iload_n dX9_coming_11 rfl ?_
          refine r_zaldE (0) (lay_ok hL rfl) (by omega) (by omega) dX9_coming_12 (by rw [x6, bool01 w6 d6]; rfl) ?_
          refine r_if_eq 18 dX9_coming_13 (by decide) (fun _ => ?_) (fun hq => absurd (by decide) hq)
          refine r_aload_n dX9_coming_18 rfl ?_
          refine r_getF kX9 (k := 20) (by decide) rfl fl_X9_51 (lay_ok hL rfl) (lay_r hL rfl) dX9_coming_19 ?_
          refine r_iload_n dX9_coming_22 rfl ?_
          refine r_ialdE (nI t.1) (lay_ok hL rfl) (by omega) (by omega) dX9_coming_23 l3 ?_
          refine r_aload_n dX9_coming_24 rfl ?_
          refine r_getE (nI (gs g 7)) kX9 (k := 33) (by decide) rfl fl_X9_137 (lay_ok hL rfl) dX9_coming_25 s7 ?_
          refine r_icmp_ne 55 dX9_coming_28 (by decide) (fun hq => absurd (by rw [c1]) hq) (fun _ => ?_)
          refine r_aload_n dX9_coming_31 rfl ?_
          refine r_getF kX9 (k := 21) (by decide) rfl fl_X9_54 (lay_ok hL rfl) (lay_r hL rfl) dX9_coming_32 ?_
          refine r_iload_n dX9_coming_35 rfl ?_
          refine r_ialdE (nI t.2.1) (lay_ok hL rfl) (by omega) (by omega) dX9_coming_36 l4 ?_
          refine r_aload_n dX9_coming_37 rfl ?_
          refine r_getF kX9 (k := 15) (by decide) rfl fl_X9_39 (lay_ok hL rfl) (lay_r hL rfl) dX9_coming_38 ?_
          refine r_iload_n dX9_coming_41 rfl ?_
          refine r_ialdE (nI (ga g 4 t.2.2.2.1)) (lay_ok hL rfl) (by omega) (by omega) dX9_coming_42 x4 ?_
          refine r_icmp_lt 55 dX9_coming_43 (by decide) (fun hq => absurd hq (nI_nlt (by omega) (by omega))) (fun _ => ?_)
          refine r_aload_n dX9_coming_46 rfl ?_
          refine r_getF kX9 (k := 16) (by decide) rfl fl_X9_42 (lay_ok hL rfl) (lay_r hL rfl) dX9_coming_47 ?_
          refine r_iload_n dX9_coming_50 rfl ?_
          refine r_zaldE (1) (lay_ok hL rfl) (by omega) (by omega) dX9_coming_51 (by rw [x5, c3]; rfl) ?_
          refine r_if_eq 57 dX9_coming_52 (by decide) (fun hq => absurd hq (by decide)) (fun _ => ?_)
          refine r_iconst (1) dX9_coming_55 (by decide) ?_
          exact r_iret (Or.inl rfl) dX9_coming_56 ⟨rfl, rfl⟩
        · have hno : ¬ (t.1 ≠ gs g 7 ∨ t.2.1 < ga g 4 t.2.2.2.1 ∨ ga g 5 t.2.2.2.1 = 1) := fun z => z.elim (fun z => z c1) (fun z => z.elim c2 c3)
          have hww := hw c1
          have hy := yO_is (hA.2.2.2.2.2.1 t.2.2.2.1 t.2.2.1 (t.2.1 - ga g 4 t.2.2.2.1) hn5 ho5 (by omega)).1
          by_cases c4 : (gl g (t.2.1 - ga g 4 t.2.2.2.1) t.2.2.2.1 t.2.2.1).isSome = true
          · have hk : t_how g t = 2 := by unfold t_how; rw [if_neg d6, if_neg hno, if_pos c4]
            rw [hk]
            rw [if_pos c4] at hy
            refine r_aload_n dX9_coming_0 rfl ?_
            refine r_getF kX9 (k := 23) (by decide) rfl fl_X9_60 (lay_ok hL rfl) (lay_r hL rfl) dX9_coming_1 ?_
            refine r_iload_n dX9_coming_4 rfl ?_
            refine r_ialdE (nI t.2.2.2.1) (lay_ok hL rfl) (by omega) (by omega) dX9_coming_5 l6 ?_
            refine r_istore_n _ dX9_coming_6 (by decide) rfl ?_
            refine r_aload_n dX9_coming_7 rfl ?_
            refine r_getF kX9 (k := 17) (by decide) rfl fl_X9_45 (lay_ok hL rfl) (lay_r hL rfl) dX9_coming_8 ?_
            refine r_iload_n dX9_coming_11 rfl ?_
            refine r_zaldE (0) (lay_ok hL rfl) (by omega) (by omega) dX9_coming_12 (by rw [x6, bool01 w6 d6]; rfl) ?_
            refine r_if_eq 18 dX9_coming_13 (by decide) (fun _ => ?_) (fun hq => absurd (by decide) hq)
            refine r_aload_n dX9_coming_18 rfl ?_
            refine r_getF kX9 (k := 20) (by decide) rfl fl_X9_51 (lay_ok hL rfl) (lay_r hL rfl) dX9_coming_19 ?_
            refine r_iload_n dX9_coming_22 rfl ?_
            refine r_ialdE (nI t.1) (lay_ok hL rfl) (by omega) (by omega) dX9_coming_23 l3 ?_
            refine r_aload_n dX9_coming_24 rfl ?_
            refine r_getE (nI (gs g 7)) kX9 (k := 33) (by decide) rfl fl_X9_137 (lay_ok hL rfl) dX9_coming_25 s7 ?_
            refine r_icmp_ne 55 dX9_coming_28 (by decide) (fun hq => absurd (by rw [c1]) hq) (fun _ => ?_)
            refine r_aload_n dX9_coming_31 rfl ?_
            refine r_getF kX9 (k := 21) (by decide) rfl fl_X9_54 (lay_ok hL rfl) (lay_r hL rfl) dX9_coming_32 ?_
            refine r_iload_n dX9_coming_35 rfl ?_
            refine r_ialdE (nI t.2.1) (lay_ok hL rfl) (by omega) (by omega) dX9_coming_36 l4 ?_
            refine r_aload_n dX9_coming_37 rfl ?_
            refine r_getF kX9 (k := 15) (by decide) rfl fl_X9_39 (lay_ok hL rfl) (lay_r hL rfl) dX9_coming_38 ?_
            refine r_iload_n dX9_coming_41 rfl ?_
            refine r_ialdE (nI (ga g 4 t.2.2.2.1)) (lay_ok hL rfl) (by omega) (by omega) dX9_coming_42 x4 ?_
            refine r_icmp_lt 55 dX9_coming_43 (by decide) (fun hq => absurd hq (nI_nlt (by omega) (by omega))) (fun _ => ?_)
            refine r_aload_n dX9_coming_46 rfl ?_
            refine r_getF kX9 (k := 16) (by decide) rfl fl_X9_42 (lay_ok hL rfl) (lay_r hL rfl) dX9_coming_47 ?_
            refine r_iload_n dX9_coming_50 rfl ?_
            refine r_zaldE (0) (lay_ok hL rfl) (by omega) (by omega) dX9_coming_51 (by rw [x5, bool01 w5 c3]; rfl) ?_
            refine r_if_eq 57 dX9_coming_52 (by decide) (fun _ => ?_) (fun hq => absurd (by decide) hq)
            refine r_aload_n dX9_coming_57 rfl ?_
            refine r_getF kX9 (k := 19) (by decide) rfl fl_X9_48 (lay_ok hL rfl) (lay_r hL rfl) dX9_coming_58 ?_
            refine r_aload_n dX9_coming_61 rfl ?_
            refine r_iload_n dX9_coming_62 rfl ?_
            refine r_aload_n dX9_coming_63 rfl ?_
            refine r_getF kX9 (k := 21) (by decide) rfl fl_X9_54 (lay_ok hL rfl) (lay_r hL rfl) dX9_coming_64 ?_
            refine r_iload_n dX9_coming_67 rfl ?_
            refine r_ialdE (nI t.2.1) (lay_ok hL rfl) (by omega) (by omega) dX9_coming_68 l4 ?_
            refine r_aload_n dX9_coming_69 rfl ?_
            refine r_getF kX9 (k := 15) (by decide) rfl fl_X9_39 (lay_ok hL rfl) (lay_r hL rfl) dX9_coming_70 ?_
            refine r_iload_n dX9_coming_73 rfl ?_
            refine r_ialdE (nI (ga g 4 t.2.2.2.1)) (lay_ok hL rfl) (by omega) (by omega) dX9_coming_74 x4 ?_
            refine r_isub dX9_coming_75 ?_
            refine r_top (nI (t.2.1 - ga g 4 t.2.2.2.1)) (nI_subN (by omega)) ?_
            refine r_aload_n dX9_coming_76 rfl ?_
            refine r_getF kX9 (k := 22) (by decide) rfl fl_X9_57 (lay_ok hL rfl) (lay_r hL rfl) dX9_coming_77 ?_
            refine r_iload_n dX9_coming_80 rfl ?_
            refine r_ialdE (nI t.2.2.1) (lay_ok hL rfl) (by omega) (by omega) dX9_coming_81 l5 ?_
            refine r_cV ca_yX9_has ml_X9_181 im_yX9_has se_yX9_has (by decide) rfl (lay_ok hL rfl) (c_X9_has hL) ⟨by decide, by decide⟩ (by first | decide | omega) (by first | decide | omega) rfl (Nat.le_of_ble_eq_true rfl) dX9_coming_82 ?_
            refine r_zaldE (1) (lay_ok hL rfl) (by omega) (by omega) dX9_coming_85 hy ?_
            refine r_if_eq 93 dX9_coming_86 (by decide) (fun hq => absurd hq (by decide)) (fun _ => ?_)
            refine r_iconst (2) dX9_coming_89 (by decide) ?_
            refine r_goto 94 dX9_coming_90 (by decide) ?_
            exact r_iret (Or.inl rfl) dX9_coming_94 ⟨rfl, rfl⟩
          · have hk : t_how g t = 0 := by unfold t_how; rw [if_neg d6, if_neg hno, if_neg c4]
            rw [hk]
            rw [if_neg c4] at hy
            refine r_aload_n dX9_coming_0 rfl ?_
            refine r_getF kX9 (k := 23) (by decide) rfl fl_X9_60 (lay_ok hL rfl) (lay_r hL rfl) dX9_coming_1 ?_
            refine r_iload_n dX9_coming_4 rfl ?_
            refine r_ialdE (nI t.2.2.2.1) (lay_ok hL rfl) (by omega) (by omega) dX9_coming_5 l6 ?_
            refine r_istore_n _ dX9_coming_6 (by decide) rfl ?_
            refine r_aload_n dX9_coming_7 rfl ?_
            refine r_getF kX9 (k := 17) (by decide) rfl fl_X9_45 (lay_ok hL rfl) (lay_r hL rfl) dX9_coming_8 ?_
            refine r_iload_n dX9_coming_11 rfl ?_
            refine r_zaldE (0) (lay_ok hL rfl) (by omega) (by omega) dX9_coming_12 (by rw [x6, bool01 w6 d6]; rfl) ?_
            refine r_if_eq 18 dX9_coming_13 (by decide) (fun _ => ?_) (fun hq => absurd (by decide) hq)
            refine r_aload_n dX9_coming_18 rfl ?_
            refine r_getF kX9 (k := 20) (by decide) rfl fl_X9_51 (lay_ok hL rfl) (lay_r hL rfl) dX9_coming_19 ?_
            refine r_iload_n dX9_coming_22 rfl ?_
            refine r_ialdE (nI t.1) (lay_ok hL rfl) (by omega) (by omega) dX9_coming_23 l3 ?_
            refine r_aload_n dX9_coming_24 rfl ?_
            refine r_getE (nI (gs g 7)) kX9 (k := 33) (by decide) rfl fl_X9_137 (lay_ok hL rfl) dX9_coming_25 s7 ?_
            refine r_icmp_ne 55 dX9_coming_28 (by decide) (fun hq => absurd (by rw [c1]) hq) (fun _ => ?_)
            refine r_aload_n dX9_coming_31 rfl ?_
            refine r_getF kX9 (k := 21) (by decide) rfl fl_X9_54 (lay_ok hL rfl) (lay_r hL rfl) dX9_coming_32 ?_
            refine r_iload_n dX9_coming_35 rfl ?_
            refine r_ialdE (nI t.2.1) (lay_ok hL rfl) (by omega) (by omega) dX9_coming_36 l4 ?_
            refine r_aload_n dX9_coming_37 rfl ?_
            refine r_getF kX9 (k := 15) (by decide) rfl fl_X9_39 (lay_ok hL rfl) (lay_r hL rfl) dX9_coming_38 ?_
            refine r_iload_n dX9_coming_41 rfl ?_
            refine r_ialdE (nI (ga g 4 t.2.2.2.1)) (lay_ok hL rfl) (by omega) (by omega) dX9_coming_42 x4 ?_
            refine r_icmp_lt 55 dX9_coming_43 (by decide) (fun hq => absurd hq (nI_nlt (by omega) (by omega))) (fun _ => ?_)
            refine r_aload_n dX9_coming_46 rfl ?_
            refine r_getF kX9 (k := 16) (by decide) rfl fl_X9_42 (lay_ok hL rfl) (lay_r hL rfl) dX9_coming_47 ?_
            refine r_iload_n dX9_coming_50 rfl ?_
            refine r_zaldE (0) (lay_ok hL rfl) (by omega) (by omega) dX9_coming_51 (by rw [x5, bool01 w5 c3]; rfl) ?_
            refine r_if_eq 57 dX9_coming_52 (by decide) (fun _ => ?_) (fun hq => absurd (by decide) hq)
            refine r_aload_n dX9_coming_57 rfl ?_
            refine r_getF kX9 (k := 19) (by decide) rfl fl_X9_48 (lay_ok hL rfl) (lay_r hL rfl) dX9_coming_58 ?_
            refine r_aload_n dX9_coming_61 rfl ?_
            refine r_iload_n dX9_coming_62 rfl ?_
            refine r_aload_n dX9_coming_63 rfl ?_
            refine r_getF kX9 (k := 21) (by decide) rfl fl_X9_54 (lay_ok hL rfl) (lay_r hL rfl) dX9_coming_64 ?_
            refine r_iload_n dX9_coming_67 rfl ?_
            refine r_ialdE (nI t.2.1) (lay_ok hL rfl) (by omega) (by omega) dX9_coming_68 l4 ?_
            refine r_aload_n dX9_coming_69 rfl ?_
            refine r_getF kX9 (k := 15) (by decide) rfl fl_X9_39 (lay_ok hL rfl) (lay_r hL rfl) dX9_coming_70 ?_
            refine r_iload_n dX9_coming_73 rfl ?_
            refine r_ialdE (nI (ga g 4 t.2.2.2.1)) (lay_ok hL rfl) (by omega) (by omega) dX9_coming_74 x4 ?_
            refine r_isub dX9_coming_75 ?_
            refine r_top (nI (t.2.1 - ga g 4 t.2.2.2.1)) (nI_subN (by omega)) ?_
            refine r_aload_n dX9_coming_76 rfl ?_
            refine r_getF kX9 (k := 22) (by decide) rfl fl_X9_57 (lay_ok hL rfl) (lay_r hL rfl) dX9_coming_77 ?_
            refine r_iload_n dX9_coming_80 rfl ?_
            refine r_ialdE (nI t.2.2.1) (lay_ok hL rfl) (by omega) (by omega) dX9_coming_81 l5 ?_
            refine r_cV ca_yX9_has ml_X9_181 im_yX9_has se_yX9_has (by decide) rfl (lay_ok hL rfl) (c_X9_has hL) ⟨by decide, by decide⟩ (by first | decide | omega) (by first | decide | omega) rfl (Nat.le_of_ble_eq_true rfl) dX9_coming_82 ?_
            refine r_zaldE (0) (lay_ok hL rfl) (by omega) (by omega) dX9_coming_85 hy ?_
            refine r_if_eq 93 dX9_coming_86 (by decide) (fun _ => ?_) (fun hq => absurd (by decide) hq)
            refine r_iconst (0) dX9_coming_93 (by decide) ?_
            exact r_iret (Or.inl rfl) dX9_coming_94 ⟨rfl, rfl⟩
    · have hk : t_how g t = 1 := by unfold t_how; rw [if_neg d6, if_pos (Or.inl c1)]
      rw [hk]
      refine r_aload_n dX9_coming_0 rfl ?_
      refine r_getF kX9 (k := 23) (by decide) rfl fl_X9_60 (lay_ok hL rfl) (lay_r hL rfl) dX9_coming_1 ?_
      refine r_iload_n dX9_coming_4 rfl ?_
      refine r_ialdE (nI t.2.2.2.1) (lay_ok hL rfl) (by omega) (by omega) dX9_coming_5 l6 ?_
      refine r_istore_n _ dX9_coming_6 (by decide) rfl ?_
      refine r_aload_n dX9_coming_7 rfl ?_
      refine r_getF kX9 (k := 17) (by decide) rfl fl_X9_45 (lay_ok hL rfl) (lay_r hL rfl) dX9_coming_8 ?_
      refine r_iload_n dX9_coming_11 rfl ?_
      refine r_zaldE (0) (lay_ok hL rfl) (by omega) (by omega) dX9_coming_12 (by rw [x6, bool01 w6 d6]; rfl) ?_
      refine r_if_eq 18 dX9_coming_13 (by decide) (fun _ => ?_) (fun hq => absurd (by decide) hq)
      refine r_aload_n dX9_coming_18 rfl ?_
      refine r_getF kX9 (k := 20) (by decide) rfl fl_X9_51 (lay_ok hL rfl) (lay_r hL rfl) dX9_coming_19 ?_
      refine r_iload_n dX9_coming_22 rfl ?_
      refine r_ialdE (nI t.1) (lay_ok hL rfl) (by omega) (by omega) dX9_coming_23 l3 ?_
      refine r_aload_n dX9_coming_24 rfl ?_
      refine r_getE (nI (gs g 7)) kX9 (k := 33) (by decide) rfl fl_X9_137 (lay_ok hL rfl) dX9_coming_25 s7 ?_
      refine r_icmp_ne 55 dX9_coming_28 (by decide) (fun _ => ?_) (fun hq => absurd hq (fun z => c1 ((nI_eq (by omega) (by omega)).mp z)))
      refine r_iconst (1) dX9_coming_55 (by decide) ?_
      exact r_iret (Or.inl rfl) dX9_coming_56 ⟨rfl, rfl⟩
theorem held_self {c : Nat} {g : tG} (hI : gI c g) {w n : Nat} (hw : w < 2) : gl g w n n = none := by
  cases e : gl g w n n with
  | none => rfl
  | some u =>
    have y1 := hI.2.2.2.2.2.2.1 w n n u hw e
    have y2 := hI.1.2.2.2.2.2.2.2.2.2.2.2.2.2.2.2 w n n u e
    exact absurd (y1.2.2.1.trans y1.2.2.2.symm) y2.2.2.2.2.1
set_option maxHeartbeats 4000000 in
set_option maxRecDepth 100000 in
theorem k_X9_deliver {l : Launch} {X : Nat × (Nat → Int32)} {M : am_M} (hL : Lay M) {g : tG} {c0 : Nat} (hA : absM M g) (hI : gI c0 g) {x : Int32} : am_C l yX9_deliver cX9_deliver 4 (some .int) 5 0 0 X [.ref 93, .int x] M (fun v M' => v = some (.int (k_deliver x g).1) ∧ absM M' (k_deliver x g).2 ∧ Lay M' ∧ am_fr rS M M') := by
  refine am_C.of (by decide) (by simp [Value.category, va_rf]) (Nat.le_of_ble_eq_true rfl) ?_
  have hB := hI.1
  obtain ⟨b0, b1, b2, b3, b4, b5, b6, b7, b8, b9, bV, bA, bN, bl, bn, bh⟩ := id hB
  obtain ⟨s0, s1, s2, s3, s4, s5, s6, s7, s8, s9⟩ := hA.1
  have s18 := hA.2.2.2.2.1.1
  have hL0 := hL
  rcases inN_cases x (k := (gn g).length) (by omega) with ⟨e, c⟩ | ⟨i, hi, rfl, e⟩
  · have hk : k_deliver x g = (-1, g) := by simp only [k_deliver, e]
    refine r_aload_n dX9_deliver_0 rfl ?_
    refine r_iload_n dX9_deliver_1 rfl ?_
    refine r_cV ca_yX9_isLetter ml_X9_208 im_yX9_isLetter se_yX9_isLetter (by decide) rfl (lay_ok hL rfl) (c_X9_isLetter hL s18 (by omega)) ⟨by decide, by decide⟩ (by first | decide | omega) (by first | decide | omega) rfl (Nat.le_of_ble_eq_true rfl) dX9_deliver_2 ?_
    refine r_top 0 (inN_no c) ?_
    refine r_if_ne 10 dX9_deliver_5 (by decide) (fun hq => absurd (by decide) hq) (fun _ => ?_)
    refine r_iconst (-1) dX9_deliver_8 (by decide) ?_
    exact r_iret (Or.inl rfl) dX9_deliver_9 ⟨by rw [hk], by rw [hk]; exact hA, hL0, am_fr.rf⟩
  · obtain ⟨t, ht⟩ : ∃ t, (gn g)[i]? = some t := ⟨_, List.getElem?_eq_getElem hi⟩
    obtain ⟨y0, l3, l4, l5, l6, l7, l9, l8⟩ := id (hA.2.2.2.2.1.2 i t ht)
    have tk := hB.2.2.2.2.2.2.2.2.2.2.2.2.2.2.1 t (List.mem_of_getElem? ht)
    have hn5 : t.2.2.2.1 < 5 := by have := tk.2.2.2.1; have := hB.2.1; omega
    have ho5 : t.2.2.1 < 5 := by have := tk.2.2.1; have := hB.2.1; omega
    obtain ⟨x4, x5, x6⟩ := hA.2.2.2.1 t.2.2.2.1 hn5
    obtain ⟨w4, w5, w6⟩ := hB.2.2.2.2.2.2.2.2.2.2.2.2.1 t.2.2.2.1 hn5
    have hk : k_deliver (nI i) g = (nI (t_how g t), g_deliver i t g) := by simp only [k_deliver, e, ht]
    have hw := gI_w hI (Or.inl (List.mem_of_getElem? ht)) tk
    have h4 := how_lt g t
    by_cases h0 : t_how g t = 0
    · obtain ⟨z1, z2, z3, z4, z5⟩ := how0 h0
      have zw := hw z2
      have t2 := tk.2.1
      have hJ := onI_hold hI ht h0
      have hnn : gl g 0 t.2.2.2.1 t.2.2.2.1 = none := held_self hI (by decide)
      have hnn1 : gl g 1 t.2.2.2.1 t.2.2.2.1 = none := held_self hI (by decide)
      have hne : ¬ t.2.2.2.1 = t.2.2.1 := fun z => tk.2.2.2.2.1 z.symm
      have j1 : gl (g_hold i t g) 0 t.2.2.2.1 t.2.2.2.1 = none := by show (if 0 = t.2.1 - ga g 4 t.2.2.2.1 ∧ t.2.2.2.1 = t.2.2.2.1 ∧ t.2.2.2.1 = t.2.2.1 then some t else gl g 0 t.2.2.2.1 t.2.2.2.1) = none; rw [if_neg (fun z => hne z.2.2)]; exact hnn
      have j2 : gl (g_hold i t g) 1 t.2.2.2.1 t.2.2.2.1 = none := by show (if 1 = t.2.1 - ga g 4 t.2.2.2.1 ∧ t.2.2.2.1 = t.2.2.2.1 ∧ t.2.2.2.1 = t.2.2.1 then some t else gl g 1 t.2.2.2.1 t.2.2.2.1) = none; rw [if_neg (fun z => hne z.2.2)]; exact hnn1
      have hsl : slotOf (t.2.1 - ga g 4 t.2.2.2.1) t.2.2.2.1 t.2.2.1 = 110 + 10 * t.2.2.2.1 + 5 * (t.2.1 - ga g 4 t.2.2.2.1) + t.2.2.1 := by unfold slotOf; rw [if_pos (by omega)]
      have h60 : i < 60 := by omega
      rw [h0] at hk
      have hBh := gB_hold hB tk (t.2.1 - ga g 4 t.2.2.2.1) t.2.2.2.1 t.2.2.1
      refine r_aload_n dX9_deliver_0 rfl ?_
      refine r_iload_n dX9_deliver_1 rfl ?_
      refine r_cV ca_yX9_isLetter ml_X9_208 im_yX9_isLetter se_yX9_isLetter (by decide) rfl (lay_ok hL rfl) (c_X9_isLetter hL s18 (by omega)) ⟨by decide, by decide⟩ (by first | decide | omega) (by first | decide | omega) rfl (Nat.le_of_ble_eq_true rfl) dX9_deliver_2 ?_
      refine r_top 1 (inN_yes hi (by omega)) ?_
      refine r_if_ne 10 dX9_deliver_5 (by decide) (fun _ => ?_) (fun hq => absurd hq (by decide))
      refine r_aload_n dX9_deliver_10 rfl ?_
      refine r_iload_n dX9_deliver_11 rfl ?_
      refine r_cV ca_yX9_coming ml_X9_213 im_yX9_coming se_yX9_coming (by decide) rfl (lay_ok hL rfl) (c_X9_coming hL hA hB ht hw) ⟨by decide, by decide⟩ (by first | decide | omega) (by first | decide | omega) rfl (Nat.le_of_ble_eq_true rfl) dX9_deliver_12 ?_
      refine r_top (nI 0) (by rw [h0]) ?_
      refine r_istore_n _ dX9_deliver_15 (by decide) rfl ?_
      refine r_aload_n dX9_deliver_16 rfl ?_
      refine r_getF kX9 (k := 23) (by decide) rfl fl_X9_60 (lay_ok hL rfl) (lay_r hL rfl) dX9_deliver_17 ?_
      refine r_iload_n dX9_deliver_20 rfl ?_
      refine r_ialdE (nI t.2.2.2.1) (lay_ok hL rfl) (by omega) (by omega) dX9_deliver_21 l6 ?_
      refine r_istore_n _ dX9_deliver_22 (by decide) rfl ?_
      refine r_iload_n dX9_deliver_23 rfl ?_
      refine r_if_ne 56 dX9_deliver_24 (by decide) (fun hq => absurd rfl hq) (fun _ => ?_)
      refine r_aload_n dX9_deliver_27 rfl ?_
      refine r_iload_n dX9_deliver_28 rfl ?_
      refine r_aload_n dX9_deliver_29 rfl ?_
      refine r_iload_n dX9_deliver_30 rfl ?_
      refine r_aload_n dX9_deliver_31 rfl ?_
      refine r_getF kX9 (k := 21) (by decide) rfl fl_X9_54 (lay_ok hL rfl) (lay_r hL rfl) dX9_deliver_32 ?_
      refine r_iload_n dX9_deliver_35 rfl ?_
      refine r_ialdE (nI t.2.1) (lay_ok hL rfl) (by omega) (by omega) dX9_deliver_36 l4 ?_
      refine r_aload_n dX9_deliver_37 rfl ?_
      refine r_getF kX9 (k := 15) (by decide) rfl fl_X9_39 (lay_ok hL rfl) (lay_r hL rfl) dX9_deliver_38 ?_
      refine r_iload_n dX9_deliver_41 rfl ?_
      refine r_ialdE (nI (ga g 4 t.2.2.2.1)) (lay_ok hL rfl) (by omega) (by omega) dX9_deliver_42 x4 ?_
      refine r_isub dX9_deliver_43 ?_
      refine r_top (nI (t.2.1 - ga g 4 t.2.2.2.1)) (nI_subN (by omega)) ?_
      refine r_aload_n dX9_deliver_44 rfl ?_
      refine r_getF kX9 (k := 22) (by decide) rfl fl_X9_57 (lay_ok hL rfl) (lay_r hL rfl) dX9_deliver_45 ?_
      refine r_iload_n dX9_deliver_48 rfl ?_
      refine r_ialdE (nI t.2.2.1) (lay_ok hL rfl) (by omega) (by omega) dX9_deliver_49 l5 ?_
      refine r_cV ca_yX9_has ml_X9_181 im_yX9_has se_yX9_has (by decide) rfl (lay_ok hL rfl) (c_X9_has hL) ⟨by decide, by decide⟩ (by first | decide | omega) (by first | decide | omega) rfl (Nat.le_of_ble_eq_true rfl) dX9_deliver_50 ?_
      refine r_callV ca_yX9_lay ml_X9_173 im_yX9_lay se_yX9_lay (by decide) rfl (lay_ok hL rfl) (c_X9_lay hL (a := i) (b := 110 + 10 * t.2.2.2.1 + 5 * (t.2.1 - ga g 4 t.2.2.2.1) + t.2.2.1) (by omega) (by omega) (by omega) hA.2.2.2.2.2.2.2) ⟨by decide, by decide⟩ (by first | decide | omega) (by first | decide | omega) rfl (Nat.le_of_ble_eq_true rfl) dX9_deliver_53 (fun v0 M1 hp1 => ?_)
      obtain ⟨rfl, y1, y2, y3⟩ := hp1
      have hA1 := absM_set (k := t.2.1 - ga g 4 t.2.2.2.1) (n := t.2.2.2.1) (o := t.2.2.1) hL0.1 hB hA (by omega) hn5 ho5 (by rw [hsl]; exact y1) y2 (by rw [hsl]; exact y3 _ (gB_lenN hB ht) (hA.2.2.2.2.1.2 i t ht))
      have hL1 := y1.1.lay hL
      have hA2 := absM_cnt hL1.1 hA1 (j := 0) (by decide) (gs g 9 + 1)
      have c9 : mI M1 119 0 = nI (gs g 9) := hA1.1.2.2.2.2.2.2.2.2.2 0 (by decide)
      have hL := hL1
      refine r_aload_n dX9_deliver_56 rfl ?_
      refine r_getF kX9 (k := 35) (by decide) rfl fl_X9_90 (lay_ok hL rfl) (lay_r hL rfl) dX9_deliver_57 ?_
      refine r_iload_n dX9_deliver_60 rfl ?_
      refine r_dup2 dX9_deliver_61 rfl rfl ?_
      refine r_ialdE (nI (gs g 9)) (lay_ok hL rfl) (by omega) (by omega) dX9_deliver_62 c9 ?_
      refine r_iconst (1) dX9_deliver_63 (by decide) ?_
      refine r_iadd dX9_deliver_64 ?_
      refine r_top (nI (gs g 9 + 1)) (nI_1 _) ?_
      refine r_iastN (lay_ok hL rfl) (by omega) (by decide) dX9_deliver_65 ?_
      refine r_lay (lay_wI hL _ _ _) (fun hL => ?_)
      refine r_aload_n dX9_deliver_66 rfl ?_
      refine r_iload_n dX9_deliver_67 rfl ?_
      refine r_callV ca_yX9_takeOut ml_X9_216 im_yX9_takeOut se_yX9_takeOut (by decide) rfl (lay_ok hL rfl) (c_X9_takeOut hL hA2 (gB_cnt hBh 0 (gs g 9 + 1)) hi) ⟨by decide, by decide⟩ (by first | decide | omega) (by first | decide | omega) rfl (Nat.le_of_ble_eq_true rfl) dX9_deliver_68 (fun v0 M2 hp1 => ?_)
      obtain ⟨rfl, hA3, hL3, hf3⟩ := hp1
      have hL := hL3
      refine r_iload_n dX9_deliver_71 rfl ?_
      refine r_if_ne 80 dX9_deliver_72 (by decide) (fun hq => absurd rfl hq) (fun _ => ?_)
      refine r_aload_n dX9_deliver_75 rfl ?_
      refine r_iload_n dX9_deliver_76 rfl ?_
      refine r_callV ca_yX9_goOn ml_X9_219 im_yX9_goOn se_yX9_goOn (by decide) rfl (lay_ok hL rfl) (c_X9_goOn hL3 hJ j1 j2 hA3) ⟨by decide, by decide⟩ (by first | decide | omega) (by first | decide | omega) rfl (Nat.le_of_ble_eq_true rfl) dX9_deliver_77 (fun v0 M3 hp1 => ?_)
      obtain ⟨rfl, hA4, hL4, hf4⟩ := hp1
      refine r_iload_n dX9_deliver_80 rfl ?_
      exact r_iret (Or.inl rfl) dX9_deliver_81 ⟨by rw [hk], by rw [hk]; show absM _ (g_deliver i t g); rw [show g_deliver i t g = g_on t.2.2.2.1 201 (g_hold i t g) from if_pos h0]; exact hA4, hL4, (((y1.1.wd (fun x a => by have := a.1; have := a.2; exact ⟨by omega, by omega⟩) : am_fr rS M _).tr (am_fr.wI _ _ ⟨by decide, by decide⟩)).tr hf3).tr hf4⟩
    · have hA2 := absM_cnt hL0.1 hA (j := t_how g t) h4 (gs g (9 + t_how g t) + 1)
      have hnz := nI_ne0 (show 0 < t_how g t by omega) (by omega)
      have c9 := s9 (t_how g t) h4
      refine r_aload_n dX9_deliver_0 rfl ?_
      refine r_iload_n dX9_deliver_1 rfl ?_
      refine r_cV ca_yX9_isLetter ml_X9_208 im_yX9_isLetter se_yX9_isLetter (by decide) rfl (lay_ok hL rfl) (c_X9_isLetter hL s18 (by omega)) ⟨by decide, by decide⟩ (by first | decide | omega) (by first | decide | omega) rfl (Nat.le_of_ble_eq_true rfl) dX9_deliver_2 ?_
      refine r_top 1 (inN_yes hi (by omega)) ?_
      refine r_if_ne 10 dX9_deliver_5 (by decide) (fun _ => ?_) (fun hq => absurd hq (by decide))
      refine r_aload_n dX9_deliver_10 rfl ?_
      refine r_iload_n dX9_deliver_11 rfl ?_
      refine r_cV ca_yX9_coming ml_X9_213 im_yX9_coming se_yX9_coming (by decide) rfl (lay_ok hL rfl) (c_X9_coming hL hA hB ht hw) ⟨by decide, by decide⟩ (by first | decide | omega) (by first | decide | omega) rfl (Nat.le_of_ble_eq_true rfl) dX9_deliver_12 ?_
      refine r_istore_n _ dX9_deliver_15 (by decide) rfl ?_
      refine r_aload_n dX9_deliver_16 rfl ?_
      refine r_getF kX9 (k := 23) (by decide) rfl fl_X9_60 (lay_ok hL rfl) (lay_r hL rfl) dX9_deliver_17 ?_
      refine r_iload_n dX9_deliver_20 rfl ?_
      refine r_ialdE (nI t.2.2.2.1) (lay_ok hL rfl) (by omega) (by omega) dX9_deliver_21 l6 ?_
      refine r_istore_n _ dX9_deliver_22 (by decide) rfl ?_
      refine r_iload_n dX9_deliver_23 rfl ?_
      refine r_if_ne 56 dX9_deliver_24 (by decide) (fun _ => ?_) (fun hq => absurd hq hnz)
      refine r_aload_n dX9_deliver_56 rfl ?_
      refine r_getF kX9 (k := 35) (by decide) rfl fl_X9_90 (lay_ok hL rfl) (lay_r hL rfl) dX9_deliver_57 ?_
      refine r_iload_n dX9_deliver_60 rfl ?_
      refine r_dup2 dX9_deliver_61 rfl rfl ?_
      refine r_ialdE (nI (gs g (9 + t_how g t))) (lay_ok hL rfl) (by omega) (by omega) dX9_deliver_62 c9 ?_
      refine r_iconst (1) dX9_deliver_63 (by decide) ?_
      refine r_iadd dX9_deliver_64 ?_
      refine r_top (nI (gs g (9 + t_how g t) + 1)) (nI_1 _) ?_
      refine r_iastN (lay_ok hL rfl) (by omega) (by decide) dX9_deliver_65 ?_
      refine r_lay (lay_wI hL _ _ _) (fun hL => ?_)
      refine r_aload_n dX9_deliver_66 rfl ?_
      refine r_iload_n dX9_deliver_67 rfl ?_
      refine r_callV ca_yX9_takeOut ml_X9_216 im_yX9_takeOut se_yX9_takeOut (by decide) rfl (lay_ok hL rfl) (c_X9_takeOut hL hA2 (gB_cnt hB (t_how g t) _) hi) ⟨by decide, by decide⟩ (by first | decide | omega) (by first | decide | omega) rfl (Nat.le_of_ble_eq_true rfl) dX9_deliver_68 (fun v0 M1 hp1 => ?_)
      obtain ⟨rfl, hA3, hL3, hf3⟩ := hp1
      have hL := hL3
      refine r_iload_n dX9_deliver_71 rfl ?_
      refine r_if_ne 80 dX9_deliver_72 (by decide) (fun _ => ?_) (fun hq => absurd hq hnz)
      refine r_iload_n dX9_deliver_80 rfl ?_
      exact r_iret (Or.inl rfl) dX9_deliver_81 ⟨by rw [hk], by rw [hk]; show absM _ (g_deliver i t g); rw [show g_deliver i t g = us (g_out i g) (9 + t_how g t) (gs g (9 + t_how g t) + 1) from if_neg h0]; exact hA3, hL3, (am_fr.wI _ _ ⟨by decide, by decide⟩).tr hf3⟩
set_option maxHeartbeats 4000000 in
set_option maxRecDepth 100000 in
theorem k_X9_of {l : Launch} {X : Nat × (Nat → Int32)} {M : am_M} (hL : Lay M) {g : tG} {c0 : Nat} (hA : absM M g) (hI : gI c0 g) {x y : Int32} : am_F l yX9_of cX9_of 3 (some .long) 2 0 0 X [.ref 93, .int x, .int y] M (some (.long (k_of x y g))) M := by
  refine am_C.of (by decide) (by simp [Value.category, va_rf]) (Nat.le_of_ble_eq_true rfl) ?_
  have hB := hI.1
  obtain ⟨b0, b1, b2, b3, b4, b5, b6, b7, b8, b9, bV, bA, bN, bl, bn, bh⟩ := id hB
  obtain ⟨s0, s1, s2, s3, s4, s5, s6, s7, s8, s9⟩ := hA.1
  have s18 := hA.2.2.2.2.1.1
  have hL0 := hL
  rcases inN_cases x (k := gs g 1) (by omega) with ⟨e, c⟩ | ⟨v, hj, rfl, e⟩
  · have hk : k_of x y g = k_NONE := by simp only [k_of, e]
    refine r_aload_n dX9_of_0 rfl ?_
    refine r_iload_n dX9_of_1 rfl ?_
    refine r_cV ca_yX9_isVertex ml_X9_151 im_yX9_isVertex se_yX9_isVertex (by decide) rfl (lay_ok hL rfl) (c_X9_isVertex hL s1 (by omega)) ⟨by decide, by decide⟩ (by first | decide | omega) (by first | decide | omega) rfl (Nat.le_of_ble_eq_true rfl) dX9_of_2 ?_
    refine r_top 0 (inN_no c) ?_
    refine r_if_eq 17 dX9_of_5 (by decide) (fun _ => ?_) (fun hq => absurd (by decide) hq)
    refine r_ldc2 _ dX9_of_17 kl_X9_211 ?_
    exact r_lret rfl dX9_of_20 ⟨(congrArg (fun q : Int64 => some (Value.long q)) hk).symm, rfl⟩
  · obtain ⟨v0, v1, v2, v3, v4⟩ := hA.2.1 v hj
    obtain ⟨w0, w1⟩ := bV v hj
    have hn5 : ga g 0 v < 5 := by omega
    have x6 := (hA.2.2.2.1 _ hn5).2.2
    have y6 := (bN _ hn5).2.2
    have hk : k_of (nI v) y g = if y = 3 then (nI (ga g 0 v)).toInt64 else if ga g 6 (ga g 0 v) = 1 then k_NONE else t_tell g v y := by simp only [k_of, e]
    by_cases a3 : y = 3
    · rw [hk, if_pos a3]
      subst a3
      refine r_aload_n dX9_of_0 rfl ?_
      refine r_iload_n dX9_of_1 rfl ?_
      refine r_cV ca_yX9_isVertex ml_X9_151 im_yX9_isVertex se_yX9_isVertex (by decide) rfl (lay_ok hL rfl) (c_X9_isVertex hL s1 (by omega)) ⟨by decide, by decide⟩ (by first | decide | omega) (by first | decide | omega) rfl (Nat.le_of_ble_eq_true rfl) dX9_of_2 ?_
      refine r_top 1 (inN_yes hj (by omega)) ?_
      refine r_if_eq 17 dX9_of_5 (by decide) (fun hq => absurd hq (by decide)) (fun _ => ?_)
      refine r_iload_n dX9_of_8 rfl ?_
      refine r_iconst (0) dX9_of_9 (by decide) ?_
      refine r_iconst (3) dX9_of_10 (by decide) ?_
      refine r_cS ca_yX9_in ml_X9_143 sm_yX9_in (c_X9_in hL) ⟨by decide, by decide⟩ (by first | decide | omega) (by first | decide | omega) rfl (Nat.le_of_ble_eq_true rfl) dX9_of_11 ?_
      refine r_top 1 (by decide) ?_
      refine r_if_ne 21 dX9_of_14 (by decide) (fun _ => ?_) (fun hq => absurd hq (by decide))
      refine r_iload_n dX9_of_21 rfl ?_
      refine r_iconst (3) dX9_of_22 (by decide) ?_
      refine r_icmp_ne 34 dX9_of_23 (by decide) (fun hq => absurd (by decide) hq) (fun _ => ?_)
      refine r_aload_n dX9_of_26 rfl ?_
      refine r_getF kX9 (k := 11) (by decide) rfl fl_X9_27 (lay_ok hL rfl) (lay_r hL rfl) dX9_of_27 ?_
      refine r_iload_n dX9_of_30 rfl ?_
      refine r_ialdE (nI (ga g 0 v)) (lay_ok hL rfl) (by omega) (by omega) dX9_of_31 v4 ?_
      refine r_i2l dX9_of_32 ?_
      exact r_lret rfl dX9_of_33 ⟨rfl, rfl⟩
    · rw [if_neg a3] at hk
      by_cases a0 : y = 0
      · subst a0
        by_cases d6 : ga g 6 (ga g 0 v) = 1
        · rw [if_pos d6] at hk
          refine r_aload_n dX9_of_0 rfl ?_
          refine r_iload_n dX9_of_1 rfl ?_
          refine r_cV ca_yX9_isVertex ml_X9_151 im_yX9_isVertex se_yX9_isVertex (by decide) rfl (lay_ok hL rfl) (c_X9_isVertex hL s1 (by omega)) ⟨by decide, by decide⟩ (by first | decide | omega) (by first | decide | omega) rfl (Nat.le_of_ble_eq_true rfl) dX9_of_2 ?_
          refine r_top 1 (inN_yes hj (by omega)) ?_
          refine r_if_eq 17 dX9_of_5 (by decide) (fun hq => absurd hq (by decide)) (fun _ => ?_)
          refine r_iload_n dX9_of_8 rfl ?_
          refine r_iconst (0) dX9_of_9 (by decide) ?_
          refine r_iconst (3) dX9_of_10 (by decide) ?_
          refine r_cS ca_yX9_in ml_X9_143 sm_yX9_in (c_X9_in hL) ⟨by decide, by decide⟩ (by first | decide | omega) (by first | decide | omega) rfl (Nat.le_of_ble_eq_true rfl) dX9_of_11 ?_
          refine r_top 1 (by decide) ?_
          refine r_if_ne 21 dX9_of_14 (by decide) (fun _ => ?_) (fun hq => absurd hq (by decide))
          refine r_iload_n dX9_of_21 rfl ?_
          refine r_iconst (3) dX9_of_22 (by decide) ?_
          refine r_icmp_ne 34 dX9_of_23 (by decide) (fun _ => ?_) (fun hq => absurd hq (by decide))
          refine r_aload_n dX9_of_34 rfl ?_
          refine r_getF kX9 (k := 17) (by decide) rfl fl_X9_45 (lay_ok hL rfl) (lay_r hL rfl) dX9_of_35 ?_
          refine r_aload_n dX9_of_38 rfl ?_
          refine r_getF kX9 (k := 11) (by decide) rfl fl_X9_27 (lay_ok hL rfl) (lay_r hL rfl) dX9_of_39 ?_
          refine r_iload_n dX9_of_42 rfl ?_
          refine r_ialdE (nI (ga g 0 v)) (lay_ok hL rfl) (by omega) (by omega) dX9_of_43 v4 ?_
          refine r_zaldE (1) (lay_ok hL rfl) (by omega) (by omega) dX9_of_44 (by rw [x6, d6]; rfl) ?_
          refine r_if_eq 52 dX9_of_45 (by decide) (fun hq => absurd hq (by decide)) (fun _ => ?_)
          refine r_ldc2 _ dX9_of_48 kl_X9_211 ?_
          exact r_lret rfl dX9_of_51 ⟨(congrArg (fun q : Int64 => some (Value.long q)) hk).symm, rfl⟩
        · rw [if_neg d6] at hk
          refine r_aload_n dX9_of_0 rfl ?_
          refine r_iload_n dX9_of_1 rfl ?_
          refine r_cV ca_yX9_isVertex ml_X9_151 im_yX9_isVertex se_yX9_isVertex (by decide) rfl (lay_ok hL rfl) (c_X9_isVertex hL s1 (by omega)) ⟨by decide, by decide⟩ (by first | decide | omega) (by first | decide | omega) rfl (Nat.le_of_ble_eq_true rfl) dX9_of_2 ?_
          refine r_top 1 (inN_yes hj (by omega)) ?_
          refine r_if_eq 17 dX9_of_5 (by decide) (fun hq => absurd hq (by decide)) (fun _ => ?_)
          refine r_iload_n dX9_of_8 rfl ?_
          refine r_iconst (0) dX9_of_9 (by decide) ?_
          refine r_iconst (3) dX9_of_10 (by decide) ?_
          refine r_cS ca_yX9_in ml_X9_143 sm_yX9_in (c_X9_in hL) ⟨by decide, by decide⟩ (by first | decide | omega) (by first | decide | omega) rfl (Nat.le_of_ble_eq_true rfl) dX9_of_11 ?_
          refine r_top 1 (by decide) ?_
          refine r_if_ne 21 dX9_of_14 (by decide) (fun _ => ?_) (fun hq => absurd hq (by decide))
          refine r_iload_n dX9_of_21 rfl ?_
          refine r_iconst (3) dX9_of_22 (by decide) ?_
          refine r_icmp_ne 34 dX9_of_23 (by decide) (fun _ => ?_) (fun hq => absurd hq (by decide))
          refine r_aload_n dX9_of_34 rfl ?_
          refine r_getF kX9 (k := 17) (by decide) rfl fl_X9_45 (lay_ok hL rfl) (lay_r hL rfl) dX9_of_35 ?_
          refine r_aload_n dX9_of_38 rfl ?_
          refine r_getF kX9 (k := 11) (by decide) rfl fl_X9_27 (lay_ok hL rfl) (lay_r hL rfl) dX9_of_39 ?_
          refine r_iload_n dX9_of_42 rfl ?_
          refine r_ialdE (nI (ga g 0 v)) (lay_ok hL rfl) (by omega) (by omega) dX9_of_43 v4 ?_
          refine r_zaldE (0) (lay_ok hL rfl) (by omega) (by omega) dX9_of_44 (by rw [x6, bool01 y6 d6]; rfl) ?_
          refine r_if_eq 52 dX9_of_45 (by decide) (fun _ => ?_) (fun hq => absurd (by decide) hq)
          refine r_iload_n dX9_of_52 rfl ?_
          refine r_if_ne 66 dX9_of_53 (by decide) (fun hq => absurd (by decide) hq) (fun _ => ?_)
          refine r_aload_n dX9_of_56 rfl ?_
          refine r_getF kX9 (k := 8) (by decide) rfl fl_X9_17 (lay_ok hL rfl) (lay_r hL rfl) dX9_of_57 ?_
          refine r_iload_n dX9_of_60 rfl ?_
          refine r_ialdE (gi g 1 v) (lay_ok hL rfl) (by omega) (by omega) dX9_of_61 v1 ?_
          refine r_i2l dX9_of_62 ?_
          refine r_goto 95 dX9_of_63 (by decide) ?_
          exact r_lret rfl dX9_of_95 ⟨(congrArg (fun q : Int64 => some (Value.long q)) hk).symm, rfl⟩
      · by_cases a1 : y = 1
        · subst a1
          by_cases d6 : ga g 6 (ga g 0 v) = 1
          · rw [if_pos d6] at hk
            refine r_aload_n dX9_of_0 rfl ?_
            refine r_iload_n dX9_of_1 rfl ?_
            refine r_cV ca_yX9_isVertex ml_X9_151 im_yX9_isVertex se_yX9_isVertex (by decide) rfl (lay_ok hL rfl) (c_X9_isVertex hL s1 (by omega)) ⟨by decide, by decide⟩ (by first | decide | omega) (by first | decide | omega) rfl (Nat.le_of_ble_eq_true rfl) dX9_of_2 ?_
            refine r_top 1 (inN_yes hj (by omega)) ?_
            refine r_if_eq 17 dX9_of_5 (by decide) (fun hq => absurd hq (by decide)) (fun _ => ?_)
            refine r_iload_n dX9_of_8 rfl ?_
            refine r_iconst (0) dX9_of_9 (by decide) ?_
            refine r_iconst (3) dX9_of_10 (by decide) ?_
            refine r_cS ca_yX9_in ml_X9_143 sm_yX9_in (c_X9_in hL) ⟨by decide, by decide⟩ (by first | decide | omega) (by first | decide | omega) rfl (Nat.le_of_ble_eq_true rfl) dX9_of_11 ?_
            refine r_top 1 (by decide) ?_
            refine r_if_ne 21 dX9_of_14 (by decide) (fun _ => ?_) (fun hq => absurd hq (by decide))
            refine r_iload_n dX9_of_21 rfl ?_
            refine r_iconst (3) dX9_of_22 (by decide) ?_
            refine r_icmp_ne 34 dX9_of_23 (by decide) (fun _ => ?_) (fun hq => absurd hq (by decide))
            refine r_aload_n dX9_of_34 rfl ?_
            refine r_getF kX9 (k := 17) (by decide) rfl fl_X9_45 (lay_ok hL rfl) (lay_r hL rfl) dX9_of_35 ?_
            refine r_aload_n dX9_of_38 rfl ?_
            refine r_getF kX9 (k := 11) (by decide) rfl fl_X9_27 (lay_ok hL rfl) (lay_r hL rfl) dX9_of_39 ?_
            refine r_iload_n dX9_of_42 rfl ?_
            refine r_ialdE (nI (ga g 0 v)) (lay_ok hL rfl) (by omega) (by omega) dX9_of_43 v4 ?_
            refine r_zaldE (1) (lay_ok hL rfl) (by omega) (by omega) dX9_of_44 (by rw [x6, d6]; rfl) ?_
            refine r_if_eq 52 dX9_of_45 (by decide) (fun hq => absurd hq (by decide)) (fun _ => ?_)
            refine r_ldc2 _ dX9_of_48 kl_X9_211 ?_
            exact r_lret rfl dX9_of_51 ⟨(congrArg (fun q : Int64 => some (Value.long q)) hk).symm, rfl⟩
          · rw [if_neg d6] at hk
            refine r_aload_n dX9_of_0 rfl ?_
            refine r_iload_n dX9_of_1 rfl ?_
            refine r_cV ca_yX9_isVertex ml_X9_151 im_yX9_isVertex se_yX9_isVertex (by decide) rfl (lay_ok hL rfl) (c_X9_isVertex hL s1 (by omega)) ⟨by decide, by decide⟩ (by first | decide | omega) (by first | decide | omega) rfl (Nat.le_of_ble_eq_true rfl) dX9_of_2 ?_
            refine r_top 1 (inN_yes hj (by omega)) ?_
            refine r_if_eq 17 dX9_of_5 (by decide) (fun hq => absurd hq (by decide)) (fun _ => ?_)
            refine r_iload_n dX9_of_8 rfl ?_
            refine r_iconst (0) dX9_of_9 (by decide) ?_
            refine r_iconst (3) dX9_of_10 (by decide) ?_
            refine r_cS ca_yX9_in ml_X9_143 sm_yX9_in (c_X9_in hL) ⟨by decide, by decide⟩ (by first | decide | omega) (by first | decide | omega) rfl (Nat.le_of_ble_eq_true rfl) dX9_of_11 ?_
            refine r_top 1 (by decide) ?_
            refine r_if_ne 21 dX9_of_14 (by decide) (fun _ => ?_) (fun hq => absurd hq (by decide))
            refine r_iload_n dX9_of_21 rfl ?_
            refine r_iconst (3) dX9_of_22 (by decide) ?_
            refine r_icmp_ne 34 dX9_of_23 (by decide) (fun _ => ?_) (fun hq => absurd hq (by decide))
            refine r_aload_n dX9_of_34 rfl ?_
            refine r_getF kX9 (k := 17) (by decide) rfl fl_X9_45 (lay_ok hL rfl) (lay_r hL rfl) dX9_of_35 ?_
            refine r_aload_n dX9_of_38 rfl ?_
            refine r_getF kX9 (k := 11) (by decide) rfl fl_X9_27 (lay_ok hL rfl) (lay_r hL rfl) dX9_of_39 ?_
            refine r_iload_n dX9_of_42 rfl ?_
            refine r_ialdE (nI (ga g 0 v)) (lay_ok hL rfl) (by omega) (by omega) dX9_of_43 v4 ?_
            refine r_zaldE (0) (lay_ok hL rfl) (by omega) (by omega) dX9_of_44 (by rw [x6, bool01 y6 d6]; rfl) ?_
            refine r_if_eq 52 dX9_of_45 (by decide) (fun _ => ?_) (fun hq => absurd (by decide) hq)
            refine r_iload_n dX9_of_52 rfl ?_
            refine r_if_ne 66 dX9_of_53 (by decide) (fun _ => ?_) (fun hq => absurd hq (by decide))
            refine r_iload_n dX9_of_66 rfl ?_
            refine r_iconst (1) dX9_of_67 (by decide) ?_
            refine r_icmp_ne 81 dX9_of_68 (by decide) (fun hq => absurd (by decide) hq) (fun _ => ?_)
            refine r_aload_n dX9_of_71 rfl ?_
            refine r_getF kX9 (k := 9) (by decide) rfl fl_X9_20 (lay_ok hL rfl) (lay_r hL rfl) dX9_of_72 ?_
            refine r_iload_n dX9_of_75 rfl ?_
            refine r_ialdE (gi g 2 v) (lay_ok hL rfl) (by omega) (by omega) dX9_of_76 v2 ?_
            refine r_i2l dX9_of_77 ?_
            refine r_goto 95 dX9_of_78 (by decide) ?_
            exact r_lret rfl dX9_of_95 ⟨(congrArg (fun q : Int64 => some (Value.long q)) hk).symm, rfl⟩
        · by_cases a2 : y = 2
          · subst a2
            by_cases d6 : ga g 6 (ga g 0 v) = 1
            · rw [if_pos d6] at hk
              refine r_aload_n dX9_of_0 rfl ?_
              refine r_iload_n dX9_of_1 rfl ?_
              refine r_cV ca_yX9_isVertex ml_X9_151 im_yX9_isVertex se_yX9_isVertex (by decide) rfl (lay_ok hL rfl) (c_X9_isVertex hL s1 (by omega)) ⟨by decide, by decide⟩ (by first | decide | omega) (by first | decide | omega) rfl (Nat.le_of_ble_eq_true rfl) dX9_of_2 ?_
              refine r_top 1 (inN_yes hj (by omega)) ?_
              refine r_if_eq 17 dX9_of_5 (by decide) (fun hq => absurd hq (by decide)) (fun _ => ?_)
              refine r_iload_n dX9_of_8 rfl ?_
              refine r_iconst (0) dX9_of_9 (by decide) ?_
              refine r_iconst (3) dX9_of_10 (by decide) ?_
              refine r_cS ca_yX9_in ml_X9_143 sm_yX9_in (c_X9_in hL) ⟨by decide, by decide⟩ (by first | decide | omega) (by first | decide | omega) rfl (Nat.le_of_ble_eq_true rfl) dX9_of_11 ?_
              refine r_top 1 (by decide) ?_
              refine r_if_ne 21 dX9_of_14 (by decide) (fun _ => ?_) (fun hq => absurd hq (by decide))
              refine r_iload_n dX9_of_21 rfl ?_
              refine r_iconst (3) dX9_of_22 (by decide) ?_
              refine r_icmp_ne 34 dX9_of_23 (by decide) (fun _ => ?_) (fun hq => absurd hq (by decide))
              refine r_aload_n dX9_of_34 rfl ?_
              refine r_getF kX9 (k := 17) (by decide) rfl fl_X9_45 (lay_ok hL rfl) (lay_r hL rfl) dX9_of_35 ?_
              refine r_aload_n dX9_of_38 rfl ?_
              refine r_getF kX9 (k := 11) (by decide) rfl fl_X9_27 (lay_ok hL rfl) (lay_r hL rfl) dX9_of_39 ?_
              refine r_iload_n dX9_of_42 rfl ?_
              refine r_ialdE (nI (ga g 0 v)) (lay_ok hL rfl) (by omega) (by omega) dX9_of_43 v4 ?_
              refine r_zaldE (1) (lay_ok hL rfl) (by omega) (by omega) dX9_of_44 (by rw [x6, d6]; rfl) ?_
              refine r_if_eq 52 dX9_of_45 (by decide) (fun hq => absurd hq (by decide)) (fun _ => ?_)
              refine r_ldc2 _ dX9_of_48 kl_X9_211 ?_
              exact r_lret rfl dX9_of_51 ⟨(congrArg (fun q : Int64 => some (Value.long q)) hk).symm, rfl⟩
            · rw [if_neg d6] at hk
              refine r_aload_n dX9_of_0 rfl ?_
              refine r_iload_n dX9_of_1 rfl ?_
              refine r_cV ca_yX9_isVertex ml_X9_151 im_yX9_isVertex se_yX9_isVertex (by decide) rfl (lay_ok hL rfl) (c_X9_isVertex hL s1 (by omega)) ⟨by decide, by decide⟩ (by first | decide | omega) (by first | decide | omega) rfl (Nat.le_of_ble_eq_true rfl) dX9_of_2 ?_
              refine r_top 1 (inN_yes hj (by omega)) ?_
              refine r_if_eq 17 dX9_of_5 (by decide) (fun hq => absurd hq (by decide)) (fun _ => ?_)
              refine r_iload_n dX9_of_8 rfl ?_
              refine r_iconst (0) dX9_of_9 (by decide) ?_
              refine r_iconst (3) dX9_of_10 (by decide) ?_
              refine r_cS ca_yX9_in ml_X9_143 sm_yX9_in (c_X9_in hL) ⟨by decide, by decide⟩ (by first | decide | omega) (by first | decide | omega) rfl (Nat.le_of_ble_eq_true rfl) dX9_of_11 ?_
              refine r_top 1 (by decide) ?_
              refine r_if_ne 21 dX9_of_14 (by decide) (fun _ => ?_) (fun hq => absurd hq (by decide))
              refine r_iload_n dX9_of_21 rfl ?_
              refine r_iconst (3) dX9_of_22 (by decide) ?_
              refine r_icmp_ne 34 dX9_of_23 (by decide) (fun _ => ?_) (fun hq => absurd hq (by decide))
              refine r_aload_n dX9_of_34 rfl ?_
              refine r_getF kX9 (k := 17) (by decide) rfl fl_X9_45 (lay_ok hL rfl) (lay_r hL rfl) dX9_of_35 ?_
              refine r_aload_n dX9_of_38 rfl ?_
              refine r_getF kX9 (k := 11) (by decide) rfl fl_X9_27 (lay_ok hL rfl) (lay_r hL rfl) dX9_of_39 ?_
              refine r_iload_n dX9_of_42 rfl ?_
              refine r_ialdE (nI (ga g 0 v)) (lay_ok hL rfl) (by omega) (by omega) dX9_of_43 v4 ?_
              refine r_zaldE (0) (lay_ok hL rfl) (by omega) (by omega) dX9_of_44 (by rw [x6, bool01 y6 d6]; rfl) ?_
              refine r_if_eq 52 dX9_of_45 (by decide) (fun _ => ?_) (fun hq => absurd (by decide) hq)
              refine r_iload_n dX9_of_52 rfl ?_
              refine r_if_ne 66 dX9_of_53 (by decide) (fun _ => ?_) (fun hq => absurd hq (by decide))
              refine r_iload_n dX9_of_66 rfl ?_
              refine r_iconst (1) dX9_of_67 (by decide) ?_
              refine r_icmp_ne 81 dX9_of_68 (by decide) (fun _ => ?_) (fun hq => absurd hq (by decide))
              refine r_aload_n dX9_of_81 rfl ?_
              refine r_getF kX9 (k := 10) (by decide) rfl fl_X9_23 (lay_ok hL rfl) (lay_r hL rfl) dX9_of_82 ?_
              refine r_iload_n dX9_of_85 rfl ?_
              refine r_zaldE (nI (ga g 1 v)) (lay_ok hL rfl) (by omega) (by omega) dX9_of_86 v3 ?_
              refine r_if_eq 94 dX9_of_87 (by decide) (fun c87 => ?_) (fun c87 => ?_)
              · refine r_lconst (0) dX9_of_94 (by decide) ?_
                exact r_lret rfl dX9_of_95 ⟨(congrArg (fun q : Int64 => some (Value.long q)) (hk.trans ((congrArg Int32.toInt64 c87).trans rfl))).symm, rfl⟩
              · refine r_lconst (1) dX9_of_90 (by decide) ?_
                refine r_goto 95 dX9_of_91 (by decide) ?_
                exact r_lret rfl dX9_of_95 ⟨(congrArg (fun q : Int64 => some (Value.long q)) (hk.trans ((congrArg Int32.toInt64 (b01_1 w1 c87).symm).trans rfl))).symm, rfl⟩
          · have hn : k_of (nI v) y g = k_NONE := by
              rw [hk]
              split
              · rfl
              · unfold t_tell
                rw [if_neg a0, if_neg a1, if_neg a2]
            have hk := hn
            refine r_aload_n dX9_of_0 rfl ?_
            refine r_iload_n dX9_of_1 rfl ?_
            refine r_cV ca_yX9_isVertex ml_X9_151 im_yX9_isVertex se_yX9_isVertex (by decide) rfl (lay_ok hL rfl) (c_X9_isVertex hL s1 (by omega)) ⟨by decide, by decide⟩ (by first | decide | omega) (by first | decide | omega) rfl (Nat.le_of_ble_eq_true rfl) dX9_of_2 ?_
            refine r_top 1 (inN_yes hj (by omega)) ?_
            refine r_if_eq 17 dX9_of_5 (by decide) (fun hq => absurd hq (by decide)) (fun _ => ?_)
            refine r_iload_n dX9_of_8 rfl ?_
            refine r_iconst (0) dX9_of_9 (by decide) ?_
            refine r_iconst (3) dX9_of_10 (by decide) ?_
            refine r_cS ca_yX9_in ml_X9_143 sm_yX9_in (c_X9_in hL) ⟨by decide, by decide⟩ (by first | decide | omega) (by first | decide | omega) rfl (Nat.le_of_ble_eq_true rfl) dX9_of_11 ?_
            refine r_top 0 (out_k (k := 3) (by decide) (fun q hq => by rcases (show q = 0 ∨ q = 1 ∨ q = 2 ∨ q = 3 by omega) with rfl | rfl | rfl | rfl; exact a0; exact a1; exact a2; exact a3)) ?_
            refine r_if_ne 21 dX9_of_14 (by decide) (fun hq => absurd (by decide) hq) (fun _ => ?_)
            refine r_ldc2 _ dX9_of_17 kl_X9_211 ?_
            exact r_lret rfl dX9_of_20 ⟨(congrArg (fun q : Int64 => some (Value.long q)) hk).symm, rfl⟩
set_option maxHeartbeats 4000000 in
set_option maxRecDepth 100000 in
theorem k_X9_told {l : Launch} {X : Nat × (Nat → Int32)} {M : am_M} (hL : Lay M) {g : tG} {c0 : Nat} (hA : absM M g) (hI : gI c0 g) {x : Int32} : am_F l yX9_told cX9_told 2 (some .int) 0 0 0 X [.ref 93, .int x] M (some (.int (k_told x g))) M := by
  refine am_C.of (by decide) (by simp [Value.category, va_rf]) (Nat.le_of_ble_eq_true rfl) ?_
  have hB := hI.1
  obtain ⟨b0, b1, b2, b3, b4, b5, b6, b7, b8, b9, bV, bA, bN, bl, bn, bh⟩ := id hB
  obtain ⟨s0, s1, s2, s3, s4, s5, s6, s7, s8, s9⟩ := hA.1
  have s18 := hA.2.2.2.2.1.1
  have hL0 := hL
  refine r_iload_n dX9_told_0 rfl ?_
  by_cases w0 : x = 0
  · subst w0
    refine r_tableIn 64 dX9_told_1 (by decide) (by decide) (off := 63) (by decide) (by decide) ?_
    refine r_aload_n dX9_told_64 rfl ?_
    refine r_getE (nI (gs g 1)) kX9 (k := 1) (by decide) rfl fl_X9_115 (lay_ok hL rfl) dX9_told_65 s1 ?_
    exact r_iret (Or.inl rfl) dX9_told_68 ⟨rfl, rfl⟩
  by_cases w1 : x = 1
  · subst w1
    refine r_tableIn 69 dX9_told_1 (by decide) (by decide) (off := 68) (by decide) (by decide) ?_
    refine r_aload_n dX9_told_69 rfl ?_
    refine r_getE (nI (gs g 2)) kX9 (k := 2) (by decide) rfl fl_X9_118 (lay_ok hL rfl) dX9_told_70 s2 ?_
    exact r_iret (Or.inl rfl) dX9_told_73 ⟨rfl, rfl⟩
  by_cases w2 : x = 2
  · subst w2
    refine r_tableIn 74 dX9_told_1 (by decide) (by decide) (off := 73) (by decide) (by decide) ?_
    refine r_aload_n dX9_told_74 rfl ?_
    refine r_getE (nI (gs g 0)) kX9 (k := 0) (by decide) rfl fl_X9_7 (lay_ok hL rfl) dX9_told_75 s0 ?_
    exact r_iret (Or.inl rfl) dX9_told_78 ⟨rfl, rfl⟩
  by_cases w3 : x = 3
  · subst w3
    refine r_tableIn 79 dX9_told_1 (by decide) (by decide) (off := 78) (by decide) (by decide) ?_
    refine r_aload_n dX9_told_79 rfl ?_
    refine r_getE (nI (gs g 3)) kX9 (k := 3) (by decide) rfl fl_X9_121 (lay_ok hL rfl) dX9_told_80 s3 ?_
    exact r_iret (Or.inl rfl) dX9_told_83 ⟨rfl, rfl⟩
  by_cases w4 : x = 4
  · subst w4
    refine r_tableIn 84 dX9_told_1 (by decide) (by decide) (off := 83) (by decide) (by decide) ?_
    refine r_aload_n dX9_told_84 rfl ?_
    refine r_getE (nI (gn g).length) kX9 (k := 18) (by decide) rfl fl_X9_134 (lay_ok hL rfl) dX9_told_85 s18 ?_
    exact r_iret (Or.inl rfl) dX9_told_88 ⟨rfl, rfl⟩
  by_cases w5 : x = 5
  · subst w5
    refine r_tableIn 89 dX9_told_1 (by decide) (by decide) (off := 88) (by decide) (by decide) ?_
    refine r_aload_n dX9_told_89 rfl ?_
    refine r_getE (nI (gs g 8)) kX9 (k := 34) (by decide) rfl fl_X9_140 (lay_ok hL rfl) dX9_told_90 s8 ?_
    exact r_iret (Or.inl rfl) dX9_told_93 ⟨rfl, rfl⟩
  by_cases w6 : x = 6
  · subst w6
    refine r_tableIn 94 dX9_told_1 (by decide) (by decide) (off := 93) (by decide) (by decide) ?_
    refine r_aload_n dX9_told_94 rfl ?_
    refine r_getF kX9 (k := 35) (by decide) rfl fl_X9_90 (lay_ok hL rfl) (lay_r hL rfl) dX9_told_95 ?_
    refine r_iconst (nI 0) dX9_told_98 (by decide) ?_
    refine r_ialdE (nI (gs g (9 + 0))) (lay_ok hL rfl) (by omega) (by omega) dX9_told_99 (s9 0 (by decide)) ?_
    exact r_iret (Or.inl rfl) dX9_told_100 ⟨rfl, rfl⟩
  by_cases w7 : x = 7
  · subst w7
    refine r_tableIn 101 dX9_told_1 (by decide) (by decide) (off := 100) (by decide) (by decide) ?_
    refine r_aload_n dX9_told_101 rfl ?_
    refine r_getF kX9 (k := 35) (by decide) rfl fl_X9_90 (lay_ok hL rfl) (lay_r hL rfl) dX9_told_102 ?_
    refine r_iconst (nI 1) dX9_told_105 (by decide) ?_
    refine r_ialdE (nI (gs g (9 + 1))) (lay_ok hL rfl) (by omega) (by omega) dX9_told_106 (s9 1 (by decide)) ?_
    exact r_iret (Or.inl rfl) dX9_told_107 ⟨rfl, rfl⟩
  by_cases w8 : x = 8
  · subst w8
    refine r_tableIn 108 dX9_told_1 (by decide) (by decide) (off := 107) (by decide) (by decide) ?_
    refine r_aload_n dX9_told_108 rfl ?_
    refine r_getF kX9 (k := 35) (by decide) rfl fl_X9_90 (lay_ok hL rfl) (lay_r hL rfl) dX9_told_109 ?_
    refine r_iconst (nI 2) dX9_told_112 (by decide) ?_
    refine r_ialdE (nI (gs g (9 + 2))) (lay_ok hL rfl) (by omega) (by omega) dX9_told_113 (s9 2 (by decide)) ?_
    exact r_iret (Or.inl rfl) dX9_told_114 ⟨rfl, rfl⟩
  by_cases w9 : x = 9
  · subst w9
    refine r_tableIn 115 dX9_told_1 (by decide) (by decide) (off := 114) (by decide) (by decide) ?_
    refine r_aload_n dX9_told_115 rfl ?_
    refine r_getF kX9 (k := 35) (by decide) rfl fl_X9_90 (lay_ok hL rfl) (lay_r hL rfl) dX9_told_116 ?_
    refine r_iconst (nI 3) dX9_told_119 (by decide) ?_
    refine r_ialdE (nI (gs g (9 + 3))) (lay_ok hL rfl) (by omega) (by omega) dX9_told_120 (s9 3 (by decide)) ?_
    exact r_iret (Or.inl rfl) dX9_told_121 ⟨rfl, rfl⟩
  by_cases w10 : x = 10
  · subst w10
    refine r_tableIn 122 dX9_told_1 (by decide) (by decide) (off := 121) (by decide) (by decide) ?_
    refine r_aload_n dX9_told_122 rfl ?_
    refine r_getE (nI (gs g 7)) kX9 (k := 33) (by decide) rfl fl_X9_137 (lay_ok hL rfl) dX9_told_123 s7 ?_
    exact r_iret (Or.inl rfl) dX9_told_126 ⟨rfl, rfl⟩
  by_cases w11 : x = 11
  · subst w11
    refine r_tableIn 127 dX9_told_1 (by decide) (by decide) (off := 126) (by decide) (by decide) ?_
    refine r_aload_n dX9_told_127 rfl ?_
    refine r_getE (nI (gs g 5)) kX9 (k := 5) (by decide) rfl fl_X9_128 (lay_ok hL rfl) dX9_told_128 s5 ?_
    exact r_iret (Or.inl rfl) dX9_told_131 ⟨rfl, rfl⟩
  refine r_tableOut 132 dX9_told_1 (by have t0 := lv_neT (a := 0) w0 rfl; have t1 := lv_neT (a := 1) w1 rfl; have t2 := lv_neT (a := 2) w2 rfl; have t3 := lv_neT (a := 3) w3 rfl; have t4 := lv_neT (a := 4) w4 rfl; have t5 := lv_neT (a := 5) w5 rfl; have t6 := lv_neT (a := 6) w6 rfl; have t7 := lv_neT (a := 7) w7 rfl; have t8 := lv_neT (a := 8) w8 rfl; have t9 := lv_neT (a := 9) w9 rfl; have t10 := lv_neT (a := 10) w10 rfl; have t11 := lv_neT (a := 11) w11 rfl; omega) (by decide) ?_
  refine r_iconst (-1) dX9_told_132 (by decide) ?_
  exact r_iret (Or.inl rfl) dX9_told_133 ⟨by unfold k_told; rw [if_neg w0, if_neg w1, if_neg w2, if_neg w3, if_neg w4, if_neg w5, if_neg w6, if_neg w7, if_neg w8, if_neg w9, if_neg w10, if_neg w11], rfl⟩
set_option maxHeartbeats 4000000 in
set_option maxRecDepth 100000 in
theorem l_X9_node {l : Launch} {X : Nat × (Nat → Int32)} {M : am_M} (hL : Lay M) {g : tG} {n : Nat} {y : Int32} (hS : mI M 93 1 = nI (gs g 1)) (hV : yV M g) (hB : gB g) (hn : n < 5) : ∀ k i : Nat, i + k = gs g 1 → am_V l yX9_node cX9_node 5 (some .int) (am_R 2 0 0) 0 0 X (fun v M' => v = some (.int (nI (t_ats g n))) ∧ M' = M) 0 0 102 [some (.ref 93), some (.int (nI n)), some (.int y), some (.int (nI (itr (fun v c => if ga g 0 v = n then c + 1 else c) i 0))), some (.int (nI i))] [] M := by
  intro k
  have b2 := hB.2.2.1
  induction k with
  | zero =>
    intro i hi
    obtain rfl : i = gs g 1 := by omega
    refine r_iload dX9_node_102 rfl ?_
    refine r_aload_n dX9_node_104 rfl ?_
    refine r_getE (nI (gs g 1)) kX9 (k := 1) (by decide) rfl fl_X9_115 (lay_ok hL rfl) dX9_node_105 hS ?_
    refine r_icmp_ge 136 dX9_node_108 (by decide) (fun _ => ?_) (fun hq => absurd (nI_le (Nat.le_refl _) (by omega)) hq)
    refine r_iload_n dX9_node_136 rfl ?_
    exact r_iret (Or.inl rfl) dX9_node_137 ⟨rfl, rfl⟩
  | succ k ih =>
    intro i hi
    have v4 := (hV i (by omega)).2.2.2.2
    have w1 := (hB.2.2.2.2.2.2.2.2.2.2.1 i (by omega)).1
    have b1 := hB.2.1
    have q := ih (i + 1) (by omega)
    rw [itr_s (fun v c => if ga g 0 v = n then c + 1 else c) i 0] at q
    by_cases cn : ga g 0 i = n
    · rw [if_pos cn] at q
      refine r_iload dX9_node_102 rfl ?_
      refine r_aload_n dX9_node_104 rfl ?_
      refine r_getE (nI (gs g 1)) kX9 (k := 1) (by decide) rfl fl_X9_115 (lay_ok hL rfl) dX9_node_105 hS ?_
      refine r_icmp_ge 136 dX9_node_108 (by decide) (fun hq => absurd hq (nI_ge (by omega) (by omega))) (fun _ => ?_)
      refine r_iload_n dX9_node_111 rfl ?_
      refine r_aload_n dX9_node_112 rfl ?_
      refine r_getF kX9 (k := 11) (by decide) rfl fl_X9_27 (lay_ok hL rfl) (lay_r hL rfl) dX9_node_113 ?_
      refine r_iload dX9_node_116 rfl ?_
      refine r_ialdE (nI (ga g 0 i)) (lay_ok hL rfl) (by omega) (by omega) dX9_node_118 v4 ?_
      refine r_iload_n dX9_node_119 rfl ?_
      refine r_icmp_ne 127 dX9_node_120 (by decide) (fun hq => absurd (by rw [cn]) hq) (fun _ => ?_)
      refine r_iconst (nI 1) dX9_node_123 (by decide) ?_
      refine r_goto 128 dX9_node_124 (by decide) ?_
      refine r_iadd dX9_node_128 ?_
      refine r_top (nI ((itr (fun v c => if ga g 0 v = n then c + 1 else c) i 0) + 1)) (nI_add _ _) ?_
      refine r_istore_n _ dX9_node_129 (by decide) rfl ?_
      refine r_iinc (nI (i + 1)) _ dX9_node_130 (by decide) rfl (nI_1 _) rfl ?_
      refine r_goto 102 dX9_node_133 (by decide) ?_
      exact q
    · rw [if_neg cn] at q
      refine r_iload dX9_node_102 rfl ?_
      refine r_aload_n dX9_node_104 rfl ?_
      refine r_getE (nI (gs g 1)) kX9 (k := 1) (by decide) rfl fl_X9_115 (lay_ok hL rfl) dX9_node_105 hS ?_
      refine r_icmp_ge 136 dX9_node_108 (by decide) (fun hq => absurd hq (nI_ge (by omega) (by omega))) (fun _ => ?_)
      refine r_iload_n dX9_node_111 rfl ?_
      refine r_aload_n dX9_node_112 rfl ?_
      refine r_getF kX9 (k := 11) (by decide) rfl fl_X9_27 (lay_ok hL rfl) (lay_r hL rfl) dX9_node_113 ?_
      refine r_iload dX9_node_116 rfl ?_
      refine r_ialdE (nI (ga g 0 i)) (lay_ok hL rfl) (by omega) (by omega) dX9_node_118 v4 ?_
      refine r_iload_n dX9_node_119 rfl ?_
      refine r_icmp_ne 127 dX9_node_120 (by decide) (fun _ => ?_) (fun hq => absurd hq (fun z => cn ((nI_eq (by omega) (by omega)).mp z)))
      refine r_iconst (nI 0) dX9_node_127 (by decide) ?_
      refine r_iadd dX9_node_128 ?_
      refine r_top (nI ((itr (fun v c => if ga g 0 v = n then c + 1 else c) i 0) + 0)) (nI_add _ _) ?_
      refine r_istore_n _ dX9_node_129 (by decide) rfl ?_
      refine r_iinc (nI (i + 1)) _ dX9_node_130 (by decide) rfl (nI_1 _) rfl ?_
      refine r_goto 102 dX9_node_133 (by decide) ?_
      exact q
set_option maxHeartbeats 4000000 in
set_option maxRecDepth 100000 in
theorem k_X9_node {l : Launch} {X : Nat × (Nat → Int32)} {M : am_M} (hL : Lay M) {g : tG} {c0 : Nat} (hA : absM M g) (hI : gI c0 g) {x y : Int32} : am_F l yX9_node cX9_node 5 (some .int) 2 0 0 X [.ref 93, .int x, .int y] M (some (.int (k_node x y g))) M := by
  refine am_C.of (by decide) (by simp [Value.category, va_rf]) (Nat.le_of_ble_eq_true rfl) ?_
  have hB := hI.1
  obtain ⟨b0, b1, b2, b3, b4, b5, b6, b7, b8, b9, bV, bA, bN, bl, bn, bh⟩ := id hB
  obtain ⟨s0, s1, s2, s3, s4, s5, s6, s7, s8, s9⟩ := hA.1
  have s18 := hA.2.2.2.2.1.1
  have hL0 := hL
  rcases inN_cases x (k := gs g 0) (by omega) with ⟨e, c⟩ | ⟨n, hj, rfl, e⟩
  · have hk : k_node x y g = -1 := by simp only [k_node, e]
    refine r_aload_n dX9_node_0 rfl ?_
    refine r_iload_n dX9_node_1 rfl ?_
    refine r_cV ca_yX9_isNode ml_X9_147 im_yX9_isNode se_yX9_isNode (by decide) rfl (lay_ok hL rfl) (c_X9_isNode hL s0 (by omega)) ⟨by decide, by decide⟩ (by first | decide | omega) (by first | decide | omega) rfl (Nat.le_of_ble_eq_true rfl) dX9_node_2 ?_
    refine r_top 0 (inN_no c) ?_
    refine r_if_eq 17 dX9_node_5 (by decide) (fun _ => ?_) (fun hq => absurd (by decide) hq)
    refine r_iconst (-1) dX9_node_17 (by decide) ?_
    exact r_iret (Or.inl rfl) dX9_node_18 ⟨(congrArg (fun q : Int32 => some (Value.int q)) hk).symm, rfl⟩
  · have hn : n < 5 := by omega
    obtain ⟨x4, x5, x6⟩ := hA.2.2.2.1 n hn
    obtain ⟨y4, y5, y6⟩ := bN n hn
    have m1 := (hA.2.2.2.2.2.2.1 n 1 hn (by decide)).1
    have hk : k_node (nI n) y g = if y = 0 then nI (ga g 4 n) else if y = 1 then nI (ga g 5 n) else if y = 2 then nI (ga g 6 n) else if y = 3 then nI (t_held g n) else if y = 4 then nI (t_ats g n) else if y = 5 then mkI (gm g n 1) else -1 := by simp only [k_node, e]
    by_cases c1 : y < 0 ∨ 5 < y
    · have hne : ∀ q, q ≤ 5 → ¬ y = nI q := fun q hq z => by
        subst z
        rcases c1 with c1 | c1
        · exact nI_pos (by omega) c1
        · exact nI_nlt (a := 5) (b := q) (by omega) (by decide) c1
      have hk : k_node (nI n) y g = -1 := by rw [hk, if_neg (show ¬ y = 0 from hne 0 (by decide)), if_neg (show ¬ y = 1 from hne 1 (by decide)), if_neg (show ¬ y = 2 from hne 2 (by decide)), if_neg (show ¬ y = 3 from hne 3 (by decide)), if_neg (show ¬ y = 4 from hne 4 (by decide)), if_neg (show ¬ y = 5 from hne 5 (by decide))]
      refine r_aload_n dX9_node_0 rfl ?_
      refine r_iload_n dX9_node_1 rfl ?_
      refine r_cV ca_yX9_isNode ml_X9_147 im_yX9_isNode se_yX9_isNode (by decide) rfl (lay_ok hL rfl) (c_X9_isNode hL s0 (by omega)) ⟨by decide, by decide⟩ (by first | decide | omega) (by first | decide | omega) rfl (Nat.le_of_ble_eq_true rfl) dX9_node_2 ?_
      refine r_top 1 (inN_yes hj (by omega)) ?_
      refine r_if_eq 17 dX9_node_5 (by decide) (fun hq => absurd hq (by decide)) (fun _ => ?_)
      refine r_iload_n dX9_node_8 rfl ?_
      refine r_iconst (0) dX9_node_9 (by decide) ?_
      refine r_iconst (5) dX9_node_10 (by decide) ?_
      refine r_cS ca_yX9_in ml_X9_143 sm_yX9_in (c_X9_in hL) ⟨by decide, by decide⟩ (by first | decide | omega) (by first | decide | omega) rfl (Nat.le_of_ble_eq_true rfl) dX9_node_11 ?_
      refine r_top 0 (out_k (k := 5) (by decide) hne) ?_
      refine r_if_ne 19 dX9_node_14 (by decide) (fun hq => absurd (by decide) hq) (fun _ => ?_)
      refine r_iconst (-1) dX9_node_17 (by decide) ?_
      exact r_iret (Or.inl rfl) dX9_node_18 ⟨(congrArg (fun q : Int32 => some (Value.int q)) hk).symm, rfl⟩
    · have hr : (if y < 0 then (0 : Int32) else if 5 < y then 0 else 1) = 1 := by rw [if_neg (fun z => c1 (Or.inl z)), if_neg (fun z => c1 (Or.inr z))]
      rw [hk]
      refine r_aload_n dX9_node_0 rfl ?_
      refine r_iload_n dX9_node_1 rfl ?_
      refine r_cV ca_yX9_isNode ml_X9_147 im_yX9_isNode se_yX9_isNode (by decide) rfl (lay_ok hL rfl) (c_X9_isNode hL s0 (by omega)) ⟨by decide, by decide⟩ (by first | decide | omega) (by first | decide | omega) rfl (Nat.le_of_ble_eq_true rfl) dX9_node_2 ?_
      refine r_top 1 (inN_yes hj (by omega)) ?_
      refine r_if_eq 17 dX9_node_5 (by decide) (fun hq => absurd hq (by decide)) (fun _ => ?_)
      refine r_iload_n dX9_node_8 rfl ?_
      refine r_iconst (0) dX9_node_9 (by decide) ?_
      refine r_iconst (5) dX9_node_10 (by decide) ?_
      refine r_cS ca_yX9_in ml_X9_143 sm_yX9_in (c_X9_in hL) ⟨by decide, by decide⟩ (by first | decide | omega) (by first | decide | omega) rfl (Nat.le_of_ble_eq_true rfl) dX9_node_11 ?_
      refine r_top 1 (hr) ?_
      refine r_if_ne 19 dX9_node_14 (by decide) (fun _ => ?_) (fun hq => absurd hq (by decide))
      refine r_iconst (nI 0) dX9_node_19 (by decide) ?_
      refine r_istore_n _ dX9_node_20 (by decide) rfl ?_
      refine r_iload_n dX9_node_21 rfl ?_
      by_cases w0 : y = 0
      · subst w0
        refine r_tableIn 56 dX9_node_22 (by decide) (by decide) (off := 34) (by decide) (by decide) ?_
        refine r_aload_n dX9_node_56 rfl ?_
        refine r_getF kX9 (k := 15) (by decide) rfl fl_X9_39 (lay_ok hL rfl) (lay_r hL rfl) dX9_node_57 ?_
        refine r_iload_n dX9_node_60 rfl ?_
        refine r_ialdE (nI (ga g 4 n)) (lay_ok hL rfl) (by omega) (by omega) dX9_node_61 x4 ?_
        exact r_iret (Or.inl rfl) dX9_node_62 ⟨rfl, rfl⟩
      by_cases w1 : y = 1
      · subst w1
        refine r_tableIn 63 dX9_node_22 (by decide) (by decide) (off := 41) (by decide) (by decide) ?_
        refine r_aload_n dX9_node_63 rfl ?_
        refine r_getF kX9 (k := 16) (by decide) rfl fl_X9_42 (lay_ok hL rfl) (lay_r hL rfl) dX9_node_64 ?_
        refine r_iload_n dX9_node_67 rfl ?_
        refine r_zaldE (nI (ga g 5 n)) (lay_ok hL rfl) (by omega) (by omega) dX9_node_68 x5 ?_
        refine r_if_eq 76 dX9_node_69 (by decide) (fun c69 => ?_) (fun c69 => ?_)
        · refine r_iconst (0) dX9_node_76 (by decide) ?_
          exact r_iret (Or.inl rfl) dX9_node_77 ⟨congrArg (fun q => some (Value.int q)) (c69.symm), rfl⟩
        · refine r_iconst (1) dX9_node_72 (by decide) ?_
          refine r_goto 77 dX9_node_73 (by decide) ?_
          exact r_iret (Or.inl rfl) dX9_node_77 ⟨congrArg (fun q => some (Value.int q)) (b01_1 y5 c69), rfl⟩
      by_cases w2 : y = 2
      · subst w2
        refine r_tableIn 78 dX9_node_22 (by decide) (by decide) (off := 56) (by decide) (by decide) ?_
        refine r_aload_n dX9_node_78 rfl ?_
        refine r_getF kX9 (k := 17) (by decide) rfl fl_X9_45 (lay_ok hL rfl) (lay_r hL rfl) dX9_node_79 ?_
        refine r_iload_n dX9_node_82 rfl ?_
        refine r_zaldE (nI (ga g 6 n)) (lay_ok hL rfl) (by omega) (by omega) dX9_node_83 x6 ?_
        refine r_if_eq 91 dX9_node_84 (by decide) (fun c84 => ?_) (fun c84 => ?_)
        · refine r_iconst (0) dX9_node_91 (by decide) ?_
          exact r_iret (Or.inl rfl) dX9_node_92 ⟨congrArg (fun q => some (Value.int q)) (c84.symm), rfl⟩
        · refine r_iconst (1) dX9_node_87 (by decide) ?_
          refine r_goto 92 dX9_node_88 (by decide) ?_
          exact r_iret (Or.inl rfl) dX9_node_92 ⟨congrArg (fun q => some (Value.int q)) (b01_1 y6 c84), rfl⟩
      by_cases w3 : y = 3
      · subst w3
        refine r_tableIn 93 dX9_node_22 (by decide) (by decide) (off := 71) (by decide) (by decide) ?_
        refine r_aload_n dX9_node_93 rfl ?_
        refine r_iload_n dX9_node_94 rfl ?_
        refine r_cV ca_yX9_letters ml_X9_199 im_yX9_letters se_yX9_letters (by decide) rfl (lay_ok hL rfl) (c_X9_letters hL s0 b1 hA.2.2.2.2.2.1 hn) ⟨by decide, by decide⟩ (by first | decide | omega) (by first | decide | omega) rfl (Nat.le_of_ble_eq_true rfl) dX9_node_95 ?_
        exact r_iret (Or.inl rfl) dX9_node_98 ⟨rfl, rfl⟩
      by_cases w4 : y = 4
      · subst w4
        refine r_tableIn 99 dX9_node_22 (by decide) (by decide) (off := 77) (by decide) (by decide) ?_
        refine r_iconst (nI 0) dX9_node_99 (by decide) ?_
        refine r_istore _ dX9_node_100 (by decide) rfl ?_
        exact l_X9_node hL s1 hA.2.1 hB hn (gs g 1) 0 (by omega)
      refine r_tableOut 138 dX9_node_22 (by have t0 := lv_neT (a := 0) w0 rfl; have t1 := lv_neT (a := 1) w1 rfl; have t2 := lv_neT (a := 2) w2 rfl; have t3 := lv_neT (a := 3) w3 rfl; have t4 := lv_neT (a := 4) w4 rfl; omega) (by decide) ?_
      have w5 : y = 5 := by
        obtain ⟨q, hq, rfl⟩ := nI_of (fun z => c1 (Or.inl z))
        have hq5 : q ≤ 5 := Nat.le_of_not_lt (fun z => c1 (Or.inr (nI_lt (a := 5) z hq)))
        rcases (show q = 0 ∨ q = 1 ∨ q = 2 ∨ q = 3 ∨ q = 4 ∨ q = 5 by omega) with rfl | rfl | rfl | rfl | rfl | rfl
        · exact absurd rfl w0
        · exact absurd rfl w1
        · exact absurd rfl w2
        · exact absurd rfl w3
        · exact absurd rfl w4
        · rfl
      refine r_aload_n dX9_node_138 rfl ?_
      refine r_getF kX9 (k := 29) (by decide) rfl fl_X9_78 (lay_ok hL rfl) (lay_r hL rfl) dX9_node_139 ?_
      refine r_iconst (nI 2) dX9_node_142 (by decide) ?_
      refine r_iload_n dX9_node_143 rfl ?_
      refine r_imul dX9_node_144 ?_
      refine r_top (nI (2 * n)) (nI_mul _ _) ?_
      refine r_iconst (nI 1) dX9_node_145 (by decide) ?_
      refine r_iadd dX9_node_146 ?_
      refine r_top (nI ((2 * n) + 1)) (nI_add _ _) ?_
      refine r_ialdE (mkI (gm g n 1)) (lay_ok hL rfl) (by omega) (by omega) dX9_node_147 m1 ?_
      exact r_iret (Or.inl rfl) dX9_node_148 ⟨by rw [if_neg w0, if_neg w1, if_neg w2, if_neg w3, if_neg w4, if_pos w5], rfl⟩
