/-! LETTERS ARE WRITTEN -/
theorem gr_lay {S : Nat → Prop} {M M1 : am_M} (h : am_gr S M M1) (hS : ∀ x, x ≤ 125 → ¬ S x) (hL : Lay M) : Lay M1 := by
  refine ⟨Nat.le_trans hL.1 h.1, fun a t n e => ?_, fun a k r e => ?_⟩
  · rw [(h.2 a (by have := (sh_le e).2; have := hL.1; omega)).1]
    exact hL.2.1 a t n e
  · have hle := rf_le e
    rw [((h.2 a (by have := hL.1; omega)).2 (hS a hle)).2]
    exact hL.2.2 a k r e
theorem wl_gr {N M1 M2 M4 M5 M6 : am_M} {n : Nat} (hNN : 125 ≤ mN N) (hf1 : am_fr s_desk N M1) (gg : am_gr (fun x => x = mN M1 + 1) M1 M2) (g4 : am_gr (fun x => x = 1) M2 M4) (g5 : am_gr (fun x => x = 28 + 13 * n + 2) M4 M5) (g6 : am_gr (fun x => x = 24 ∨ x = 25) M5 M6) (hn5 : n < 5) : am_gr (fun x => x ≤ 92) N M6 := by
  have e1 : mN M1 = mN N := hf1.2.1
  have e2 := gg.1
  have e4 := g4.1
  have e5 := g5.1
  have a1 : am_gr (fun x => x ≤ 92 ∨ x = mN N + 1) N M1 := hf1.gr.wd (fun x _ h => by rcases h with h | h | h | h <;> omega)
  have a2 : am_gr (fun x => x ≤ 92 ∨ x = mN N + 1) M1 M2 := gg.wd (fun x _ (h : x = mN M1 + 1) => Or.inr (by omega))
  have a4 : am_gr (fun x => x ≤ 92 ∨ x = mN N + 1) M2 M4 := g4.wd (fun x _ (h : x = 1) => Or.inl (by omega))
  have a5 : am_gr (fun x => x ≤ 92 ∨ x = mN N + 1) M4 M5 := g5.wd (fun x _ (h : x = 28 + 13 * n + 2) => Or.inl (by omega))
  have a6 : am_gr (fun x => x ≤ 92 ∨ x = mN N + 1) M5 M6 := g6.wd (fun x _ (h : x = 24 ∨ x = 25) => Or.inl (by omega))
  exact ((((a1.tr a2).tr a4).tr a5).tr a6).wd (fun x hx h => by omega)
/-- the same but for the letters, the net and what is counted -/
def sameW (g h : tG) : Prop := ga h = ga g ∧ gi h = gi g ∧ gm h = gm g ∧ gv h = gv g ∧ ∀ k, k ≠ 8 → gs h k = gs g k
theorem sameW.rf {g : tG} : sameW g g := ⟨rfl, rfl, rfl, rfl, fun _ _ => rfl⟩
theorem sameW.tr {g h k : tG} (h1 : sameW g h) (h2 : sameW h k) : sameW g k := ⟨h2.1.trans h1.1, h2.2.1.trans h1.2.1, h2.2.2.1.trans h1.2.2.1, h2.2.2.2.1.trans h1.2.2.2.1, fun j hj => (h2.2.2.2.2 j hj).trans (h1.2.2.2.2 j hj)⟩
theorem sameW_write1 (n o : Nat) (g : tG) : sameW g (g_write1 n o g) := by
  unfold g_write1
  split
  · exact sameW.rf
  · exact ⟨rfl, rfl, rfl, rfl, fun k hk => by show va_up (gs g) 8 _ k = _; exact va_up_ne _ _ hk⟩
theorem sameW_itr (n : Nat) (g : tG) : ∀ i, sameW g (itr (fun o => g_write1 n o) i g)
  | 0 => sameW.rf
  | i + 1 => (sameW_itr n g i).tr (sameW_write1 n i _)
theorem sameW_write (n : Nat) (g : tG) : sameW g (g_write n g) := sameW_itr n g _
theorem sameW.act {g h : tG} (s : sameW g h) (n : Nat) : t_act h n = t_act g n := by
  unfold t_act
  rw [s.1, s.2.2.2.2 1 (by decide)]
theorem sameW.ent {g h : tG} (s : sameW g h) (n o : Nat) : t_ent h n o = t_ent g n o := by
  unfold t_ent t_entV
  rw [s.1, s.2.1, s.2.2.2.2 1 (by decide), s.2.2.2.2 2 (by decide), s.2.2.2.2 3 (by decide), s.2.2.2.2 4 (by decide)]
theorem sameW.okl {g h : tG} (s : sameW g h) {t : tL} (k : okL g t) : okL h t := by
  obtain ⟨k1, k2, k3, k4, k5, k6, k7, k8⟩ := k
  have e7 := s.2.2.2.2 7 (by decide)
  have e0 := s.2.2.2.2 0 (by decide)
  have e1 := s.2.2.2.2 1 (by decide)
  exact ⟨by rw [e7]; exact k1, k2, by rw [e0]; exact k3, by rw [e0]; exact k4, k5, k6, k7, fun e he => ⟨by rw [e1]; exact (k8 e he).1, (k8 e he).2⟩⟩
theorem okL_let {g : tG} (hB : gB g) {n o : Nat} (hn : n < gs g 0) (ho : o < gs g 0) (hne : o ≠ n) (hr : ga g 4 n ≤ 199) : okL g (t_let g n o) := by
  obtain ⟨b0, b1, b2, b3, b4, b5, -, -, -, -, bV, bA, -⟩ := hB
  refine ⟨Nat.le_refl _, hr, hn, ho, fun e => hne e.symm, ?_, t_ent_len40 b3 n o, fun e he => ?_⟩
  · have := t_act_le g n (gs g 1)
    show t_act g n ≤ 16
    unfold t_act
    omega
  · exact t_entP_mem (P := fun e => e.1 < gs g 1 ∧ e.2.2 < 40) (fun _ _ h => h) (fun a _ ha => ⟨(bA a ha).2, by show a < 40; omega⟩) (gs g 1) e he
theorem gB_write1 {g : tG} (hB : gB g) {n o : Nat} (hn : n < gs g 0) (ho : o < gs g 0) (hr : ga g 4 n ≤ 199) : gB (g_write1 n o g) := by
  have s := sameW_write1 n o g
  by_cases hne : o = n
  · rw [show g_write1 n o g = g by unfold g_write1; rw [if_pos hne]]
    exact hB
  · have ht := okL_let hB hn ho hne hr
    obtain ⟨b0, b1, b2, b3, b4, b5, b6, b7, b8, b9, bV, bA, bN, bl, bn, bh⟩ := hB
    have e : g_write1 n o g = un (us (ul g (l_set (gl g) 3 n o (some (t_let g n o)))) 8 (gs g 8 + 1)) (t_push (gn g) (t_let g n o)) := by unfold g_write1; rw [if_neg hne]
    have en : gn (g_write1 n o g) = t_push (gn g) (t_let g n o) := by rw [e]; rfl
    have el : gl (g_write1 n o g) = l_set (gl g) 3 n o (some (t_let g n o)) := by rw [e]; rfl
    unfold gB
    rw [s.1, s.2.2.2.2 0 (by decide), s.2.2.2.2 1 (by decide), s.2.2.2.2 2 (by decide), s.2.2.2.2 3 (by decide), s.2.2.2.2 4 (by decide), s.2.2.2.2 5 (by decide), s.2.2.2.2 6 (by decide), s.2.2.2.2 7 (by decide), en, el]
    refine ⟨b0, b1, b2, b3, b4, b5, b6, b7, b8, b9, bV, bA, bN, ?_, fun t h => s.okl ?_, fun k m q t h => s.okl ?_⟩
    · unfold t_push
      split
      · simp; omega
      · exact bl
    · unfold t_push at h
      split at h
      · rcases List.mem_append.mp h with h | h
        · exact bn t h
        · rw [List.mem_singleton.mp h]; exact ht
      · exact bn t h
    · unfold l_set at h
      split at h
      · cases h; exact ht
      · exact bh k m q t h
theorem gB_itr {g : tG} (hB : gB g) {n : Nat} (hn : n < gs g 0) (hr : ga g 4 n ≤ 199) : ∀ i, i ≤ gs g 0 → gB (itr (fun o => g_write1 n o) i g)
  | 0, _ => hB
  | i + 1, hi => by
    have s := sameW_itr n g i
    exact gB_write1 (gB_itr hB hn hr i (by omega)) (by rw [s.2.2.2.2 0 (by decide)]; exact hn) (by rw [s.2.2.2.2 0 (by decide)]; omega) (by rw [s.1]; exact hr)
theorem gB_write {g : tG} (hB : gB g) {n : Nat} (hn : n < gs g 0) (hr : ga g 4 n ≤ 199) : gB (g_write n g) := gB_itr hB hn hr _ (Nat.le_refl _)
set_option maxHeartbeats 4000000 in
set_option maxRecDepth 100000 in
theorem l_X8_writeLetters {l : Launch} {X : Nat × (Nat → Int32)} {M : am_M} (hN : 125 ≤ mN M) {g : tG} {n : Nat} (hX : absX M g) (hB : gB g) (hn : n < gs g 0) (hr : ga g 4 n ≤ 199) : ∀ (k i cn : Nat) (N : am_M), i + k = gs g 0 → cn = (if n < i then i - 1 else i) → Lay N → absX N (itr (fun o => g_write1 n o) i g) → am_gr (fun x => x ≤ 92) M N → am_V l yX8_writeLetters cX8_writeLetters 6 none (am_R 6 16 512) 16 512 X (fun v M' => v = none ∧ absX M' (g_write n g) ∧ Lay M' ∧ am_gr (fun x => x ≤ 92) M M') (16 - 4 * cn) (512 - 128 * cn) 23 [some (.ref 1), some (.int (nI n)), some (.ref (28 + 13 * n)), some (.int (nI (t_act g n))), some (.int (nI i))] [] N := by
  intro k
  have b1 : gs g 0 ≤ 5 := hB.2.1
  have hn5 : n < 5 := by omega
  induction k with
  | zero =>
    intro i cn N hi hcn hL hA hg
    obtain rfl : i = gs g 0 := by omega
    have s0 := hA.1.1
    rw [(sameW_itr n g (gs g 0)).2.2.2.2 0 (by decide)] at s0
    refine r_iload dX8_writeLetters_23 rfl ?_
    refine r_aload_n dX8_writeLetters_25 rfl ?_
    refine r_getE (nI (gs g 0)) kX8 (k := 8) (by decide) rfl fl_X8_60 (lay_ok hL rfl) dX8_writeLetters_26 s0 ?_
    refine r_icmp_ge 117 dX8_writeLetters_29 (by decide) (fun _ => ?_) (fun hq => absurd (nI_le (Nat.le_refl _) (by omega)) hq)
    exact r_vret rfl dX8_writeLetters_117 ⟨rfl, hA, hL, hg⟩
  | succ k ih =>
    intro i cn N hi hcn hL hA hg
    have sw := sameW_itr n g i
    have hBi := gB_itr hB hn hr i (by omega)
    have hst : itr (fun o => g_write1 n o) (i + 1) g = g_write1 n i (itr (fun o => g_write1 n o) i g) := rfl
    generalize itr (fun o => g_write1 n o) i g = h at hA sw hBi hst
    have e0 := sw.2.2.2.2 0 (by decide)
    have e4 : ga h 4 n = ga g 4 n := by rw [sw.1]
    have hNN : 125 ≤ mN N := hL.1
    have s0 := hA.1.1
    rw [e0] at s0
    have s4 := hA.1.2.2.2.2.1
    refine r_iload dX8_writeLetters_23 rfl ?_
    refine r_aload_n dX8_writeLetters_25 rfl ?_
    refine r_getE (nI (gs g 0)) kX8 (k := 8) (by decide) rfl fl_X8_60 (lay_ok hL rfl) dX8_writeLetters_26 s0 ?_
    refine r_icmp_ge 117 dX8_writeLetters_29 (by decide) (fun hq => absurd hq (nI_ge (by omega) (by omega))) (fun _ => ?_)
    refine r_iload dX8_writeLetters_32 rfl ?_
    refine r_iload_n dX8_writeLetters_34 rfl ?_
    refine r_icmp_eq 111 dX8_writeLetters_35 (by decide) (fun c35 => ?_) (fun c35 => ?_)
    · refine r_iinc (nI (i + 1)) _ dX8_writeLetters_111 (by decide) rfl (nI_1 _) rfl ?_
      refine r_goto 23 dX8_writeLetters_114 (by decide) ?_
      refine r_take 5 ?_
      first | exact ih (i + 1) cn N (by omega) (by have e : i = n := (nI_eq (by omega) (by omega)).mp c35; rw [hcn, e, if_neg (by omega), if_pos (by omega)]; omega) hL (by rw [hst]; unfold g_write1; rw [if_pos ((nI_eq (by omega) (by omega)).mp c35)]; exact hA) hg | (refine r_room (bc' := 16 - 4 * (cn + 1)) (bs' := 512 - 128 * (cn + 1)) (by omega) (by omega) ?_; exact ih (i + 1) (cn + 1) M6 (by omega) (by have ne : i ≠ n := fun e => c35 (by rw [e]); rw [hcn]; by_cases z : n < i; rw [if_pos z, if_pos (by omega)]; omega; rw [if_neg z, if_neg (by omega)]) hL (by rw [hst]; exact hA6) (hg.tr (wl_gr hNN hf1 gg g4 g5 g6 hn5)))
    · refine r_aload_n dX8_writeLetters_38 rfl ?_
      refine r_getF kX8 (k := 4) (by decide) rfl fl_X8_38 (lay_ok hL rfl) (lay_r hL rfl) dX8_writeLetters_39 ?_
      refine r_aload_n dX8_writeLetters_42 rfl ?_
      refine r_getF kX8 (k := 0) (by decide) rfl fl_X8_12 (lay_ok hL rfl) (lay_r hL rfl) dX8_writeLetters_43 ?_
      refine r_aload_n dX8_writeLetters_46 rfl ?_
      refine r_getF kX8 (k := 1) (by decide) rfl fl_X8_21 (lay_ok hL rfl) (lay_r hL rfl) dX8_writeLetters_47 ?_
      refine r_iload_n dX8_writeLetters_50 rfl ?_
      refine r_iload dX8_writeLetters_51 rfl ?_
      refine r_aload_n dX8_writeLetters_53 rfl ?_
      refine r_getE (nI (gs h 4)) kX8 (k := 10) (by decide) rfl fl_X8_81 (lay_ok hL rfl) dX8_writeLetters_54 s4 ?_
      refine r_callV ca_yX0_gather ml_X8_306 im_yX0_gather se_yX0_gather (by decide) rfl (lay_ok hL rfl) (c_X0_gather hL hA.1 hA.2.1 hA.2.2.1 hBi hn5 (o := i) (by omega)) ⟨by decide, by decide⟩ (by first | decide | omega) (by first | decide | omega) rfl (Nat.le_of_ble_eq_true rfl) dX8_writeLetters_57 (fun v0 M1 hp1 => ?_)
      obtain ⟨rfl, hf1, hD1⟩ := hp1
      refine r_lay (hf1.lay hL) (fun hL => ?_)
      have hne : i ≠ n := fun e => c35 (by rw [e])
      have hc3 : cn ≤ 3 := by rw [hcn]; split <;> omega
      have hL0 := hL
      have hA1 : absX M1 h := hA.gr hf1.gr hNN (fun x h1 h2 => by rcases h2 with e | e | e | e <;> omega)
      refine r_new kX3 cl_X8_130 ins_X3 ini_X3 (by omega) (by omega) dX8_writeLetters_60 ?_
      have hn1 : mN M1 = mN N := hf1.2.1
      have hA2 : absX (wN M1 3 0) h := hA1.gr (S := fun _ => False) (am_gr.wN 3 0) (by omega) (fun _ _ h => h.elim)
      have D2 := DX.gr (S := fun _ => False) (am_gr.wN 3 0) (fun _ _ _ h => h) (by omega) hD1
      have ok2 := okw_new M1 3 0
      refine r_lay (lay_wN hL 3 0) (fun hL => ?_)
      have x7 := hA2.1.2.2.2.2.2.2.2.1
      have x4 := (hA2.2.2.2.1 n hn5).1
      refine r_dup dX8_writeLetters_63 rfl ?_
      refine r_aload_n dX8_writeLetters_64 rfl ?_
      refine r_getE (nI (gs h 7)) kX8 (k := 12) (by decide) rfl fl_X8_88 (lay_ok hL rfl) dX8_writeLetters_65 x7 ?_
      refine r_aload_n dX8_writeLetters_68 rfl ?_
      refine r_getE (nI (ga h 4 n)) kX6 (k := 4) (by decide) rfl fl_X8_178 (lay_ok hL (sh_n0 hn5)) dX8_writeLetters_69 x4 ?_
      refine r_iload_n dX8_writeLetters_72 rfl ?_
      refine r_iload dX8_writeLetters_73 rfl ?_
      refine r_iload_n dX8_writeLetters_75 rfl ?_
      refine r_aload_n dX8_writeLetters_76 rfl ?_
      refine r_getF kX8 (k := 4) (by decide) rfl fl_X8_38 (lay_ok hL rfl) (lay_r hL rfl) dX8_writeLetters_77 ?_
      refine r_callI ca_yX3_init ml_X8_310 im_yX3_init rfl (c_X3_init hL ok2 (by omega) D2) ⟨by decide, by decide⟩ (by first | decide | omega) (by first | decide | omega) rfl (Nat.le_of_ble_eq_true rfl) dX8_writeLetters_80 (fun v0 M2 hp1 => ?_)
      obtain ⟨rfl, g2, n2, hl2⟩ := hp1
      rw [show t_act g n = t_act h n from (sw.act n).symm] at hl2
      have gg : am_gr (fun x => x = mN M1 + 1) M1 M2 := (am_gr.wN 3 0).tr g2
      have hA3 : absX M2 h := hA1.gr gg (by omega) (fun x h1 (e : x = mN M1 + 1) => by omega)
      have hL : Lay M2 := gr_lay ((am_gr.wN (S := fun x => x = mN M1 + 1) 3 0).tr g2) (fun x h1 (e : x = mN M1 + 1) => by omega) hL0
      have ok3 := hl2.1
      have x8 := hA3.1.2.2.2.2.2.2.2.2.1
      refine r_astore _ dX8_writeLetters_83 (by decide) rfl ?_
      refine r_aload_n dX8_writeLetters_85 rfl ?_
      refine r_dup dX8_writeLetters_86 rfl ?_
      refine r_getE (nI (gs h 8)) kX8 (k := 13) (by decide) rfl fl_X8_91 (lay_ok hL rfl) dX8_writeLetters_87 x8 ?_
      refine r_iconst (1) dX8_writeLetters_90 (by decide) ?_
      refine r_iadd dX8_writeLetters_91 ?_
      refine r_top (nI (gs h 8 + 1)) (nI_1 _) ?_
      refine r_putI kX8 (k := 13) (by decide) rfl (Or.inl rfl) fl_X8_91 (lay_ok hL rfl) ⟨rfl, rfl⟩ dX8_writeLetters_92 ?_
      refine r_lay (lay_wI hL _ _ _) (fun hL => ?_)
      have hA4 := absX_written (M := M2) hL.1 hA3 (gs h 8 + 1)
      have g4 : am_gr (fun x => x = 1) M2 (wI M2 1 13 (nI (gs h 8 + 1))) := am_gr.wI 13 _ rfl
      have hl4 := hl2.gr g4 (fun x h1 h2 (e : x = 1) => by omega)
      generalize wI M2 1 13 (nI (gs h 8 + 1)) = M4 at hL hA4 g4 hl4 ⊢
      have hr4 : mI M4 (mN M1 + 1) 1 &&& 1 = nI (ga h 4 n % 2) := by rw [hl4.2.2.2.1]; exact and1 (by show ga h 4 n < 2 ^ 31; omega)
      have ok3 := hl4.1
      refine r_aload_n dX8_writeLetters_95 rfl ?_
      refine r_aload dX8_writeLetters_96 rfl ?_
      refine r_cV ca_yX6_keep ml_X8_313 im_yX6_keep se_yX6_keep (by decide) rfl (lay_ok hL (sh_n0 hn5)) (c_X6_keep hL hn5 (p := ga h 4 n % 2) (q := i) hl4.1 hr4 (by omega) hl4.2.2.2.2.2.1 (by omega)) ⟨by decide, by decide⟩ (by first | decide | omega) (by first | decide | omega) rfl (Nat.le_of_ble_eq_true rfl) dX8_writeLetters_98 ?_
      have n4 := g4.1
      have hA5 := absX_kept hL.1 hA4 hn5 (show i < 5 by omega) hl4
      have g5 : am_gr (fun x => x = 28 + 13 * n + 2) M4 (wR M4 (28 + 13 * n + 2) (ga h 4 n % 2 * 5 + i) (some (mN M1 + 1))) := am_gr.wR _ _ rfl
      have hl5 := hl4.gr g5 (fun x h1 h2 (e : x = 28 + 13 * n + 2) => by omega)
      refine r_lay (lay_wR hL _ (rf_n2 hn5)) (fun hL => ?_)
      have hA5 : absX (wR M4 (28 + 13 * n + 2) (ga h 4 n % 2 * 5 + i) (some (mN M1 + 1))) (ul (us h 8 (gs h 8 + 1)) (l_set (gl h) 3 n i (some (t_let h n i)))) := hA5
      generalize wR M4 (28 + 13 * n + 2) (ga h 4 n % 2 * 5 + i) (some (mN M1 + 1)) = M5 at hL hA5 g5 hl5 ⊢
      have ok3 := hl5.1
      refine r_aload_n dX8_writeLetters_101 rfl ?_
      refine r_getF kX8 (k := 5) (by decide) rfl fl_X8_45 (lay_ok hL rfl) (lay_r hL rfl) dX8_writeLetters_102 ?_
      refine r_aload dX8_writeLetters_105 rfl ?_
      refine r_cV ca_yX5_add ml_X8_171 im_yX5_add se_yX5_add (by decide) rfl (lay_ok hL rfl) (c_X5_add hL ok3 hA5.2.2.2.2.1.1 hA5.2.2.2.2.1.2.1) ⟨by decide, by decide⟩ (by first | decide | omega) (by first | decide | omega) rfl (Nat.le_of_ble_eq_true rfl) dX8_writeLetters_107 ?_
      have n5 := g5.1
      have hgl : (gn (ul (us h 8 (gs h 8 + 1)) (l_set (gl h) 3 n i (some (t_let h n i))))) = gn h := rfl
      rw [hgl]
      have hfin : ∀ M6, M6 = (if (gn h).length < 60 then wI (wR M5 25 (gn h).length (some (mN M1 + 1))) 24 1 (nI ((gn h).length + 1)) else M5) → Lay M6 ∧ absX M6 (g_write1 n i h) ∧ am_gr (fun x => x = 24 ∨ x = 25) M5 M6 := by
        intro M6 e6
        have ew : g_write1 n i h = un (us (ul h (l_set (gl h) 3 n i (some (t_let h n i)))) 8 (gs h 8 + 1)) (t_push (gn h) (t_let h n i)) := by unfold g_write1; rw [if_neg (fun e => c35 (by rw [e]))]
        rw [e6, ew]
        by_cases c60 : (gn h).length < 60
        · rw [if_pos c60]
          refine ⟨lay_wI (lay_wR hL _ rfl) _ _ _, ?_, (am_gr.wR _ _ (Or.inr rfl)).tr (am_gr.wI _ _ (Or.inl rfl))⟩
          have q := absX_net (by have := hL.1; omega) hA5 hl5 c60
          unfold t_push
          rw [if_pos c60]
          exact q
        · rw [if_neg c60]
          refine ⟨hL, ?_, am_gr.rf⟩
          unfold t_push
          rw [if_neg c60]
          exact hA5
      generalize (if (gn h).length < 60 then wI (wR M5 25 (gn h).length (some (mN M1 + 1))) 24 1 (nI ((gn h).length + 1)) else M5) = M6 at hfin ⊢
      obtain ⟨hL, hA6, g6⟩ := hfin M6 rfl
      refine r_pop dX8_writeLetters_110 rfl ?_
      refine r_iinc (nI (i + 1)) _ dX8_writeLetters_111 (by decide) rfl (nI_1 _) rfl ?_
      refine r_goto 23 dX8_writeLetters_114 (by decide) ?_
      refine r_take 5 ?_
      first | exact ih (i + 1) cn N (by omega) (by have e : i = n := (nI_eq (by omega) (by omega)).mp c35; rw [hcn, e, if_neg (by omega), if_pos (by omega)]; omega) hL (by rw [hst]; unfold g_write1; rw [if_pos ((nI_eq (by omega) (by omega)).mp c35)]; exact hA) hg | (refine r_room (bc' := 16 - 4 * (cn + 1)) (bs' := 512 - 128 * (cn + 1)) (by omega) (by omega) ?_; exact ih (i + 1) (cn + 1) M6 (by omega) (by have ne : i ≠ n := fun e => c35 (by rw [e]); rw [hcn]; by_cases z : n < i; rw [if_pos z, if_pos (by omega)]; omega; rw [if_neg z, if_neg (by omega)]) hL (by rw [hst]; exact hA6) (hg.tr (wl_gr hNN hf1 gg g4 g5 g6 hn5)))
set_option maxHeartbeats 4000000 in
set_option maxRecDepth 100000 in
theorem c_X8_writeLetters {l : Launch} {X : Nat × (Nat → Int32)} {M : am_M} (hL : Lay M) {g : tG} {n : Nat} (hX : absX M g) (hB : gB g) (hn : n < gs g 0) (hr : ga g 4 n ≤ 199) : am_C l yX8_writeLetters cX8_writeLetters 6 none 6 16 512 X [.ref 1, .int (nI n)] M (fun v M' => v = none ∧ absX M' (g_write n g) ∧ Lay M' ∧ am_gr (fun x => x ≤ 92) M M') := by
  refine am_C.of (by decide) (by simp [Value.category, va_rf]) (Nat.le_of_ble_eq_true rfl) ?_
  have hn5 : n < 5 := by have := hB.2.1; omega
  refine r_aload_n dX8_writeLetters_0 rfl ?_
  refine r_getF kX8 (k := 6) (by decide) rfl fl_X8_51 (lay_ok hL rfl) (lay_r hL rfl) dX8_writeLetters_1 ?_
  refine r_iload_n dX8_writeLetters_4 rfl ?_
  refine r_aaldF (Or.inr rfl) (lay_ok hL rfl) (by omega) (by decide) (lay_r hL (rf_row hn5)) dX8_writeLetters_5 ?_
  refine r_astore_n _ dX8_writeLetters_6 (by decide) rfl ?_
  refine r_aload_n dX8_writeLetters_7 rfl ?_
  refine r_getF kX8 (k := 0) (by decide) rfl fl_X8_12 (lay_ok hL rfl) (lay_r hL rfl) dX8_writeLetters_8 ?_
  refine r_iload_n dX8_writeLetters_11 rfl ?_
  refine r_aload_n dX8_writeLetters_12 rfl ?_
  refine r_getF kX8 (k := 1) (by decide) rfl fl_X8_21 (lay_ok hL rfl) (lay_r hL rfl) dX8_writeLetters_13 ?_
  refine r_cV ca_yX1_activeAt ml_X8_250 im_yX1_activeAt se_yX1_activeAt (by decide) rfl (lay_ok hL rfl) (c_X1_activeAt hL (va := 8) (p := 9) (q := 10) (r := 11) (lay_ok hL rfl) (lay_r hL rfl) (lay_r hL rfl) (lay_r hL rfl) (lay_ok hL rfl) (lay_ok hL rfl) (lay_ok hL rfl) (hm := ga g 0) (ac := ga g 1) hX.1.2.1 hB.2.2.1 (fun v hv => ⟨(hX.2.1 v hv).1, by have := (hB.2.2.2.2.2.2.2.2.2.2.1 v hv).1; have := hB.2.1; omega, (hX.2.1 v hv).2.2.2.2, (hB.2.2.2.2.2.2.2.2.2.2.1 v hv).2⟩) hn5) ⟨by decide, by decide⟩ (by first | decide | omega) (by first | decide | omega) rfl (Nat.le_of_ble_eq_true rfl) dX8_writeLetters_16 ?_
  refine r_istore_n _ dX8_writeLetters_19 (by decide) rfl ?_
  refine r_iconst (nI 0) dX8_writeLetters_20 (by decide) ?_
  refine r_istore _ dX8_writeLetters_21 (by decide) rfl ?_
  exact l_X8_writeLetters hL.1 hX hB hn hr (gs g 0) 0 0 M (by omega) (by rw [if_neg (by omega)]) hL hX am_gr.rf
