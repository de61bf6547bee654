/-! BACK, MOVE -/
theorem pm_step {B e r : Nat} (h : B ≤ r) : pm B e (r + 1) = pm B e r ∨ pm B e (r + 1) = r + 1 := by
  unfold pm
  by_cases c : e = 0
  · rw [if_pos c, if_pos c]; exact Or.inl rfl
  · rw [if_neg c, if_neg c]
    by_cases d : e ∣ r + 1
    · rw [Nat.mul_div_cancel' d, if_neg (by omega)]
      exact Or.inr rfl
    · rw [Nat.succ_div, if_neg d, Nat.add_zero]
      exact Or.inl rfl
theorem mm_ok {c : Nat} {g : tG} (hI : gI c g) (h6 : gs g 6 = 1) : ∃ m, t_mm g = some m ∧ m ≤ 199 ∧ t_allM g (some m) := by
  obtain ⟨B, hM⟩ := hI.2.2.2.2.2.2.2.2.1 h6
  have hR := hI.2.2.2.2.2.1
  have hb0 : 0 < gs g 0 := by have := hI.1.1; omega
  have fin : ∀ m, t_mm g = some m → t_allM g (some m) → ∃ m, t_mm g = some m ∧ m ≤ 199 ∧ t_allM g (some m) := fun m h1 h2 => ⟨m, h1, by rcases h2 0 hb0 with z | z; exact hI.2.2.1 0 1 m z; exact hI.2.2.1 0 0 m z, h2⟩
  have p1 : ∀ n, n < gs g 0 → gm g n 1 = some (pm B (gs g 5) (min (ga g 4 n) 199)) := fun n hn => (hM n hn).2.1
  have e0 := p1 0 hb0
  by_cases a : t_allM g (gm g 0 1)
  · refine fin _ ((c_pos a).trans e0) ?_
    rw [← e0]; exact a
  · have a' : ∃ n, n < gs g 0 ∧ gm g n 1 ≠ gm g 0 1 ∧ gm g n 0 ≠ gm g 0 1 := by
      apply Classical.byContradiction
      intro z
      exact a (fun n hn => Classical.byContradiction (fun y => z ⟨n, hn, fun x => y (Or.inl x), fun x => y (Or.inr x)⟩))
    obtain ⟨n, hn, n1, n2⟩ := a'
    rw [p1 n hn, e0] at n1
    rw [e0] at n2
    have n1 : pm B (gs g 5) (min (ga g 4 n) 199) ≠ pm B (gs g 5) (min (ga g 4 0) 199) := fun z => n1 (by rw [z])
    have r1 := hR n 0 hn hb0
    have r2 := hR 0 n hb0 hn
    have c1 := (hM n hn).1
    have c2 := (hM 0 hb0).1
    rcases Nat.lt_trichotomy (min (ga g 4 n) 199) (min (ga g 4 0) 199) with y | y | y
    · have y1 : min (ga g 4 0) 199 = min (ga g 4 n) 199 + 1 := by omega
      have y2 : pm B (gs g 5) (min (ga g 4 0) 199) = min (ga g 4 0) 199 := by
        rcases pm_step (e := gs g 5) c1 with z | z
        · rw [← y1] at z; exact absurd z.symm n1
        · rw [← y1] at z; exact z
      have y3 := (hM 0 hb0).2.2 (by rw [y2]; omega)
      rw [y2, y1, Nat.add_sub_cancel] at y3
      refine fin _ ((c_neg a).trans y3) (fun k hk => ?_)
      have r3 := hR k n hk hn
      have r4 := hR 0 k hb0 hk
      rcases (show min (ga g 4 k) 199 = min (ga g 4 n) 199 ∨ min (ga g 4 k) 199 = min (ga g 4 0) 199 by omega) with z | z
      · left; rw [p1 k hk, z]
      · right
        have w := (hM k hk).2.2 (by rw [z, y2]; omega)
        rw [z, y2, y1, Nat.add_sub_cancel] at w
        exact w
    · exact absurd (by rw [y]) n1
    · exfalso
      have y1 : min (ga g 4 n) 199 = min (ga g 4 0) 199 + 1 := by omega
      have y2 : pm B (gs g 5) (min (ga g 4 n) 199) = min (ga g 4 n) 199 := by
        rcases pm_step (e := gs g 5) c2 with z | z
        · rw [← y1] at z; exact absurd z n1
        · rw [← y1] at z; exact z
      have y3 := (hM n hn).2.2 (by rw [y2]; omega)
      rw [y2, y1, Nat.add_sub_cancel] at y3
      exact n2 y3
/-- a node's letters given up, its round set, up and not ended -/
def w_gb (M : am_M) (n : Nat) (x : Int32) : am_M := wI (wI (wI (wQ (wQ M (28 + 13 * n + 1) (fl (mR M (28 + 13 * n + 1)) 10 none)) (28 + 13 * n + 2) (fl (mR M (28 + 13 * n + 2)) 10 none)) (28 + 13 * n) 4 x) (28 + 13 * n) 5 0) (28 + 13 * n) 6 0
theorem absX_gb {M : am_M} {g : tG} (hN : 125 ≤ mN M) (k : absX M g) {n : Nat} (hn : n < 5) (m : Nat) : absX (w_gb M n (nI m)) (ua (ua (ua (g_forget n g) 4 n m) 5 n 0) 6 n 0) ∧ am_gr (fun x => x ≤ 92) M (w_gb M n (nI m)) := by
  obtain ⟨a1, a2⟩ := absX_forget hN k hn
  have a3 := absX_round (M := wQ (wQ M (28 + 13 * n + 1) (fl (mR M (28 + 13 * n + 1)) 10 none)) (28 + 13 * n + 2) (fl (mR M (28 + 13 * n + 2)) 10 none)) hN a1 hn m (fun k o => if_pos rfl)
  have a4 := absX_node (M := wI (wQ (wQ M (28 + 13 * n + 1) (fl (mR M (28 + 13 * n + 1)) 10 none)) (28 + 13 * n + 2) (fl (mR M (28 + 13 * n + 2)) 10 none)) (28 + 13 * n) 4 (nI m)) hN a3 hn 5 0 (Or.inl rfl)
  have a5 := absX_node (M := wI (wI (wQ (wQ M (28 + 13 * n + 1) (fl (mR M (28 + 13 * n + 1)) 10 none)) (28 + 13 * n + 2) (fl (mR M (28 + 13 * n + 2)) 10 none)) (28 + 13 * n) 4 (nI m)) (28 + 13 * n) 5 (nI 0)) hN a4 hn 6 0 (Or.inr rfl)
  refine ⟨a5, (a2.wd (fun x _ e => by show x ≤ 92; omega)).tr (((am_gr.wI _ _ (by show 28 + 13 * n ≤ 92; omega)).tr (am_gr.wI _ _ (by show 28 + 13 * n ≤ 92; omega))).tr (am_gr.wI _ _ (by show 28 + 13 * n ≤ 92; omega)))⟩
theorem lay_gb {M : am_M} (hL : Lay M) {n : Nat} (hn : n < 5) (x : Int32) : Lay (w_gb M n x) := lay_wI (lay_wI (lay_wI (lay_wQ (lay_wQ hL _ (rf_nl hn).1) _ (rf_nl hn).2) _ _ _) _ _ _) _ _ _
theorem mR_gb {M : am_M} {n : Nat} {x : Int32} (i : Nat) : mR (w_gb M n x) (28 + 13 * n) i = mR M (28 + 13 * n) i := by
  unfold w_gb
  rw [mR_wI, mR_wI, mR_wI, mR_wQ_n _ _ (by omega), mR_wQ_n _ _ (by omega)]
/-- the memory behind goBack -/
theorem absX_goBack {M : am_M} {g : tG} (hL : Lay M) (k : absX M g) {n m p q : Nat} (hn : n < 5) (hm : m ≤ 199) (h2 : mR M (28 + 13 * n) 2 = some p) (h3 : mR M (28 + 13 * n) 3 = some q) (hb : ∀ z, gm g n 1 = some z → z ≤ 199) (hx : gm g n 1 = some m ∨ gm g n 0 = some m) : ∃ M' p', (if mI M p 1 = nI m then w_gb M n (nI m) else w_gb (wI (wR (wR M (28 + 13 * n) 3 (some p)) (28 + 13 * n) 2 (some q)) p 1 (-1)) n (nI m)) = M' ∧ absX M' (g_b0 n m g) ∧ Lay M' ∧ am_gr (fun x => x ≤ 92) M M' ∧ mR M' (28 + 13 * n) 2 = some p' ∧ (p' = 28 + 13 * n + 3 ∨ p' = 28 + 13 * n + 8) := by
  obtain ⟨p1, q1, e2, e3, e4, e5, e6⟩ := k.2.2.2.2.2.2.1 n hn
  cases h2.symm.trans e2
  cases h3.symm.trans e3
  by_cases c : gm g n 1 = some m
  · have a1 := absX_gb hL.1 k hn m
    refine ⟨_, p, if_pos (by rw [e5.1, c]; rfl), ?_, lay_gb hL hn _, a1.2, by rw [mR_gb]; exact h2, by omega⟩
    have : g_backM n m g = g := if_pos c
    show absX _ (ua (ua (ua (g_forget n (g_backM n m g)) 4 n m) 5 n 0) 6 n 0)
    rw [this]
    exact a1.1
  · have c0 : gm g n 0 = some m := by rcases hx with z | z; exact absurd z c; exact z
    have a0 := absX_swap hL.1 k hn h2 h3 c c0
    have hL1 : Lay (wI (wR (wR M (28 + 13 * n) 3 (some p)) (28 + 13 * n) 2 (some q)) p 1 (-1)) := lay_wI (lay_wR (lay_wR hL _ (rf_n0_3 hn)) _ (rf_n0_2 hn)) _ _ _
    have a1 := absX_gb hL1.1 a0 hn m
    have a2 : am_gr (fun x => x ≤ 92) M (wI (wR (wR M (28 + 13 * n) 3 (some p)) (28 + 13 * n) 2 (some q)) p 1 (-1)) := ((am_gr.wR _ _ (by show 28 + 13 * n ≤ 92; omega)).tr (am_gr.wR _ _ (by show 28 + 13 * n ≤ 92; omega))).tr (am_gr.wI _ _ (by show p ≤ 92; omega))
    refine ⟨_, q, if_neg (fun z => c ?_), a1.1, lay_gb hL1 hn _, a2.tr a1.2, by rw [mR_gb, mR_wI, mR_wR, if_pos ⟨rfl, rfl⟩], by omega⟩
    rw [e5.1] at z
    exact mkI_inj hb (fun y hy => by cases hy; exact hm) z
theorem b0_f (n m : Nat) (g : tG) : gs (g_b0 n m g) = gs g ∧ ga (g_b0 n m g) 0 = ga g 0 ∧ ga (g_b0 n m g) 1 = ga g 1 ∧ gm (g_b0 n m g) = gm (g_backM n m g) := by
  obtain ⟨f1, f2, f3, f4, f5⟩ := backM_f n m g
  refine ⟨f1, ?_, ?_, rfl⟩
  · show ga (ua (ua (ua (g_forget n (g_backM n m g)) 4 n m) 5 n 0) 6 n 0) 0 = _
    rw [ga_uaf _ _ _ (by decide), ga_uaf _ _ _ (by decide), ga_uaf _ _ _ (by decide)]
    show ga (g_backM n m g) 0 = _
    rw [f2]
  · show ga (ua (ua (ua (g_forget n (g_backM n m g)) 4 n m) 5 n 0) 6 n 0) 1 = _
    rw [ga_uaf _ _ _ (by decide), ga_uaf _ _ _ (by decide), ga_uaf _ _ _ (by decide)]
    show ga (g_backM n m g) 1 = _
    rw [f2]
set_option maxHeartbeats 4000000 in
set_option maxRecDepth 100000 in
theorem l_X8_back {l : Launch} {X : Nat × (Nat → Int32)} {M : am_M} {g : tG} {c0 m : Nat} {kk : Int32 × tG} (hI : gI c0 g) (hc0 : c0 ≤ 999) (hm : m ≤ 199) (hA0 : t_allM g (some m)) (hk : kk = (nI m, g_back m g)) : ∀ (k i : Nat) (N : am_M), i + k = gs g 0 → Lay N → absX N (backP m g i) → am_gr (fun x => x ≤ 92) M N → am_V l yX8_back cX8_back 4 (some .int) (am_R 7 80 2560) 80 2560 X (fun v M' => v = some (.int (kk).1) ∧ absX M' (kk).2 ∧ Lay M' ∧ am_gr (fun x => x ≤ 92) M M') (80 - 16 * i) (2560 - 512 * i) 34 [some (.ref 1), some (.int (nI m)), some (.int (nI i))] [] N := by
  intro k
  have hB := hI.1
  have b1 : gs g 0 ≤ 5 := hB.2.1
  have h7 : gs g 7 + 1 ≤ 1000 := by have := hI.2.1; omega
  induction k with
  | zero =>
    intro i N hi hL hA hg
    obtain rfl : i = gs g 0 := by omega
    have s0 := hA.1.1
    rw [(backP_i hB h7 hm hI.2.2.2.2.2.2.2.2.2 hA0 (gs g 0) (Nat.le_refl _)).2.1 0 (by decide)] at s0
    have s0 : mI N 1 8 = nI (gs g 0) := s0
    have hA : absX N (g_back m g) := hA
    refine r_iload_n dX8_back_34 rfl ?_
    refine r_aload_n dX8_back_35 rfl ?_
    refine r_getE (nI (gs g 0)) kX8 (k := 8) (by decide) rfl fl_X8_60 (lay_ok hL rfl) dX8_back_36 s0 ?_
    refine r_icmp_ge 81 dX8_back_39 (by decide) (fun _ => ?_) (fun hq => absurd (nI_le (Nat.le_refl _) (by omega)) hq)
    refine r_iload_n dX8_back_81 rfl ?_
    exact r_iret (Or.inl rfl) dX8_back_82 ⟨by rw [hk], by rw [hk]; exact hA, hL, hg⟩
  | succ k ih =>
    intro i N hi hL hA hg
    obtain ⟨p1, p2, p3, p4⟩ := backP_i hB h7 hm hI.2.2.2.2.2.2.2.2.2 hA0 i (by omega)
    obtain ⟨P1, -⟩ := backP_i hB h7 hm hI.2.2.2.2.2.2.2.2.2 hA0 (i + 1) (by omega)
    have e : backP m g (i + 1) = g_write i (g_back1 i m (backP m g i)) := rfl
    have s0 := hA.1.1
    rw [p2 0 (by decide)] at s0
    have s0 : mI N 1 8 = nI (gs g 0) := s0
    have hn : i < 5 := by omega
    obtain ⟨p, q, h2, h3, hpq, -⟩ := hA.2.2.2.2.2.2.1 i hn
    have hp : p = 28 + 13 * i + 3 ∨ p = 28 + 13 * i + 8 := by omega
    have hq : q = 28 + 13 * i + 3 ∨ q = 28 + 13 * i + 8 := by omega
    have hpo := (mk_facts hL hn hp).1
    have hqo := (mk_facts hL hn hq).1
    have hx : gm (backP m g i) i 1 = some m ∨ gm (backP m g i) i 0 = some m := by rw [(p4 i (Nat.le_refl _) 1).1, (p4 i (Nat.le_refl _) 0).1]; exact hA0 i (by omega)
    have hV2 : ∀ j v, gm (backP m g i) i j ≠ none → v < gs (backP m g i) 1 → (gv (backP m g i) i j v).2.2 ≤ 1 := fun j v h1 h2 => by
      rw [(p4 i (Nat.le_refl _) j).2]
      rw [(p4 i (Nat.le_refl _) j).1] at h1
      rw [p2 1 (by decide)] at h2
      exact hI.2.2.2.2.2.2.2.2.2 i j v h1 h2
    have hs1 : gs (backP m g i) 1 = gs g 1 := p2 1 (by decide)
    have hs0 : gs (backP m g i) 0 = gs g 0 := p2 0 (by decide)
    have hgm : ∀ z, gm (backP m g i) i 1 = some z → z ≤ 199 := fun z hz => hI.2.2.1 i 1 z (by rw [← (p4 i (Nat.le_refl _) 1).1]; exact hz)
    generalize backP m g i = h at hA e p1 p3 hx hV2 hs1 hs0 hgm
    obtain ⟨M0, p', em, hA1, hL1, hg1, h21, hp'⟩ := absX_goBack hL hA hn hm h2 h3 hgm hx
    obtain ⟨f1, f2, f3, f4⟩ := b0_f i m h
    have hb1 := gB_back1 (n := i) (m := m) p1 (by omega) (backM_le hV2 hx)
    obtain ⟨q1, q2, q3, q4, q5, q6, q7⟩ := back1_f i m h
    refine r_iload_n dX8_back_34 rfl ?_
    refine r_aload_n dX8_back_35 rfl ?_
    refine r_getE (nI (gs g 0)) kX8 (k := 8) (by decide) rfl fl_X8_60 (lay_ok hL rfl) dX8_back_36 s0 ?_
    refine r_icmp_ge 81 dX8_back_39 (by decide) (fun hq => absurd hq (nI_ge (by omega) (by omega))) (fun _ => ?_)
    refine r_aload_n dX8_back_42 rfl ?_
    refine r_getF kX8 (k := 6) (by decide) rfl fl_X8_51 (lay_ok hL rfl) (lay_r hL rfl) dX8_back_43 ?_
    refine r_iload_n dX8_back_46 rfl ?_
    refine r_aaldF (Or.inr rfl) (lay_ok hL rfl) (by omega) (by decide) (lay_r hL (rf_row hn)) dX8_back_47 ?_
    refine r_astore_n _ dX8_back_48 (by decide) rfl ?_
    refine r_aload_n dX8_back_49 rfl ?_
    refine r_iload_n dX8_back_50 rfl ?_
    refine r_cV ca_yX6_goBack ml_X8_194 im_yX6_goBack se_yX6_goBack (by decide) rfl (lay_ok hL (sh_n0 hn)) (c_X6_goBack hL hn h2 h3 hpo hqo) ⟨by decide, by decide⟩ (by first | decide | omega) (by first | decide | omega) rfl (Nat.le_of_ble_eq_true rfl) dX8_back_51 ?_
    refine r_mem M0 em ?_
    obtain ⟨mo, m1, m2, m3, m4, m5, m6, m7, m8⟩ := mk_facts hL1 hn hp'
    have hL := hL1
    refine r_aload_n dX8_back_54 rfl ?_
    refine r_iload_n dX8_back_55 rfl ?_
    refine r_aload_n dX8_back_56 rfl ?_
    refine r_getF (r := p') kX6 (k := 2) (by decide) rfl fl_X8_197 (lay_ok hL (sh_n0 hn)) h21 dX8_back_57 ?_
    refine r_getF (r := (p' + 1)) kX4 (k := 0) (by decide) rfl fl_X8_201 mo m1 dX8_back_60 ?_
    refine r_aload_n dX8_back_63 rfl ?_
    refine r_getF kX8 (k := 1) (by decide) rfl fl_X8_21 (lay_ok hL rfl) (lay_r hL rfl) dX8_back_64 ?_
    refine r_callV ca_yX8_copyVertices ml_X8_204 im_yX8_copyVertices se_yX8_copyVertices (by decide) rfl (lay_ok hL rfl) (c_X8_copyVertices hL1 (va := 8) (p := 9) (q := 10) (r := 11) (lay_ok hL1 rfl) (lay_r hL1 rfl) (lay_r hL1 rfl) (lay_r hL1 rfl) (lay_ok hL1 rfl) (lay_ok hL1 rfl) (lay_ok hL1 rfl) m2 m3 m4 m5 m6 m7 m8 (hm := ga (g_b0 i m h) 0) (nv := gs (g_b0 i m h) 1) (n := i) hA1.1.2.1 (by rw [f1]; exact p1.2.2.1) (fun v hv => ⟨(hA1.2.1 v hv).1, by rw [f1] at hv; rw [f2]; have := (p1.2.2.2.2.2.2.2.2.2.2.1 v hv).1; omega⟩) hn (fun v hv => by have z := hA1.2.2.2.2.2.2.2 i hn v (by rw [f1] at hv; have := p1.2.2.1; omega); rcases hp' with y | y <;> rw [y]; exact z.1; exact z.2) (by omega) (by omega) (by omega) (by omega) (by omega) (by omega) (by omega) (by omega)) ⟨by decide, by decide⟩ (by first | decide | omega) (by first | decide | omega) rfl (Nat.le_of_ble_eq_true rfl) dX8_back_67 (fun v0 M1 hp1 => ?_)
    obtain ⟨rfl, hc⟩ := hp1
    have hL2 := hc.1.lay hL1
    obtain ⟨hA2, hg2⟩ := absX_restore hL1.1 hA1 hn h21 (by rw [f4, backM_new hx]; exact fun z => by cases z) hc
    rw [show resP i (g_b0 i m h) (gs (g_b0 i m h) 1) = g_back1 i m h from by rw [f1]; exact (back1_eq i m h).symm] at hA2
    have hL := hL2
    refine r_aload_n dX8_back_70 rfl ?_
    refine r_iload_n dX8_back_71 rfl ?_
    refine r_callV ca_yX8_writeLetters ml_X8_208 im_yX8_writeLetters se_yX8_writeLetters (by decide) rfl (lay_ok hL rfl) (c_X8_writeLetters hL2 hA2 hb1 (by rw [q1, hs0]; omega) (by rw [q6, if_neg (by omega), if_neg (by omega), if_neg (by omega), if_pos ⟨rfl, rfl⟩]; exact hm)) ⟨by decide, by decide⟩ (by first | decide | omega) (by first | decide | omega) rfl (Nat.le_of_ble_eq_true rfl) dX8_back_72 (fun v0 M1 hp1 => ?_)
    obtain ⟨rfl, hA3, hL3, hg3⟩ := hp1
    refine r_iinc (nI (i + 1)) _ dX8_back_75 (by decide) rfl (nI_1 _) rfl ?_
    refine r_goto 34 dX8_back_78 (by decide) ?_
    refine r_take 3 ?_
    refine r_room (bc' := 80 - 16 * (i + 1)) (bs' := 2560 - 512 * (i + 1)) (by omega) (by omega) ?_
    exact ih (i + 1) _ (by omega) hL3 (by rw [e]; exact hA3) (((hg.tr hg1).tr hg2).tr hg3)
set_option maxHeartbeats 4000000 in
set_option maxRecDepth 100000 in
theorem k_X8_back {l : Launch} {X : Nat × (Nat → Int32)} {M : am_M} (hL : Lay M) {g : tG} {c0 : Nat} (hX : absX M g) (hI : gI c0 g) (hc : c0 ≤ 999) : am_C l yX8_back cX8_back 4 (some .int) 7 80 2560 X [.ref 1] M (fun v M' => v = some (.int (k_back g).1) ∧ absX M' (k_back g).2 ∧ Lay M' ∧ am_gr (fun x => x ≤ 92) M M') := by
  refine am_C.of (by decide) (by simp [Value.category, va_rf]) (Nat.le_of_ble_eq_true rfl) ?_
  have hB := hI.1
  obtain ⟨b0, b1, b2, b3, b4, b5, b6, b7, b8, b9, bV, bA, bN, bl, bn, bh⟩ := id hB
  obtain ⟨s0, s1, s2, s3, s4, s5, s6, s7, s8, s9⟩ := hX.1
  have hL0 := hL
  by_cases c6 : gs g 6 = 1
  · by_cases cd : t_anyD g
    · obtain ⟨m, hm, hm2, hall⟩ := mm_ok hI c6
      have hk : k_back g = (nI m, g_back m g) := (c_neg (fun z => z.elim (fun z => by omega) (fun z => z cd))).trans (by rw [hm]; rfl)
      have hA0 := absX_s7 hL0.1 hX (gs g 7 + 1)
      refine r_aload_n dX8_back_0 rfl ?_
      refine r_getE (1) kX8 (k := 11) (by decide) rfl fl_X8_85 (lay_ok hL rfl) dX8_back_1 (by rw [s6, c6]; rfl) ?_
      refine r_if_eq 14 dX8_back_4 (by decide) (fun hq => absurd hq (by decide)) (fun _ => ?_)
      refine r_aload_n dX8_back_7 rfl ?_
      refine r_callV ca_yX8_isAnyDown ml_X8_186 im_yX8_isAnyDown se_yX8_isAnyDown (by decide) rfl (lay_ok hL rfl) (c_X8_isAnyDown hL hX hB) ⟨by decide, by decide⟩ (by first | decide | omega) (by first | decide | omega) rfl (Nat.le_of_ble_eq_true rfl) dX8_back_8 (fun v0 M1 hp1 => ?_)
      have hp2 : v0 = some (.int 1) := by rcases hp1.2 with h | h; exact h.1; exact absurd cd h.2
      obtain ⟨e1, -⟩ := hp1
      rw [e1]
      subst hp2
      refine r_if_ne 17 dX8_back_11 (by decide) (fun _ => ?_) (fun hq => absurd hq (by decide))
      refine r_aload_n dX8_back_17 rfl ?_
      refine r_cV ca_yX8_wholeMark ml_X8_190 im_yX8_wholeMark se_yX8_wholeMark (by decide) rfl (lay_ok hL rfl) (c_X8_wholeMark hL hX hB hI.2.2.1) ⟨by decide, by decide⟩ (by first | decide | omega) (by first | decide | omega) rfl (Nat.le_of_ble_eq_true rfl) dX8_back_18 ?_
      refine r_top (nI m) (by rw [hm]; rfl) ?_
      refine r_istore_n _ dX8_back_21 (by decide) rfl ?_
      refine r_aload_n dX8_back_22 rfl ?_
      refine r_dup dX8_back_23 rfl ?_
      refine r_getE (nI (gs g 7)) kX8 (k := 12) (by decide) rfl fl_X8_88 (lay_ok hL rfl) dX8_back_24 s7 ?_
      refine r_iconst (1) dX8_back_27 (by decide) ?_
      refine r_iadd dX8_back_28 ?_
      refine r_top (nI (gs g 7 + 1)) (nI_1 _) ?_
      refine r_putI kX8 (k := 12) (by decide) rfl (Or.inl rfl) fl_X8_88 (lay_ok hL rfl) ⟨rfl, rfl⟩ dX8_back_29 ?_
      refine r_lay (lay_wI hL _ _ _) (fun hL => ?_)
      refine r_iconst (nI 0) dX8_back_32 (by decide) ?_
      refine r_istore_n _ dX8_back_33 (by decide) rfl ?_
      exact l_X8_back hI hc hm2 hall hk (gs g 0) 0 _ (by omega) hL hA0 (am_gr.wI 12 _ (by decide))
    · have hk : k_back g = (-2, g) := c_pos (Or.inr cd)
      refine r_aload_n dX8_back_0 rfl ?_
      refine r_getE (1) kX8 (k := 11) (by decide) rfl fl_X8_85 (lay_ok hL rfl) dX8_back_1 (by rw [s6, c6]; rfl) ?_
      refine r_if_eq 14 dX8_back_4 (by decide) (fun hq => absurd hq (by decide)) (fun _ => ?_)
      refine r_aload_n dX8_back_7 rfl ?_
      refine r_callV ca_yX8_isAnyDown ml_X8_186 im_yX8_isAnyDown se_yX8_isAnyDown (by decide) rfl (lay_ok hL rfl) (c_X8_isAnyDown hL hX hB) ⟨by decide, by decide⟩ (by first | decide | omega) (by first | decide | omega) rfl (Nat.le_of_ble_eq_true rfl) dX8_back_8 (fun v0 M1 hp1 => ?_)
      have hp2 : v0 = some (.int 0) := by rcases hp1.2 with h | h; exact absurd h.2 cd; exact h.1
      obtain ⟨e1, -⟩ := hp1
      rw [e1]
      subst hp2
      refine r_if_ne 17 dX8_back_11 (by decide) (fun hq => absurd (by decide) hq) (fun _ => ?_)
      refine r_bipush (-2) dX8_back_14 (by decide) ?_
      exact r_iret (Or.inl rfl) dX8_back_16 ⟨by rw [hk], by rw [hk]; exact hX, hL0, am_gr.rf⟩
  · have hk : k_back g = (-2, g) := c_pos (Or.inl (bool01 b7 c6))
    refine r_aload_n dX8_back_0 rfl ?_
    refine r_getE (0) kX8 (k := 11) (by decide) rfl fl_X8_85 (lay_ok hL rfl) dX8_back_1 (by rw [s6, bool01 b7 c6]; rfl) ?_
    refine r_if_eq 14 dX8_back_4 (by decide) (fun _ => ?_) (fun hq => absurd (by decide) hq)
    refine r_bipush (-2) dX8_back_14 (by decide) ?_
    exact r_iret (Or.inl rfl) dX8_back_16 ⟨by rw [hk], by rw [hk]; exact hX, hL0, am_gr.rf⟩
theorem uv_f (g : tG) (V : Nat → Nat → Nat → Int32 × Int32 × Nat) : gs (uv g V) = gs g ∧ ga (uv g V) = ga g ∧ gi (uv g V) = gi g ∧ gn (uv g V) = gn g ∧ gl (uv g V) = gl g ∧ gm (uv g V) = gm g := ⟨rfl, rfl, rfl, rfl, rfl, rfl⟩
theorem gB_uv {g : tG} (hB : gB g) (V : Nat → Nat → Nat → Int32 × Int32 × Nat) : gB (uv g V) := hB
theorem gB_fm {g : tG} (hB : gB g) (n : Nat) : gB (g_fm n g) := hB
theorem movP_m {g0 : tG} : ∀ i k, k < i → gm (itr (fun k h => g_write k (g_move1 k h)) i g0) k 0 = none
  | 0, k, h => absurd h (by omega)
  | i + 1, k, hk => by
    rw [itr_s _ i _]
    have ih := movP_m (g0 := g0) i k
    generalize itr (fun k h => g_write k (g_move1 k h)) i g0 = h at ih ⊢
    have o := sameW_write i (g_move1 i h)
    rw [o.2.2.1]
    show (if k = i ∧ 0 = 0 then none else (if k = i then (if 0 = 0 then gm h i 1 else some (ga h 4 i)) else gm h k 0)) = none
    by_cases c : k = i
    · rw [if_pos ⟨c, rfl⟩]
    · rw [if_neg (fun z => c z.1), if_neg c]
      exact ih (by omega)
set_option maxHeartbeats 4000000 in
set_option maxRecDepth 100000 in
theorem l_X8_move {l : Launch} {X : Nat × (Nat → Int32)} {M : am_M} {g0 : tG} {w : Int32} {kk : Int32 × tG} {x1 x2 : Int32} (hB0 : gB g0) (h4 : ∀ n, n < gs g0 0 → ga g0 4 n ≤ 199) (hfin : ∀ N, absX N (itr (fun k h => g_write k (g_move1 k h)) (gs g0 0) g0) → absX N kk.2) (hk : kk.1 = w) : ∀ (k i : Nat) (N : am_M), i + k = gs g0 0 → Lay N → absX N (itr (fun k h => g_write k (g_move1 k h)) i g0) → am_gr (fun x => x ≤ 92) M N → am_V l yX8_move cX8_move 5 (some .int) (am_R 7 80 2560) 80 2560 X (fun v M' => v = some (.int (kk).1) ∧ absX M' (kk).2 ∧ Lay M' ∧ am_gr (fun x => x ≤ 92) M M') (80 - 16 * i) (2560 - 512 * i) 68 [some (.ref 1), some (.int x1), some (.int x2), some (.int w), some (.int (nI i))] [] N := by
  intro k
  have b1 : gs g0 0 ≤ 5 := hB0.2.1
  have P := movP_i (g := g0) hB0 h4 (fun i => itr (fun k h => g_write k (g_move1 k h)) i g0) rfl (fun i => itr_s _ i _)
  induction k with
  | zero =>
    intro i N hi hL hA hg
    obtain rfl : i = gs g0 0 := by omega
    have s0 := hA.1.1
    rw [(P (gs g0 0) (Nat.le_refl _)).2.1 0 (by decide)] at s0
    have hA := hfin N hA
    refine r_iload dX8_move_68 rfl ?_
    refine r_aload_n dX8_move_70 rfl ?_
    refine r_getE (nI (gs g0 0)) kX8 (k := 8) (by decide) rfl fl_X8_60 (lay_ok hL rfl) dX8_move_71 s0 ?_
    refine r_icmp_ge 115 dX8_move_74 (by decide) (fun _ => ?_) (fun hq => absurd (nI_le (Nat.le_refl _) (by omega)) hq)
    refine r_iload_n dX8_move_115 rfl ?_
    exact r_iret (Or.inl rfl) dX8_move_116 ⟨by rw [hk], hA, hL, hg⟩
  | succ k ih =>
    intro i N hi hL hA hg
    obtain ⟨p1, p2, p3, p4⟩ := P i (by omega)
    have e : itr (fun k h => g_write k (g_move1 k h)) (i + 1) g0 = g_write i (g_move1 i (itr (fun k h => g_write k (g_move1 k h)) i g0)) := itr_s _ i _
    have s0 := hA.1.1
    rw [p2 0 (by decide)] at s0
    have hs0 := p2 0 (by decide)
    have hn : i < 5 := by omega
    generalize itr (fun k h => g_write k (g_move1 k h)) i g0 = h at hA e p1 p3 hs0
    obtain ⟨hA1, hg1⟩ := absX_forget hL.1 hA hn
    have hL1 : Lay (wQ (wQ N (28 + 13 * i + 1) (fl (mR N (28 + 13 * i + 1)) 10 none)) (28 + 13 * i + 2) (fl (mR N (28 + 13 * i + 2)) 10 none)) := lay_wQ (lay_wQ hL _ (rf_nl hn).1) _ (rf_nl hn).2
    have hB1 := gB_forget p1 i
    refine r_iload dX8_move_68 rfl ?_
    refine r_aload_n dX8_move_70 rfl ?_
    refine r_getE (nI (gs g0 0)) kX8 (k := 8) (by decide) rfl fl_X8_60 (lay_ok hL rfl) dX8_move_71 s0 ?_
    refine r_icmp_ge 115 dX8_move_74 (by decide) (fun hq => absurd hq (nI_ge (by omega) (by omega))) (fun _ => ?_)
    refine r_aload_n dX8_move_77 rfl ?_
    refine r_getF kX8 (k := 6) (by decide) rfl fl_X8_51 (lay_ok hL rfl) (lay_r hL rfl) dX8_move_78 ?_
    refine r_iload dX8_move_81 rfl ?_
    refine r_aaldF (Or.inr rfl) (lay_ok hL rfl) (by omega) (by decide) (lay_r hL (rf_row hn)) dX8_move_83 ?_
    refine r_cV ca_yX6_forgetLetters ml_X8_217 im_yX6_forgetLetters se_yX6_forgetLetters (by decide) rfl (lay_ok hL (sh_n0 hn)) (c_X6_forgetLetters hL hn) ⟨by decide, by decide⟩ (by first | decide | omega) (by first | decide | omega) rfl (Nat.le_of_ble_eq_true rfl) dX8_move_84 ?_
    generalize (wQ (wQ N (28 + 13 * i + 1) (fl (mR N (28 + 13 * i + 1)) 10 none)) (28 + 13 * i + 2) (fl (mR N (28 + 13 * i + 2)) 10 none)) = N1 at hA1 hg1 hL1 ⊢
    obtain ⟨p, q, h2, h3, hpq, -⟩ := hA1.2.2.2.2.2.2.1 i hn
    have hpo := (mk_facts hL1 hn (q := p) (by omega)).1
    have hqo := (mk_facts hL1 hn (q := q) (by omega)).1
    obtain ⟨hA2, hg2⟩ := absX_fm hL1.1 hA1 hn h2 h3
    have hL2 : Lay (wI (wI N1 p 1 (-1)) q 1 (-1)) := lay_wI (lay_wI hL1 _ _ _) _ _ _
    have hL := hL1
    refine r_aload_n dX8_move_87 rfl ?_
    refine r_getF kX8 (k := 6) (by decide) rfl fl_X8_51 (lay_ok hL rfl) (lay_r hL rfl) dX8_move_88 ?_
    refine r_iload dX8_move_91 rfl ?_
    refine r_aaldF (Or.inr rfl) (lay_ok hL rfl) (by omega) (by decide) (lay_r hL (rf_row hn)) dX8_move_93 ?_
    refine r_cV ca_yX6_forgetMarks ml_X8_220 im_yX6_forgetMarks se_yX6_forgetMarks (by decide) rfl (lay_ok hL (sh_n0 hn)) (c_X6_forgetMarks hL1 hn h2 h3 hpo hqo) ⟨by decide, by decide⟩ (by first | decide | omega) (by first | decide | omega) rfl (Nat.le_of_ble_eq_true rfl) dX8_move_94 ?_
    generalize wI (wI N1 p 1 (-1)) q 1 (-1) = N2 at hA2 hg2 hL2 ⊢
    have hL := hL2
    refine r_aload_n dX8_move_97 rfl ?_
    refine r_iload dX8_move_98 rfl ?_
    refine r_callV ca_yX8_keepMark ml_X8_223 im_yX8_keepMark se_yX8_keepMark (by decide) rfl (lay_ok hL rfl) (c_X8_keepMark hL2 hA2 (gB_fm hB1 i) hn) ⟨by decide, by decide⟩ (by first | decide | omega) (by first | decide | omega) rfl (Nat.le_of_ble_eq_true rfl) dX8_move_100 (fun v0 M1 hp1 => ?_)
    obtain ⟨rfl, hA3, hL3, hg3⟩ := hp1
    rw [move1_eq] at hA3
    have hL := hL3
    refine r_aload_n dX8_move_103 rfl ?_
    refine r_iload dX8_move_104 rfl ?_
    refine r_callV ca_yX8_writeLetters ml_X8_208 im_yX8_writeLetters se_yX8_writeLetters (by decide) rfl (lay_ok hL rfl) (c_X8_writeLetters hL3 hA3 (gB_move1 p1 i) (by show i < gs h 0; rw [hs0]; omega) (by show ga h 4 i ≤ 199; rw [p3]; exact h4 i (by omega))) ⟨by decide, by decide⟩ (by first | decide | omega) (by first | decide | omega) rfl (Nat.le_of_ble_eq_true rfl) dX8_move_106 (fun v0 M1 hp1 => ?_)
    obtain ⟨rfl, hA4, hL4, hg4⟩ := hp1
    refine r_iinc (nI (i + 1)) _ dX8_move_109 (by decide) rfl (nI_1 _) rfl ?_
    refine r_goto 68 dX8_move_112 (by decide) ?_
    refine r_room (bc' := 80 - 16 * (i + 1)) (bs' := 2560 - 512 * (i + 1)) (by omega) (by omega) ?_
    exact ih (i + 1) _ (by omega) hL4 (by rw [e]; exact hA4) ((((hg.tr (hg1.wd (fun x _ e => by show x ≤ 92; omega))).tr hg2).tr hg3).tr hg4)
set_option maxHeartbeats 4000000 in
set_option maxRecDepth 100000 in
theorem k_X8_move {l : Launch} {X : Nat × (Nat → Int32)} {M : am_M} (hL : Lay M) {g : tG} {c0 : Nat} (hX : absX M g) (hI : gI c0 g) {x y : Int32} (hc : c0 ≤ 999) : am_C l yX8_move cX8_move 5 (some .int) 7 80 2560 X [.ref 1, .int x, .int y] M (fun v M' => v = some (.int (k_move x y g).1) ∧ absX M' (k_move x y g).2 ∧ Lay M' ∧ am_gr (fun x => x ≤ 92) M M') := by
  refine am_C.of (by decide) (by simp [Value.category, va_rf]) (Nat.le_of_ble_eq_true rfl) ?_
  have hB := hI.1
  obtain ⟨b0, b1, b2, b3, b4, b5, b6, b7, b8, b9, bV, bA, bN, bl, bn, bh⟩ := id hB
  obtain ⟨s0, s1, s2, s3, s4, s5, s6, s7, s8, s9⟩ := hX.1
  have hL0 := hL
  rcases inN_cases x (k := gs g 1) (by omega) with ⟨e, c⟩ | ⟨v, hj, rfl, e⟩
  · have hk : k_move x y g = (-1, g) := by simp only [k_move, e]
    refine r_aload_n dX8_move_0 rfl ?_
    refine r_iload_n dX8_move_1 rfl ?_
    refine r_cV ca_yX8_isVertex ml_X8_106 im_yX8_isVertex se_yX8_isVertex (by decide) rfl (lay_ok hL rfl) (c_X8_isVertex hL) ⟨by decide, by decide⟩ (by first | decide | omega) (by first | decide | omega) rfl (Nat.le_of_ble_eq_true rfl) dX8_move_2 ?_
    refine r_top 0 (by rw [s1]; exact inN_no c) ?_
    refine r_if_eq 16 dX8_move_5 (by decide) (fun _ => ?_) (fun hq => absurd (by decide) hq)
    refine r_iconst (-1) dX8_move_16 (by decide) ?_
    exact r_iret (Or.inl rfl) dX8_move_17 ⟨by rw [hk], by rw [hk]; exact hX, hL0, am_gr.rf⟩
  · rcases inN_cases y (k := gs g 0) (by omega) with ⟨f, c⟩ | ⟨n, hb, rfl, f⟩
    · have hk : k_move (nI v) y g = (-1, g) := by simp only [k_move, e, f]
      refine r_aload_n dX8_move_0 rfl ?_
      refine r_iload_n dX8_move_1 rfl ?_
      refine r_cV ca_yX8_isVertex ml_X8_106 im_yX8_isVertex se_yX8_isVertex (by decide) rfl (lay_ok hL rfl) (c_X8_isVertex hL) ⟨by decide, by decide⟩ (by first | decide | omega) (by first | decide | omega) rfl (Nat.le_of_ble_eq_true rfl) dX8_move_2 ?_
      refine r_top 1 (by rw [s1]; exact inN_yes hj (by omega)) ?_
      refine r_if_eq 16 dX8_move_5 (by decide) (fun hq => absurd hq (by decide)) (fun _ => ?_)
      refine r_aload_n dX8_move_8 rfl ?_
      refine r_iload_n dX8_move_9 rfl ?_
      refine r_cV ca_yX8_isNode ml_X8_94 im_yX8_isNode se_yX8_isNode (by decide) rfl (lay_ok hL rfl) (c_X8_isNode hL) ⟨by decide, by decide⟩ (by first | decide | omega) (by first | decide | omega) rfl (Nat.le_of_ble_eq_true rfl) dX8_move_10 ?_
      refine r_top 0 (by rw [s0]; exact inN_no c) ?_
      refine r_if_ne 18 dX8_move_13 (by decide) (fun hq => absurd (by decide) hq) (fun _ => ?_)
      refine r_iconst (-1) dX8_move_16 (by decide) ?_
      exact r_iret (Or.inl rfl) dX8_move_17 ⟨by rw [hk], by rw [hk]; exact hX, hL0, am_gr.rf⟩
    · by_cases c6 : gs g 6 = 1
      · by_cases cd : t_lev g
        · have hk : k_move (nI v) (nI n) g = (nI (ga g 0 v), g_move v n g) := by simp only [k_move, e, f]; exact c_neg (fun z => z.elim (fun z => by omega) (fun z => z cd))
          have v3 := (hX.2.1 v hj).1
          obtain ⟨V, hA0⟩ := absX_home hL0.1 hX (v := v) (n := n) b2
          have hA1 := absX_s7 (M := wI M 3 v (nI n)) hL0.1 hA0 (gs g 7 + 1)
          have hBv : gB (us (uv (ua g 0 v n) V) 7 (gs g 7 + 1)) := gB_s7 (g := uv (ua g 0 v n) V) (gB_home hB hb) (by have := hI.2.1; show gs g 7 + 1 ≤ 1000; omega)
          have h4 : ∀ k, k < gs g 0 → ga g 4 k ≤ 199 := fun k hk => by
            have z1 := cd k hk
            have z2 := hI.2.2.2.2.2.2.2.1 k hk
            have z3 := (bN k (by omega)).1
            omega
          have hfin : ∀ N, absX N (itr (fun k h => g_write k (g_move1 k h)) (gs g 0) (us (uv (ua g 0 v n) V) 7 (gs g 7 + 1))) → absX N (g_move v n g) := fun N hN => by
            have u := movP_uv (g0 := us (ua g 0 v n) 7 (gs g 7 + 1)) V (gs g 0)
            have u0 := (movP_i (g := g) (g0 := us (ua g 0 v n) 7 (gs g 7 + 1)) hBv (fun k hk => by show ga (ua g 0 v n) 4 k ≤ 199; rw [ga_uaf _ _ _ (by decide)]; exact h4 k hk) (fun i => itr (fun k h => g_write k (g_move1 k h)) i (us (ua g 0 v n) 7 (gs g 7 + 1))) rfl (fun i => itr_s _ i _) (gs g 0) (Nat.le_refl _))
            obtain ⟨V', u1, u2⟩ := u
            rw [show us (uv (ua g 0 v n) V) 7 (gs g 7 + 1) = uv (us (ua g 0 v n) 7 (gs g 7 + 1)) V from rfl, u1] at hN
            show absX N (itr (fun k h => g_write k (g_move1 k h)) (gs g 0) (us (ua g 0 v n) 7 (gs g 7 + 1)))
            generalize itr (fun k h => g_write k (g_move1 k h)) (gs g 0) (us (ua g 0 v n) 7 (gs g 7 + 1)) = h at hN u2 u0 ⊢
            refine absX_gv (g := uv h V') hN (gv h) (fun k i u hk hi hne hu he => ?_)
            have hk2 : k < gs g 0 := by
              have q := (u0.1.2.2.2.2.2.2.2.2.2.2.1 u hu).1
              have q2 : gs h 0 = gs g 0 := u0.2.1 0 (by decide)
              have he : ga h 0 u = k := he
              omega
            rcases (show i = 0 ∨ i = 1 by omega) with rfl | rfl
            · exact absurd (u2 k u hk2).2 hne
            · exact (u2 k u hk2).1.symm
          refine r_aload_n dX8_move_0 rfl ?_
          refine r_iload_n dX8_move_1 rfl ?_
          refine r_cV ca_yX8_isVertex ml_X8_106 im_yX8_isVertex se_yX8_isVertex (by decide) rfl (lay_ok hL rfl) (c_X8_isVertex hL) ⟨by decide, by decide⟩ (by first | decide | omega) (by first | decide | omega) rfl (Nat.le_of_ble_eq_true rfl) dX8_move_2 ?_
          refine r_top 1 (by rw [s1]; exact inN_yes hj (by omega)) ?_
          refine r_if_eq 16 dX8_move_5 (by decide) (fun hq => absurd hq (by decide)) (fun _ => ?_)
          refine r_aload_n dX8_move_8 rfl ?_
          refine r_iload_n dX8_move_9 rfl ?_
          refine r_cV ca_yX8_isNode ml_X8_94 im_yX8_isNode se_yX8_isNode (by decide) rfl (lay_ok hL rfl) (c_X8_isNode hL) ⟨by decide, by decide⟩ (by first | decide | omega) (by first | decide | omega) rfl (Nat.le_of_ble_eq_true rfl) dX8_move_10 ?_
          refine r_top 1 (by rw [s0]; exact inN_yes hb (by omega)) ?_
          refine r_if_ne 18 dX8_move_13 (by decide) (fun _ => ?_) (fun hq => absurd hq (by decide))
          refine r_aload_n dX8_move_18 rfl ?_
          refine r_getE (1) kX8 (k := 11) (by decide) rfl fl_X8_85 (lay_ok hL rfl) dX8_move_19 (by rw [s6, c6]; rfl) ?_
          refine r_if_eq 32 dX8_move_22 (by decide) (fun hq => absurd hq (by decide)) (fun _ => ?_)
          refine r_aload_n dX8_move_25 rfl ?_
          refine r_callV ca_yX8_isLevel ml_X8_211 im_yX8_isLevel se_yX8_isLevel (by decide) rfl (lay_ok hL rfl) (c_X8_isLevel hL hX hB) ⟨by decide, by decide⟩ (by first | decide | omega) (by first | decide | omega) rfl (Nat.le_of_ble_eq_true rfl) dX8_move_26 (fun v0 M1 hp1 => ?_)
          have hp2 : v0 = some (.int 1) := by rcases hp1.2 with h | h; exact h.1; exact absurd cd h.2
          obtain ⟨e1, -⟩ := hp1
          rw [e1]
          subst hp2
          refine r_if_ne 35 dX8_move_29 (by decide) (fun _ => ?_) (fun hq => absurd hq (by decide))
          refine r_aload_n dX8_move_35 rfl ?_
          refine r_getF kX8 (k := 0) (by decide) rfl fl_X8_12 (lay_ok hL rfl) (lay_r hL rfl) dX8_move_36 ?_
          refine r_getF kX1 (k := 0) (by decide) rfl fl_X8_214 (lay_ok hL rfl) (lay_r hL rfl) dX8_move_39 ?_
          refine r_iload_n dX8_move_42 rfl ?_
          refine r_ialdE (nI (ga g 0 v)) (lay_ok hL rfl) (by omega) (by omega) dX8_move_43 v3 ?_
          refine r_istore_n _ dX8_move_44 (by decide) rfl ?_
          refine r_aload_n dX8_move_45 rfl ?_
          refine r_getF kX8 (k := 0) (by decide) rfl fl_X8_12 (lay_ok hL rfl) (lay_r hL rfl) dX8_move_46 ?_
          refine r_getF kX1 (k := 0) (by decide) rfl fl_X8_214 (lay_ok hL rfl) (lay_r hL rfl) dX8_move_49 ?_
          refine r_iload_n dX8_move_52 rfl ?_
          refine r_iload_n dX8_move_53 rfl ?_
          refine r_iastN (lay_ok hL rfl) (by omega) (by decide) dX8_move_54 ?_
          refine r_lay (lay_wI hL _ _ _) (fun hL => ?_)
          refine r_aload_n dX8_move_55 rfl ?_
          refine r_dup dX8_move_56 rfl ?_
          refine r_getE (nI (gs g 7)) kX8 (k := 12) (by decide) rfl fl_X8_88 (lay_ok hL rfl) dX8_move_57 s7 ?_
          refine r_iconst (1) dX8_move_60 (by decide) ?_
          refine r_iadd dX8_move_61 ?_
          refine r_top (nI (gs g 7 + 1)) (nI_1 _) ?_
          refine r_putI kX8 (k := 12) (by decide) rfl (Or.inl rfl) fl_X8_88 (lay_ok hL rfl) ⟨rfl, rfl⟩ dX8_move_62 ?_
          refine r_lay (lay_wI hL _ _ _) (fun hL => ?_)
          refine r_iconst (nI 0) dX8_move_65 (by decide) ?_
          refine r_istore _ dX8_move_66 (by decide) rfl ?_
          exact l_X8_move (g0 := us (uv (ua g 0 v n) V) 7 (gs g 7 + 1)) hBv (fun k hk => by show ga (ua g 0 v n) 4 k ≤ 199; rw [ga_uaf _ _ _ (by decide)]; exact h4 k hk) (by rw [hk]; exact hfin) (by rw [hk]) (gs g 0) 0 _ (by show 0 + gs g 0 = gs g 0; omega) hL hA1 ((am_gr.wI v _ (by decide)).tr (am_gr.wI 12 _ (by decide)))
        · have hk : k_move (nI v) (nI n) g = (-2, g) := by simp only [k_move, e, f]; exact c_pos (Or.inr cd)
          refine r_aload_n dX8_move_0 rfl ?_
          refine r_iload_n dX8_move_1 rfl ?_
          refine r_cV ca_yX8_isVertex ml_X8_106 im_yX8_isVertex se_yX8_isVertex (by decide) rfl (lay_ok hL rfl) (c_X8_isVertex hL) ⟨by decide, by decide⟩ (by first | decide | omega) (by first | decide | omega) rfl (Nat.le_of_ble_eq_true rfl) dX8_move_2 ?_
          refine r_top 1 (by rw [s1]; exact inN_yes hj (by omega)) ?_
          refine r_if_eq 16 dX8_move_5 (by decide) (fun hq => absurd hq (by decide)) (fun _ => ?_)
          refine r_aload_n dX8_move_8 rfl ?_
          refine r_iload_n dX8_move_9 rfl ?_
          refine r_cV ca_yX8_isNode ml_X8_94 im_yX8_isNode se_yX8_isNode (by decide) rfl (lay_ok hL rfl) (c_X8_isNode hL) ⟨by decide, by decide⟩ (by first | decide | omega) (by first | decide | omega) rfl (Nat.le_of_ble_eq_true rfl) dX8_move_10 ?_
          refine r_top 1 (by rw [s0]; exact inN_yes hb (by omega)) ?_
          refine r_if_ne 18 dX8_move_13 (by decide) (fun _ => ?_) (fun hq => absurd hq (by decide))
          refine r_aload_n dX8_move_18 rfl ?_
          refine r_getE (1) kX8 (k := 11) (by decide) rfl fl_X8_85 (lay_ok hL rfl) dX8_move_19 (by rw [s6, c6]; rfl) ?_
          refine r_if_eq 32 dX8_move_22 (by decide) (fun hq => absurd hq (by decide)) (fun _ => ?_)
          refine r_aload_n dX8_move_25 rfl ?_
          refine r_callV ca_yX8_isLevel ml_X8_211 im_yX8_isLevel se_yX8_isLevel (by decide) rfl (lay_ok hL rfl) (c_X8_isLevel hL hX hB) ⟨by decide, by decide⟩ (by first | decide | omega) (by first | decide | omega) rfl (Nat.le_of_ble_eq_true rfl) dX8_move_26 (fun v0 M1 hp1 => ?_)
          have hp2 : v0 = some (.int 0) := by rcases hp1.2 with h | h; exact absurd h.2 cd; exact h.1
          obtain ⟨e1, -⟩ := hp1
          rw [e1]
          subst hp2
          refine r_if_ne 35 dX8_move_29 (by decide) (fun hq => absurd (by decide) hq) (fun _ => ?_)
          refine r_bipush (-2) dX8_move_32 (by decide) ?_
          exact r_iret (Or.inl rfl) dX8_move_34 ⟨by rw [hk], by rw [hk]; exact hX, hL0, am_gr.rf⟩
      · have hk : k_move (nI v) (nI n) g = (-2, g) := by simp only [k_move, e, f]; exact c_pos (Or.inl (bool01 b7 c6))
        refine r_aload_n dX8_move_0 rfl ?_
        refine r_iload_n dX8_move_1 rfl ?_
        refine r_cV ca_yX8_isVertex ml_X8_106 im_yX8_isVertex se_yX8_isVertex (by decide) rfl (lay_ok hL rfl) (c_X8_isVertex hL) ⟨by decide, by decide⟩ (by first | decide | omega) (by first | decide | omega) rfl (Nat.le_of_ble_eq_true rfl) dX8_move_2 ?_
        refine r_top 1 (by rw [s1]; exact inN_yes hj (by omega)) ?_
        refine r_if_eq 16 dX8_move_5 (by decide) (fun hq => absurd hq (by decide)) (fun _ => ?_)
        refine r_aload_n dX8_move_8 rfl ?_
        refine r_iload_n dX8_move_9 rfl ?_
        refine r_cV ca_yX8_isNode ml_X8_94 im_yX8_isNode se_yX8_isNode (by decide) rfl (lay_ok hL rfl) (c_X8_isNode hL) ⟨by decide, by decide⟩ (by first | decide | omega) (by first | decide | omega) rfl (Nat.le_of_ble_eq_true rfl) dX8_move_10 ?_
        refine r_top 1 (by rw [s0]; exact inN_yes hb (by omega)) ?_
        refine r_if_ne 18 dX8_move_13 (by decide) (fun _ => ?_) (fun hq => absurd hq (by decide))
        refine r_aload_n dX8_move_18 rfl ?_
        refine r_getE (0) kX8 (k := 11) (by decide) rfl fl_X8_85 (lay_ok hL rfl) dX8_move_19 (by rw [s6, bool01 b7 c6]; rfl) ?_
        refine r_if_eq 32 dX8_move_22 (by decide) (fun _ => ?_) (fun hq => absurd (by decide) hq)
        refine r_bipush (-2) dX8_move_32 (by decide) ?_
        exact r_iret (Or.inl rfl) dX8_move_34 ⟨by rw [hk], by rw [hk]; exact hX, hL0, am_gr.rf⟩
