/-! MESSAGES ARE TAKEN: the methods -/
def t_locP (g : tG) (n i : Nat) : tB := itr (fun a B => if ga g 0 (ga g 2 a) = n ∧ ga g 0 (ga g 3 a) = n ∧ ga g 1 (ga g 2 a) = 1 then t_hear (gs g 3) B (ga g 3 a) (t_msg (gs g 3) (gi g 1 (ga g 2 a)) (gi g 3 a)) a else B) i (fun _ => none)
def t_boxP (g : tG) (n i : Nat) : tB := itr (fun o B => match gl g 0 n o with
  | none => B
  | some t => t_hearL (gs g 3) B t.2.2.2.2.2) i (t_loc g n)
theorem t_boxP_n {g : tG} {n i : Nat} (h : gl g 0 n i = none) : t_boxP g n (i + 1) = t_boxP g n i := by
  show (match gl g 0 n i with | none => t_boxP g n i | some t => t_hearL (gs g 3) (t_boxP g n i) t.2.2.2.2.2) = _
  rw [h]
theorem t_boxP_s {g : tG} {n i : Nat} {t : tL} (h : gl g 0 n i = some t) : t_boxP g n (i + 1) = t_hearL (gs g 3) (t_boxP g n i) t.2.2.2.2.2 := by
  show (match gl g 0 n i with | none => t_boxP g n i | some t => t_hearL (gs g 3) (t_boxP g n i) t.2.2.2.2.2) = _
  rw [h]
set_option maxHeartbeats 4000000 in
set_option maxRecDepth 100000 in
theorem l3_X8_take {l : Launch} {X : Nat × (Nat → Int32)} {M : am_M} {g : tG} {n : Nat} (hB : gB g) (hn : n < gs g 0) : ∀ (k i : Nat) (N : am_M), i + k = gs g 1 → Lay N → absX N (g_takeP n g i) → BX N (t_box g n) → am_gr (fun x => x ≤ 92) M N → am_V l yX8_takeMessages cX8_takeMessages 4 none (am_R 4 0 0) 0 0 X (fun v' M' => v' = none ∧ absX M' (g_take n g) ∧ Lay M' ∧ am_gr (fun x => x ≤ 92) M M') 0 0 143 [some (.ref 1), some (.int (nI n)), some (.int (nI i))] [] N := by
  intro k
  obtain ⟨b0, b1, b2, b3, b4, b5, -, -, -, -, bV, bA, bN, -, -, bh⟩ := id hB
  have hn5 : n < 5 := by omega
  induction k with
  | zero =>
    intro i N hi hL hA hb hg
    obtain rfl : i = gs g 1 := by omega
    have s := sameT_takeP n g (gs g 1)
    have s5 := hA.1.2.1
    rw [s.1] at s5
    refine r_iload_n dX8_takeMessages_143 rfl ?_
    refine r_aload_n dX8_takeMessages_144 rfl ?_
    refine r_getF kX8 (k := 0) (by decide) rfl fl_X8_12 (lay_ok hL rfl) (lay_r hL rfl) dX8_takeMessages_145 ?_
    refine r_getE (nI (gs g 1)) kX1 (k := 5) (by decide) rfl fl_X8_64 (lay_ok hL rfl) dX8_takeMessages_148 s5 ?_
    refine r_icmp_ge 192 dX8_takeMessages_151 (by decide) (fun _ => ?_) (fun hq => absurd (nI_le (Nat.le_refl _) (by omega)) hq)
    exact r_vret rfl dX8_takeMessages_192 ⟨rfl, hA, hL, hg⟩
  | succ k ih =>
    intro i N hi hL hA hb hg
    have s := sameT_takeP n g i
    have s5 := hA.1.2.1
    rw [s.1] at s5
    have v3 := (hA.2.1 i (by rw [s.1]; omega)).1
    rw [s.2.2.2.2.2.1 0 (by decide)] at v3
    have u5 := (bV i (by omega)).1
    have s7 := hA.1.2.2.2.1
    rw [s.1] at s7
    have hst : g_takeP n g (i + 1) = if ga g 0 i = n then g_settle (t_box g n) i (g_takeP n g i) else g_takeP n g i := rfl
    refine r_iload_n dX8_takeMessages_143 rfl ?_
    refine r_aload_n dX8_takeMessages_144 rfl ?_
    refine r_getF kX8 (k := 0) (by decide) rfl fl_X8_12 (lay_ok hL rfl) (lay_r hL rfl) dX8_takeMessages_145 ?_
    refine r_getE (nI (gs g 1)) kX1 (k := 5) (by decide) rfl fl_X8_64 (lay_ok hL rfl) dX8_takeMessages_148 s5 ?_
    refine r_icmp_ge 192 dX8_takeMessages_151 (by decide) (fun hq => absurd hq (nI_ge (by omega) (by omega))) (fun _ => ?_)
    refine r_aload_n dX8_takeMessages_154 rfl ?_
    refine r_getF kX8 (k := 0) (by decide) rfl fl_X8_12 (lay_ok hL rfl) (lay_r hL rfl) dX8_takeMessages_155 ?_
    refine r_getF kX1 (k := 0) (by decide) rfl fl_X8_214 (lay_ok hL rfl) (lay_r hL rfl) dX8_takeMessages_158 ?_
    refine r_iload_n dX8_takeMessages_161 rfl ?_
    refine r_ialdE (nI (ga g 0 i)) (lay_ok hL rfl) (by omega) (by omega) dX8_takeMessages_162 v3 ?_
    refine r_iload_n dX8_takeMessages_163 rfl ?_
    refine r_icmp_ne 186 dX8_takeMessages_164 (by decide) (fun c164 => ?_) (fun c164 => ?_)
    · refine r_iinc (nI (i + 1)) _ dX8_takeMessages_186 (by decide) rfl (nI_1 _) rfl ?_
      refine r_goto 143 dX8_takeMessages_189 (by decide) ?_
      first | exact ih (i + 1) N (by omega) hL (by rw [hst, if_neg (fun e => c164 (by rw [e]))]; exact hA) hb hg | exact ih (i + 1) _ (by omega) hL (by rw [hst, if_pos ((nI_eq (by omega) (by omega)).mp c164)]; exact hA1) hb1 hg1
    · refine r_aload_n dX8_takeMessages_167 rfl ?_
      refine r_getF kX8 (k := 3) (by decide) rfl fl_X8_31 (lay_ok hL rfl) (lay_r hL rfl) dX8_takeMessages_168 ?_
      refine r_aload_n dX8_takeMessages_171 rfl ?_
      refine r_getF kX8 (k := 0) (by decide) rfl fl_X8_12 (lay_ok hL rfl) (lay_r hL rfl) dX8_takeMessages_172 ?_
      refine r_getE (nI (gs g 3)) kX1 (k := 7) (by decide) rfl fl_X8_116 (lay_ok hL rfl) dX8_takeMessages_175 s7 ?_
      refine r_iload_n dX8_takeMessages_178 rfl ?_
      refine r_aload_n dX8_takeMessages_179 rfl ?_
      refine r_getF kX8 (k := 1) (by decide) rfl fl_X8_21 (lay_ok hL rfl) (lay_r hL rfl) dX8_takeMessages_180 ?_
      refine r_cV ca_yX2_settle ml_X8_288 im_yX2_settle se_yX2_settle (by decide) rfl (lay_ok hL rfl) (c_X2_settle hL (k := gs g 3) (v := i) (va := 8) (p := 9) (q := 10) (r := 11) (lay_ok hL rfl) (lay_r hL rfl) (lay_r hL rfl) (lay_r hL rfl) (lay_ok hL rfl) (lay_ok hL rfl) (lay_ok hL rfl) b4 (by omega) (by decide)) ⟨by decide, by decide⟩ (by first | decide | omega) (by first | decide | omega) rfl (Nat.le_of_ble_eq_true rfl) dX8_takeMessages_183 ?_
      have q := absX_settle hL.1 hA hb (v := i) (by rw [s.1]; omega) (by rw [s.1]; exact b2)
      rw [s.1] at q
      obtain ⟨hA1, hf⟩ := q
      have hb1 := BX.fr hf (by omega) (by omega) (by omega) hb
      have hg1 := hg.tr (hf.gr.wd (fun x _ e => by show x ≤ 92; omega))
      refine r_lay (hf.lay hL) (fun hL => ?_)
      refine r_iinc (nI (i + 1)) _ dX8_takeMessages_186 (by decide) rfl (nI_1 _) rfl ?_
      refine r_goto 143 dX8_takeMessages_189 (by decide) ?_
      first | exact ih (i + 1) N (by omega) hL (by rw [hst, if_neg (fun e => c164 (by rw [e]))]; exact hA) hb hg | exact ih (i + 1) _ (by omega) hL (by rw [hst, if_pos ((nI_eq (by omega) (by omega)).mp c164)]; exact hA1) hb1 hg1
set_option maxHeartbeats 4000000 in
set_option maxRecDepth 100000 in
theorem l2_X8_take {l : Launch} {X : Nat × (Nat → Int32)} {M : am_M} {g : tG} {n : Nat} (hB : gB g) (hn : n < gs g 0) : ∀ (k i : Nat) (N : am_M), i + k = gs g 0 → Lay N → absX N g → BX N (t_boxP g n i) → am_gr (fun x => x ≤ 92) M N → am_V l yX8_takeMessages cX8_takeMessages 4 none (am_R 4 0 0) 0 0 X (fun v' M' => v' = none ∧ absX M' (g_take n g) ∧ Lay M' ∧ am_gr (fun x => x ≤ 92) M M') 0 0 97 [some (.ref 1), some (.int (nI n)), some (.int (nI i))] [] N := by
  intro k
  obtain ⟨b0, b1, b2, b3, b4, b5, -, -, -, -, bV, bA, bN, -, -, bh⟩ := id hB
  have hn5 : n < 5 := by omega
  induction k with
  | zero =>
    intro i N hi hL hA hb hg
    obtain rfl : i = gs g 0 := by omega
    have s0 := hA.1.1
    refine r_iload_n dX8_takeMessages_97 rfl ?_
    refine r_aload_n dX8_takeMessages_98 rfl ?_
    refine r_getE (nI (gs g 0)) kX8 (k := 8) (by decide) rfl fl_X8_60 (lay_ok hL rfl) dX8_takeMessages_99 s0 ?_
    refine r_icmp_ge 141 dX8_takeMessages_102 (by decide) (fun _ => ?_) (fun hq => absurd (nI_le (Nat.le_refl _) (by omega)) hq)
    refine r_iconst (nI 0) dX8_takeMessages_141 (by decide) ?_
    refine r_istore_n _ dX8_takeMessages_142 (by decide) rfl ?_
    exact l3_X8_take hB hn (gs g 1) 0 N (by omega) hL hA hb hg
  | succ k ih =>
    intro i N hi hL hA hb hg
    have s0 := hA.1.1
    have s7 := hA.1.2.2.2.1
    have x4 := (hA.2.2.2.1 n hn5).1
    have hh : isO N (mR N (28 + 13 * n + 1) (ga g 4 n % 2 * 5 + i)) (gl g 0 n i) := (hA.2.2.2.2.2.1 n i 0 hn5 (by omega) (by omega)).1
    have hp4 : mI N (28 + 13 * n) 4 &&& 1 = nI (ga g 4 n % 2) := by rw [x4]; exact and1 (by have := (bN n hn5).1; omega)
    refine r_iload_n dX8_takeMessages_97 rfl ?_
    refine r_aload_n dX8_takeMessages_98 rfl ?_
    refine r_getE (nI (gs g 0)) kX8 (k := 8) (by decide) rfl fl_X8_60 (lay_ok hL rfl) dX8_takeMessages_99 s0 ?_
    refine r_icmp_ge 141 dX8_takeMessages_102 (by decide) (fun hq => absurd hq (nI_ge (by omega) (by omega))) (fun _ => ?_)
    refine r_aload_n dX8_takeMessages_105 rfl ?_
    refine r_getF kX8 (k := 6) (by decide) rfl fl_X8_51 (lay_ok hL rfl) (lay_r hL rfl) dX8_takeMessages_106 ?_
    refine r_iload_n dX8_takeMessages_109 rfl ?_
    refine r_aaldF (Or.inr rfl) (lay_ok hL rfl) (by omega) (by decide) (lay_r hL (rf_row hn5)) dX8_takeMessages_110 ?_
    refine r_iload_n dX8_takeMessages_111 rfl ?_
    refine r_cV ca_yX6_heldFrom ml_X8_281 im_yX6_heldFrom se_yX6_heldFrom (by decide) rfl (lay_ok hL (sh_n0 hn5)) (c_X6_heldFrom hL hn5 (p := ga g 4 n % 2) (q := i) hp4 (by omega) (by omega)) ⟨by decide, by decide⟩ (by first | decide | omega) (by first | decide | omega) rfl (Nat.le_of_ble_eq_true rfl) dX8_takeMessages_112 ?_
    refine r_astore_nq _ dX8_takeMessages_115 (by decide) rfl ?_
    refine r_aload_nq dX8_takeMessages_116 rfl ?_
    refine r_ifnull 135 dX8_takeMessages_117 (by decide) (fun c117 => ?_) (fun v117 c117 => ?_)
    · refine r_iinc (nI (i + 1)) _ dX8_takeMessages_135 (by decide) rfl (nI_1 _) rfl ?_
      refine r_goto 97 dX8_takeMessages_138 (by decide) ?_
      refine r_take 3 ?_
      first | exact ih (i + 1) _ (by omega) hL hA1 hb1 hg1 | exact ih (i + 1) N (by omega) hL hA (by rw [t_boxP_n (by rw [c117] at hh; cases e : gl g 0 n i with | none => rfl | some t => rw [e] at hh; exact hh.elim)]; exact hb) hg
    · obtain ⟨t, ht, hl⟩ : ∃ t, gl g 0 n i = some t ∧ isL N v117 t := by
        rw [c117] at hh
        cases e : gl g 0 n i with
        | none => rw [e] at hh; exact hh.elim
        | some t => rw [e] at hh; exact ⟨t, rfl, hh⟩
      have hok := bh 0 n i t ht
      obtain ⟨l1, l2, l3, l4, l5, l6, l7, p, q, r, m1, m2, m3, o1, o2, o3, p1, p2, p3, l8⟩ := id hl
      refine r_aload_n dX8_takeMessages_120 rfl ?_
      refine r_getF kX8 (k := 3) (by decide) rfl fl_X8_31 (lay_ok hL rfl) (lay_r hL rfl) dX8_takeMessages_121 ?_
      refine r_aload_n dX8_takeMessages_124 rfl ?_
      refine r_getF kX8 (k := 0) (by decide) rfl fl_X8_12 (lay_ok hL rfl) (lay_r hL rfl) dX8_takeMessages_125 ?_
      refine r_getE (nI (gs g 3)) kX1 (k := 7) (by decide) rfl fl_X8_116 (lay_ok hL rfl) dX8_takeMessages_128 s7 ?_
      refine r_aload_nq dX8_takeMessages_131 rfl ?_
      rw [c117]
      refine r_cV ca_yX2_putAll ml_X8_284 im_yX2_putAll se_yX2_putAll (by decide) rfl (lay_ok hL rfl) (c_X2_putAll hL l1 m1 m2 m3 o1 o2 o3 p1 p2 p3 hok.2.2.2.2.2.2.1 b4 (ev := fun j => (t.2.2.2.2.2[j]?.map (fun e => e.1)).getD 0) (ea := fun j => (t.2.2.2.2.2[j]?.map (fun e => e.2.2)).getD 0) (fun j hj => by obtain ⟨w1, w2, w3⟩ := l8 j _ (List.getElem?_eq_getElem hj); have w4 := hok.2.2.2.2.2.2.2 _ (List.getElem_mem hj); rw [List.getElem?_eq_getElem hj]; exact ⟨w1, by show (t.2.2.2.2.2[j]).1 < 16; omega, w3, w4.2⟩)) ⟨by decide, by decide⟩ (by first | decide | omega) (by first | decide | omega) rfl (Nat.le_of_ble_eq_true rfl) dX8_takeMessages_132 ?_
      have hf : am_fr s_box N (itr (fun j K => x_put K (gs g 3) ((t.2.2.2.2.2[j]?.map (fun e => e.1)).getD 0) (mI N q j) ((t.2.2.2.2.2[j]?.map (fun e => e.2.2)).getD 0)) t.2.2.2.2.2.length N) := am_fr.itr (fun j K => x_put_fr K _ _ _ _) _
      have hb1 := BX_putAll hb (k := gs g 3) (es := t.2.2.2.2.2) (ev := fun j => (t.2.2.2.2.2[j]?.map (fun e => e.1)).getD 0) (ea := fun j => (t.2.2.2.2.2[j]?.map (fun e => e.2.2)).getD 0) (f := mI N q) (fun j e he => by have w4 := hok.2.2.2.2.2.2.2 e (List.mem_of_getElem? he); obtain ⟨w1, w2, w3⟩ := l8 j e he; rw [he]; exact ⟨rfl, w2, rfl, by omega, w4.2⟩) t.2.2.2.2.2.length (Nat.le_refl _)
      rw [List.take_length, ← t_boxP_s ht] at hb1
      have hA1 : absX _ g := hA.gr hf.gr hL.1 (fun x _ e => by rcases e with e | e | e <;> omega)
      have hg1 := hg.tr (hf.gr.wd (fun x _ e => by show x ≤ 92; rcases e with e | e | e <;> omega))
      refine r_lay (hf.lay hL) (fun hL => ?_)
      refine r_iinc (nI (i + 1)) _ dX8_takeMessages_135 (by decide) rfl (nI_1 _) rfl ?_
      refine r_goto 97 dX8_takeMessages_138 (by decide) ?_
      refine r_take 3 ?_
      first | exact ih (i + 1) _ (by omega) hL hA1 hb1 hg1 | exact ih (i + 1) N (by omega) hL hA (by rw [t_boxP_n (by rw [c117] at hh; cases e : gl g 0 n i with | none => rfl | some t => rw [e] at hh; exact hh.elim)]; exact hb) hg
set_option maxHeartbeats 4000000 in
set_option maxRecDepth 100000 in
theorem l1_X8_take {l : Launch} {X : Nat × (Nat → Int32)} {M : am_M} {g : tG} {n : Nat} (hB : gB g) (hn : n < gs g 0) : ∀ (k i : Nat) (N : am_M), i + k = gs g 2 → Lay N → absX N g → BX N (t_locP g n i) → am_gr (fun x => x ≤ 92) M N → am_V l yX8_takeMessages cX8_takeMessages 4 none (am_R 4 0 0) 0 0 X (fun v' M' => v' = none ∧ absX M' (g_take n g) ∧ Lay M' ∧ am_gr (fun x => x ≤ 92) M M') 0 0 9 [some (.ref 1), some (.int (nI n)), some (.int (nI i))] [] N := by
  intro k
  obtain ⟨b0, b1, b2, b3, b4, b5, -, -, -, -, bV, bA, bN, -, -, bh⟩ := id hB
  have hn5 : n < 5 := by omega
  induction k with
  | zero =>
    intro i N hi hL hA hb hg
    obtain rfl : i = gs g 2 := by omega
    have s6 := hA.1.2.2.1
    refine r_iload_n dX8_takeMessages_9 rfl ?_
    refine r_aload_n dX8_takeMessages_10 rfl ?_
    refine r_getF kX8 (k := 0) (by decide) rfl fl_X8_12 (lay_ok hL rfl) (lay_r hL rfl) dX8_takeMessages_11 ?_
    refine r_getE (nI (gs g 2)) kX1 (k := 6) (by decide) rfl fl_X8_109 (lay_ok hL rfl) dX8_takeMessages_14 s6 ?_
    refine r_icmp_ge 95 dX8_takeMessages_17 (by decide) (fun _ => ?_) (fun hq => absurd (nI_le (Nat.le_refl _) (by omega)) hq)
    refine r_iconst (nI 0) dX8_takeMessages_95 (by decide) ?_
    refine r_istore_n _ dX8_takeMessages_96 (by decide) rfl ?_
    exact l2_X8_take hB hn (gs g 0) 0 N (by omega) hL hA hb hg
  | succ k ih =>
    intro i N hi hL hA hb hg
    have s6 := hA.1.2.2.1
    have s7 := hA.1.2.2.2.1
    obtain ⟨a5, a6, a7⟩ := hA.2.2.1 i (by omega)
    obtain ⟨w1, w2⟩ := bA i (by omega)
    have vt := (hA.2.1 _ w1).1
    have vh := (hA.2.1 _ w2).1
    have v9 := (hA.2.1 _ w1).2.2.1
    have v11 := (hA.2.1 _ w1).2.2.2.2
    have q1 := (bV _ w1).1
    have q2 := (bV _ w2).1
    have q3 := (bV _ w1).2
    have hst : t_locP g n (i + 1) = if ga g 0 (ga g 2 i) = n ∧ ga g 0 (ga g 3 i) = n ∧ ga g 1 (ga g 2 i) = 1 then t_hear (gs g 3) (t_locP g n i) (ga g 3 i) (t_msg (gs g 3) (gi g 1 (ga g 2 i)) (gi g 3 i)) i else t_locP g n i := rfl
    refine r_iload_n dX8_takeMessages_9 rfl ?_
    refine r_aload_n dX8_takeMessages_10 rfl ?_
    refine r_getF kX8 (k := 0) (by decide) rfl fl_X8_12 (lay_ok hL rfl) (lay_r hL rfl) dX8_takeMessages_11 ?_
    refine r_getE (nI (gs g 2)) kX1 (k := 6) (by decide) rfl fl_X8_109 (lay_ok hL rfl) dX8_takeMessages_14 s6 ?_
    refine r_icmp_ge 95 dX8_takeMessages_17 (by decide) (fun hq => absurd hq (nI_ge (by omega) (by omega))) (fun _ => ?_)
    refine r_aload_n dX8_takeMessages_20 rfl ?_
    refine r_getF kX8 (k := 0) (by decide) rfl fl_X8_12 (lay_ok hL rfl) (lay_r hL rfl) dX8_takeMessages_21 ?_
    refine r_iload_n dX8_takeMessages_24 rfl ?_
    refine r_iload_n dX8_takeMessages_25 rfl ?_
    refine r_iload_n dX8_takeMessages_26 rfl ?_
    refine r_cV ca_yX1_leads ml_X8_261 im_yX1_leads se_yX1_leads (by decide) rfl (lay_ok hL rfl) (c_X1_leads hL (a := i) (n := n) (o := n) (t := ga g 2 i) (h := ga g 3 i) (by omega) a5 (by omega) a6 (by omega)) ⟨by decide, by decide⟩ (by first | decide | omega) (by first | decide | omega) rfl (Nat.le_of_ble_eq_true rfl) dX8_takeMessages_27 ?_
    refine r_top (if ga g 0 (ga g 2 i) = n ∧ ga g 0 (ga g 3 i) = n then 1 else 0) (by rw [vt, vh]; have z1 := nI_eq (a := ga g 0 (ga g 2 i)) (b := n) (by omega) (by omega); have z2 := nI_eq (a := ga g 0 (ga g 3 i)) (b := n) (by omega) (by omega); by_cases x1 : ga g 0 (ga g 2 i) = n <;> by_cases x2 : ga g 0 (ga g 3 i) = n <;> simp [z1, z2, x1, x2]) ?_
    refine r_if_eq 89 dX8_takeMessages_30 (by decide) (fun c30 => ?_) (fun c30 => ?_)
    · refine r_iinc (nI (i + 1)) _ dX8_takeMessages_89 (by decide) rfl (nI_1 _) rfl ?_
      refine r_goto 9 dX8_takeMessages_92 (by decide) ?_
      exact ih (i + 1) N (by omega) hL hA (by rw [hst, if_neg (fun z => absurd c30 (by rw [if_pos ⟨z.1, z.2.1⟩]; decide))]; exact hb) hg
    · refine r_aload_n dX8_takeMessages_33 rfl ?_
      refine r_getF kX8 (k := 1) (by decide) rfl fl_X8_21 (lay_ok hL rfl) (lay_r hL rfl) dX8_takeMessages_34 ?_
      refine r_getF kX7 (k := 2) (by decide) rfl fl_X8_265 (lay_ok hL rfl) (lay_r hL rfl) dX8_takeMessages_37 ?_
      refine r_aload_n dX8_takeMessages_40 rfl ?_
      refine r_getF kX8 (k := 0) (by decide) rfl fl_X8_12 (lay_ok hL rfl) (lay_r hL rfl) dX8_takeMessages_41 ?_
      refine r_getF kX1 (k := 2) (by decide) rfl fl_X8_268 (lay_ok hL rfl) (lay_r hL rfl) dX8_takeMessages_44 ?_
      refine r_iload_n dX8_takeMessages_47 rfl ?_
      refine r_ialdE (nI (ga g 2 i)) (lay_ok hL rfl) (by omega) (by omega) dX8_takeMessages_48 a5 ?_
      refine r_zaldE (nI (ga g 1 (ga g 2 i))) (lay_ok hL rfl) (by omega) (by omega) dX8_takeMessages_49 v11 ?_
      refine r_if_eq 89 dX8_takeMessages_50 (by decide) (fun c50 => ?_) (fun c50 => ?_)
      · refine r_iinc (nI (i + 1)) _ dX8_takeMessages_89 (by decide) rfl (nI_1 _) rfl ?_
        refine r_goto 9 dX8_takeMessages_92 (by decide) ?_
        exact ih (i + 1) N (by omega) hL hA (by rw [hst, if_neg (fun z => absurd c50 (by rw [z.2.2]; decide))]; exact hb) hg
      · refine r_aload_n dX8_takeMessages_53 rfl ?_
        refine r_getF kX8 (k := 3) (by decide) rfl fl_X8_31 (lay_ok hL rfl) (lay_r hL rfl) dX8_takeMessages_54 ?_
        refine r_aload_n dX8_takeMessages_57 rfl ?_
        refine r_getF kX8 (k := 0) (by decide) rfl fl_X8_12 (lay_ok hL rfl) (lay_r hL rfl) dX8_takeMessages_58 ?_
        refine r_getE (nI (gs g 3)) kX1 (k := 7) (by decide) rfl fl_X8_116 (lay_ok hL rfl) dX8_takeMessages_61 s7 ?_
        refine r_aload_n dX8_takeMessages_64 rfl ?_
        refine r_getF kX8 (k := 0) (by decide) rfl fl_X8_12 (lay_ok hL rfl) (lay_r hL rfl) dX8_takeMessages_65 ?_
        refine r_getF kX1 (k := 3) (by decide) rfl fl_X8_271 (lay_ok hL rfl) (lay_r hL rfl) dX8_takeMessages_68 ?_
        refine r_iload_n dX8_takeMessages_71 rfl ?_
        refine r_ialdE (nI (ga g 3 i)) (lay_ok hL rfl) (by omega) (by omega) dX8_takeMessages_72 a6 ?_
        refine r_aload_n dX8_takeMessages_73 rfl ?_
        refine r_getF kX8 (k := 0) (by decide) rfl fl_X8_12 (lay_ok hL rfl) (lay_r hL rfl) dX8_takeMessages_74 ?_
        refine r_iload_n dX8_takeMessages_77 rfl ?_
        refine r_aload_n dX8_takeMessages_78 rfl ?_
        refine r_getF kX8 (k := 1) (by decide) rfl fl_X8_21 (lay_ok hL rfl) (lay_r hL rfl) dX8_takeMessages_79 ?_
        refine r_cV ca_yX1_message ml_X8_274 im_yX1_message se_yX1_message (by decide) rfl (lay_ok hL rfl) (c_X1_message hL (va := 8) (p := 9) (q := 10) (r := 11) (lay_ok hL rfl) (lay_r hL rfl) (lay_r hL rfl) (lay_r hL rfl) (lay_ok hL rfl) (lay_ok hL rfl) (lay_ok hL rfl) (a := i) (t := ga g 2 i) (k := gs g 3) (by omega) a5 (by omega) s7 b4) ⟨by decide, by decide⟩ (by first | decide | omega) (by first | decide | omega) rfl (Nat.le_of_ble_eq_true rfl) dX8_takeMessages_82 ?_
        refine r_top (t_msg (gs g 3) (gi g 1 (ga g 2 i)) (gi g 3 i)) (by rw [v9, a7]) ?_
        refine r_iload_n dX8_takeMessages_85 rfl ?_
        refine r_cV ca_yX2_put ml_X8_277 im_yX2_put se_yX2_put (by decide) rfl (lay_ok hL rfl) (c_X2_put hL b4 (v := ga g 3 i) (a := i) (by omega)) ⟨by decide, by decide⟩ (by first | decide | omega) (by first | decide | omega) rfl (Nat.le_of_ble_eq_true rfl) dX8_takeMessages_86 ?_
        have hf := x_put_fr N (gs g 3) (ga g 3 i) (t_msg (gs g 3) (gi g 1 (ga g 2 i)) (gi g 3 i)) i
        have hb1 := BX_put hb (k := gs g 3) (v := ga g 3 i) (m := t_msg (gs g 3) (gi g 1 (ga g 2 i)) (gi g 3 i)) (a := i) (by omega) (by omega)
        have hA1 : absX _ g := hA.gr hf.gr hL.1 (fun x _ e => by rcases e with e | e | e <;> omega)
        have hg1 := hg.tr (hf.gr.wd (fun x _ e => by show x ≤ 92; rcases e with e | e | e <;> omega))
        refine r_lay (hf.lay hL) (fun hL => ?_)
        refine r_iinc (nI (i + 1)) _ dX8_takeMessages_89 (by decide) rfl (nI_1 _) rfl ?_
        refine r_goto 9 dX8_takeMessages_92 (by decide) ?_
        have y1 : ga g 0 (ga g 2 i) = n ∧ ga g 0 (ga g 3 i) = n := Classical.byContradiction (fun y => c30 (if_neg y))
        have y2 : ga g 1 (ga g 2 i) = 1 := by
          rcases (show ga g 1 (ga g 2 i) = 0 ∨ ga g 1 (ga g 2 i) = 1 by omega) with e | e
          · exact absurd (by rw [e]; rfl) c50
          · exact e
        exact ih (i + 1) _ (by omega) hL hA1 (by rw [hst, if_pos ⟨y1.1, y1.2, y2⟩]; exact hb1) hg1
set_option maxHeartbeats 4000000 in
set_option maxRecDepth 100000 in
theorem c_X8_takeMessages {l : Launch} {X : Nat × (Nat → Int32)} {M : am_M} (hL : Lay M) {g : tG} {n : Nat} (hB : gB g) (hn : n < gs g 0) (hX : absX M g) : am_C l yX8_takeMessages cX8_takeMessages 4 none 4 0 0 X [.ref 1, .int (nI n)] M (fun v' M' => v' = none ∧ absX M' (g_take n g) ∧ Lay M' ∧ am_gr (fun x => x ≤ 92) M M') := by
  refine am_C.of (by decide) (by simp [Value.category, va_rf]) (Nat.le_of_ble_eq_true rfl) ?_
  refine r_aload_n dX8_takeMessages_0 rfl ?_
  refine r_getF kX8 (k := 3) (by decide) rfl fl_X8_31 (lay_ok hL rfl) (lay_r hL rfl) dX8_takeMessages_1 ?_
  refine r_cV ca_yX2_clear ml_X8_260 im_yX2_clear se_yX2_clear (by decide) rfl (lay_ok hL rfl) (c_X2_clear hL) ⟨by decide, by decide⟩ (by first | decide | omega) (by first | decide | omega) rfl (Nat.le_of_ble_eq_true rfl) dX8_takeMessages_4 ?_
  have g0 : am_gr (fun x => x = 17) M (wF M 17 (fl (mI M 17) 16 0)) := am_gr.wF _ rfl
  have hb0 := BX_clear M
  have hA0 : absX _ g := hX.gr g0 hL.1 (fun x _ (e : x = 17) => by omega)
  refine r_lay (lay_wF hL _ _) (fun hL => ?_)
  refine r_iconst (nI 0) dX8_takeMessages_7 (by decide) ?_
  refine r_istore_n _ dX8_takeMessages_8 (by decide) rfl ?_
  exact l1_X8_take hB hn (gs g 2) 0 _ (by omega) hL hA0 hb0 (g0.wd (fun x _ (e : x = 17) => by show x ≤ 92; omega))
