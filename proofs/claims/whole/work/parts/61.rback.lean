/-! THE REFERENCE GOES BACK, MOVES -/
set_option maxHeartbeats 4000000 in
set_option maxRecDepth 100000 in
theorem l_X9_isMarked {l : Launch} {X : Nat × (Nat → Int32)} {M : am_M} (hL : Lay M) {g : tG} {m : Nat} (hA : absM M g) (hB : gB g) (hM : gMB g) (hm : m ≤ 199) : ∀ (k i b : Nat), i + k = gs g 0 → ((b = 1 ∧ ∀ n, n < i → (gm g n 1 = some m ∨ gm g n 0 = some m)) ∨ (b = 0 ∧ ¬ ∀ n, n < i → (gm g n 1 = some m ∨ gm g n 0 = some m))) → am_V l yX9_isMarked cX9_isMarked 4 (some .boolean) (am_R 1 0 0) 0 0 X (fun v M' => M' = M ∧ ((v = some (.int 1) ∧ t_allM g (some m)) ∨ (v = some (.int 0) ∧ ¬ t_allM g (some m)))) 0 0 12 [some (.ref 93), some (.int (nI m)), some (.int (nI b)), some (.int (nI i))] [] M := by
  intro k
  have b1 := hB.2.1
  induction k with
  | zero =>
    intro i b hi hb
    obtain rfl : i = gs g 0 := by omega
    have hp : (some (Value.int (nI b)) = some (.int 1) ∧ t_allM g (some m)) ∨ (some (Value.int (nI b)) = some (.int 0) ∧ ¬ t_allM g (some m)) := by
      rcases hb with ⟨rfl, h⟩ | ⟨rfl, h⟩
      · exact Or.inl ⟨rfl, h⟩
      · exact Or.inr ⟨rfl, h⟩
    have hbb : nI b = 0 ∨ nI b = 1 := by rcases hb with ⟨rfl, -⟩ | ⟨rfl, -⟩; exact Or.inr rfl; exact Or.inl rfl
    refine r_iload_n dX9_isMarked_12 rfl ?_
    refine r_aload_n dX9_isMarked_13 rfl ?_
    refine r_getE (nI (gs g 0)) kX9 (k := 0) (by decide) rfl fl_X9_7 (lay_ok hL rfl) dX9_isMarked_14 hA.1.1 ?_
    refine r_icmp_ge 45 dX9_isMarked_17 (by decide) (fun _ => ?_) (fun hq => absurd (nI_le (Nat.le_refl _) (by omega)) hq)
    refine r_iload_n dX9_isMarked_45 rfl ?_
    exact r_iret (Or.inr ⟨rfl, hbb⟩) dX9_isMarked_46 ⟨rfl, hp⟩
  | succ k ih =>
    intro i b hi hb
    rcases hb with ⟨rfl, h⟩ | ⟨rfl, h⟩
    · have z1 := (hA.2.2.2.2.2.2.1 i 1 (by omega) (by decide)).1
      have z0 := (hA.2.2.2.2.2.2.1 i 0 (by omega) (by decide)).1
      have e1 : mI M 115 (2 * i + 1) = nI m ↔ gm g i 1 = some m := by
        rw [z1]
        exact ⟨fun z => mkI_inj (hM i 1) (fun q hq => by cases hq; exact hm) z, fun z => by rw [z]; rfl⟩
      have e0 : mI M 115 (2 * i) = nI m ↔ gm g i 0 = some m := by
        rw [show mI M 115 (2 * i) = mkI (gm g i 0) from z0]
        exact ⟨fun z => mkI_inj (hM i 0) (fun q hq => by cases hq; exact hm) z, fun z => by rw [z]; rfl⟩
      by_cases c : gm g i 1 = some m ∨ gm g i 0 = some m
      · have ec : (if mI M 115 (2 * i + 1) = nI m ∨ mI M 115 (2 * i) = nI m then (1 : Int32) else 0) = 1 := if_pos (by rw [e1, e0]; exact c)
        have q := ih (i + 1) 1 (by omega) (Or.inl ⟨rfl, fun n hn => by by_cases d : n = i; rw [d]; exact c; exact h n (by omega)⟩)
        refine r_iload_n dX9_isMarked_12 rfl ?_
        refine r_aload_n dX9_isMarked_13 rfl ?_
        refine r_getE (nI (gs g 0)) kX9 (k := 0) (by decide) rfl fl_X9_7 (lay_ok hL rfl) dX9_isMarked_14 hA.1.1 ?_
        refine r_icmp_ge 45 dX9_isMarked_17 (by decide) (fun hq => absurd hq (nI_ge (by omega) (by omega))) (fun _ => ?_)
        refine r_iload_n dX9_isMarked_20 rfl ?_
        refine r_if_eq 37 dX9_isMarked_21 (by decide) (fun hq => absurd hq (by decide)) (fun _ => ?_)
        refine r_aload_n dX9_isMarked_24 rfl ?_
        refine r_iload_n dX9_isMarked_25 rfl ?_
        refine r_iload_n dX9_isMarked_26 rfl ?_
        refine r_cV ca_yX9_hasMark ml_X9_225 im_yX9_hasMark se_yX9_hasMark (by decide) rfl (lay_ok hL rfl) (c_X9_hasMark hL (by omega)) ⟨by decide, by decide⟩ (by first | decide | omega) (by first | decide | omega) rfl (Nat.le_of_ble_eq_true rfl) dX9_isMarked_27 ?_
        refine r_top 1 ec ?_
        refine r_if_eq 37 dX9_isMarked_30 (by decide) (fun hq => absurd hq (by decide)) (fun _ => ?_)
        refine r_iconst (1) dX9_isMarked_33 (by decide) ?_
        refine r_goto 38 dX9_isMarked_34 (by decide) ?_
        refine r_istore_n _ dX9_isMarked_38 (by decide) rfl ?_
        refine r_iinc (nI (i + 1)) _ dX9_isMarked_39 (by decide) rfl (nI_1 _) rfl ?_
        refine r_goto 12 dX9_isMarked_42 (by decide) ?_
        exact q
      · have ec : (if mI M 115 (2 * i + 1) = nI m ∨ mI M 115 (2 * i) = nI m then (1 : Int32) else 0) = 0 := if_neg (by rw [e1, e0]; exact c)
        have q := ih (i + 1) 0 (by omega) (Or.inr ⟨rfl, fun z => c (z i (by omega))⟩)
        refine r_iload_n dX9_isMarked_12 rfl ?_
        refine r_aload_n dX9_isMarked_13 rfl ?_
        refine r_getE (nI (gs g 0)) kX9 (k := 0) (by decide) rfl fl_X9_7 (lay_ok hL rfl) dX9_isMarked_14 hA.1.1 ?_
        refine r_icmp_ge 45 dX9_isMarked_17 (by decide) (fun hq => absurd hq (nI_ge (by omega) (by omega))) (fun _ => ?_)
        refine r_iload_n dX9_isMarked_20 rfl ?_
        refine r_if_eq 37 dX9_isMarked_21 (by decide) (fun hq => absurd hq (by decide)) (fun _ => ?_)
        refine r_aload_n dX9_isMarked_24 rfl ?_
        refine r_iload_n dX9_isMarked_25 rfl ?_
        refine r_iload_n dX9_isMarked_26 rfl ?_
        refine r_cV ca_yX9_hasMark ml_X9_225 im_yX9_hasMark se_yX9_hasMark (by decide) rfl (lay_ok hL rfl) (c_X9_hasMark hL (by omega)) ⟨by decide, by decide⟩ (by first | decide | omega) (by first | decide | omega) rfl (Nat.le_of_ble_eq_true rfl) dX9_isMarked_27 ?_
        refine r_top 0 ec ?_
        refine r_if_eq 37 dX9_isMarked_30 (by decide) (fun _ => ?_) (fun hq => absurd (by decide) hq)
        refine r_iconst (0) dX9_isMarked_37 (by decide) ?_
        refine r_istore_n _ dX9_isMarked_38 (by decide) rfl ?_
        refine r_iinc (nI (i + 1)) _ dX9_isMarked_39 (by decide) rfl (nI_1 _) rfl ?_
        refine r_goto 12 dX9_isMarked_42 (by decide) ?_
        exact q
    · have q := ih (i + 1) 0 (by omega) (Or.inr ⟨rfl, fun z => h (fun n hn => z n (by omega))⟩)
      refine r_iload_n dX9_isMarked_12 rfl ?_
      refine r_aload_n dX9_isMarked_13 rfl ?_
      refine r_getE (nI (gs g 0)) kX9 (k := 0) (by decide) rfl fl_X9_7 (lay_ok hL rfl) dX9_isMarked_14 hA.1.1 ?_
      refine r_icmp_ge 45 dX9_isMarked_17 (by decide) (fun hq => absurd hq (nI_ge (by omega) (by omega))) (fun _ => ?_)
      refine r_iload_n dX9_isMarked_20 rfl ?_
      refine r_if_eq 37 dX9_isMarked_21 (by decide) (fun _ => ?_) (fun hq => absurd rfl hq)
      refine r_iconst (0) dX9_isMarked_37 (by decide) ?_
      refine r_istore_n _ dX9_isMarked_38 (by decide) rfl ?_
      refine r_iinc (nI (i + 1)) _ dX9_isMarked_39 (by decide) rfl (nI_1 _) rfl ?_
      refine r_goto 12 dX9_isMarked_42 (by decide) ?_
      exact q
set_option maxHeartbeats 4000000 in
set_option maxRecDepth 100000 in
theorem c_X9_isMarked {l : Launch} {X : Nat × (Nat → Int32)} {M : am_M} (hL : Lay M) {g : tG} {m : Nat} (hA : absM M g) (hB : gB g) (hM : gMB g) (hm : m ≤ 199) : am_C l yX9_isMarked cX9_isMarked 4 (some .boolean) 1 0 0 X [.ref 93, .int (nI m)] M (fun v M' => M' = M ∧ ((v = some (.int 1) ∧ t_allM g (some m)) ∨ (v = some (.int 0) ∧ ¬ t_allM g (some m)))) := by
  refine am_C.of (by decide) (by simp [Value.category, va_rf]) (Nat.le_of_ble_eq_true rfl) ?_
  refine r_iload_n dX9_isMarked_0 rfl ?_
  refine r_if_lt 8 dX9_isMarked_1 (by decide) (fun hq => absurd hq (nI_pos (by omega))) (fun _ => ?_)
  refine r_iconst (1) dX9_isMarked_4 (by decide) ?_
  refine r_goto 9 dX9_isMarked_5 (by decide) ?_
  refine r_istore_n _ dX9_isMarked_9 (by decide) rfl ?_
  refine r_iconst (nI 0) dX9_isMarked_10 (by decide) ?_
  refine r_istore_n _ dX9_isMarked_11 (by decide) rfl ?_
  exact l_X9_isMarked hL hA hB hM hm (gs g 0) 0 1 (by omega) (Or.inl ⟨rfl, fun n hn => absurd hn (by omega)⟩)
theorem gB_backM {g : tG} (hB : gB g) (n m : Nat) : gB (g_backM n m g) := by
  unfold g_backM
  split
  · exact hB
  · exact hB
theorem gB_res {h : tG} {n : Nat} (hB : gB h) (hv : ∀ v, v < gs h 1 → (gv h n 1 v).2.2 ≤ 1) (i : Nat) (hi : i ≤ gs h 1) : gB (resP n h i) := by
  obtain ⟨r1, r2, r3, r4, r5, r6, r7⟩ := resP_f n h i
  obtain ⟨b0, b1, b2, b3, b4, b5, b6, b7, b8, b9, bV, bA, bN, bl, bn, bh⟩ := hB
  unfold gB okL
  rw [r1, r2, r3]
  refine ⟨b0, b1, b2, b3, b4, b5, b6, b7, b8, b9, fun v hv' => ?_, fun a ha => ?_, fun m hm => ?_, bl, bn, bh⟩
  · rw [r6, if_neg (by omega), r6]
    refine ⟨(bV v hv').1, ?_⟩
    split
    · exact hv v hv'
    · exact (bV v hv').2
  · rw [r6, if_neg (by omega), r6, if_neg (by omega)]
    exact bA a ha
  · rw [r6, if_neg (by omega), r6, if_neg (by omega), r6, if_neg (by omega)]
    exact bN m hm
set_option maxHeartbeats 4000000 in
set_option maxRecDepth 100000 in
theorem l2_X9_goBack {l : Launch} {X : Nat × (Nat → Int32)} {M : am_M} {g h : tG} {n m : Nat} (hBg : gB g) (eh : h = g_backM n m g) (hB : gB h) (hn : n < 5) (hm : m ≤ 199) (hmk : gm h n 1 = some m) (hv1 : ∀ v, v < gs h 1 → (gv h n 1 v).2.2 ≤ 1) : ∀ (k i : Nat) (N : am_M), i + k = gs h 1 → Lay N → absM N (resP n h i) → am_fr rS M N → am_V l yX9_goBack cX9_goBack 5 (none) (am_R 1 0 0) 0 0 X (fun v M' => v = none ∧ absM M' (g_back1 n m g) ∧ Lay M' ∧ am_fr rS M M') 0 0 63 [some (.ref 93), some (.int (nI n)), some (.int (nI m)), some (.int (nI i))] [] N := by
  intro k
  have b2 := hB.2.2.1
  have b1 := hB.2.1
  have eg : gs h 1 = gs g 1 := by rw [eh, (backM_f n m g).1]
  induction k with
  | zero =>
    intro i N hi hL hA hf
    obtain rfl : i = gs h 1 := by omega
    have s1 := hA.1.2.1
    rw [(resP_f n h (gs h 1)).1] at s1
    have hA1 := absM_node hL.1 hA hn 4 m (by omega)
    have hA2 := absM_node (M := wI N (98 + 4) n (nI m)) hL.1 hA1 hn 6 0 (by omega)
    have hA3 := absM_node (M := wI (wI N (98 + 4) n (nI m)) (98 + 6) n (nI 0)) hL.1 hA2 hn 5 0 (by omega)
    have hBr : gB (g_back1 n m g) := gB_back1 hBg (by omega) (by rw [← eh, ← eg]; exact hv1)
    have eb : g_back1 n m g = g_forget n (ua (ua (ua (resP n h (gs h 1)) 4 n m) 6 n 0) 5 n 0) := by
      rw [ua_comm (ua (resP n h (gs h 1)) 4 n m) 6 5 n n 0 0 (by decide), eh, (backM_f n m g).1]
      rfl
    have hB3 : gB (ua (ua (ua (resP n h (gs h 1)) 4 n m) 6 n 0) 5 n 0) := gB_ua (gB_ua (gB_ua4 (gB_res hB hv1 (gs h 1) (Nat.le_refl _)) n (by omega)) n (Or.inr rfl) (by decide)) n (Or.inl rfl) (by decide)
    have hA4 := absM_forget (M := wI (wI (wI N (98 + 4) n (nI m)) (98 + 6) n (nI 0)) (98 + 5) n (nI 0)) hL.1 hB3 hA3 hn
    rw [← eb] at hA4
    refine r_iload_n dX9_goBack_63 rfl ?_
    refine r_aload_n dX9_goBack_64 rfl ?_
    refine r_getE (nI (gs h 1)) kX9 (k := 1) (by decide) rfl fl_X9_115 (lay_ok hL rfl) dX9_goBack_65 s1 ?_
    refine r_icmp_ge 138 dX9_goBack_68 (by decide) (fun _ => ?_) (fun hq => absurd (nI_le (Nat.le_refl _) (by omega)) hq)
    refine r_aload_n dX9_goBack_138 rfl ?_
    refine r_getF kX9 (k := 15) (by decide) rfl fl_X9_39 (lay_ok hL rfl) (lay_r hL rfl) dX9_goBack_139 ?_
    refine r_iload_n dX9_goBack_142 rfl ?_
    refine r_iload_n dX9_goBack_143 rfl ?_
    refine r_iastN (lay_ok hL rfl) (by omega) (by decide) dX9_goBack_144 ?_
    refine r_lay (lay_wI hL _ _ _) (fun hL => ?_)
    refine r_aload_n dX9_goBack_145 rfl ?_
    refine r_getF kX9 (k := 17) (by decide) rfl fl_X9_45 (lay_ok hL rfl) (lay_r hL rfl) dX9_goBack_146 ?_
    refine r_iload_n dX9_goBack_149 rfl ?_
    refine r_iconst (0) dX9_goBack_150 (by decide) ?_
    refine r_zastN (lay_ok hL rfl) (by omega) (by decide) (by decide) dX9_goBack_151 ?_
    refine r_lay (lay_wI hL _ _ _) (fun hL => ?_)
    refine r_aload_n dX9_goBack_152 rfl ?_
    refine r_getF kX9 (k := 16) (by decide) rfl fl_X9_42 (lay_ok hL rfl) (lay_r hL rfl) dX9_goBack_153 ?_
    refine r_iload_n dX9_goBack_156 rfl ?_
    refine r_iconst (0) dX9_goBack_157 (by decide) ?_
    refine r_zastN (lay_ok hL rfl) (by omega) (by decide) (by decide) dX9_goBack_158 ?_
    refine r_lay (lay_wI hL _ _ _) (fun hL => ?_)
    refine r_aload_n dX9_goBack_159 rfl ?_
    refine r_iload_n dX9_goBack_160 rfl ?_
    refine r_cV ca_yX9_forget ml_X9_222 im_yX9_forget se_yX9_forget (by decide) rfl (lay_ok hL rfl) (c_X9_forget hL hn) ⟨by decide, by decide⟩ (by first | decide | omega) (by first | decide | omega) rfl (Nat.le_of_ble_eq_true rfl) dX9_goBack_161 ?_
    refine r_lay (lay_wF hL _ _) (fun hL => ?_)
    exact r_vret rfl dX9_goBack_164 ⟨rfl, hA4, hL, hf.tr ((((am_fr.wI _ _ ⟨by decide, by decide⟩).tr (am_fr.wI _ _ ⟨by decide, by decide⟩)).tr (am_fr.wI _ _ ⟨by decide, by decide⟩)).tr (am_fr.wF _ ⟨by decide, by decide⟩))⟩
  | succ k ih =>
    intro i N hi hL hA hf
    obtain ⟨r1, r2, r3, r4, r5, r6, r7⟩ := resP_f n h i
    have s1 := hA.1.2.1
    rw [r1] at s1
    have v4 := (hA.2.1 i (by rw [r1]; omega)).2.2.2.2
    rw [r6, if_neg (by omega)] at v4
    have w1 := (hB.2.2.2.2.2.2.2.2.2.2.1 i (by omega)).1
    have es : resP n h (i + 1) = g_restore n i (resP n h i) := rfl
    have hk := (hA.2.2.2.2.2.2.1 n 1 hn (by decide)).2 (by rw [r4, hmk]; exact fun z => by cases z) i (by rw [r1]; omega)
    rw [r5] at hk
    obtain ⟨k1, k2, k3⟩ := hk
    have hb1 := hv1 i (by omega)
    have h0 : ga (resP n h i) 0 i = ga h 0 i := by rw [r6, if_neg (by omega)]
    by_cases cn : ga h 0 i = n
    · have hA2 := absM_res (n := n) (v := i) hL.1 hA (by rw [r1]; omega) (by rw [h0]; exact cn)
      rw [r5] at hA2
      refine r_iload_n dX9_goBack_63 rfl ?_
      refine r_aload_n dX9_goBack_64 rfl ?_
      refine r_getE (nI (gs h 1)) kX9 (k := 1) (by decide) rfl fl_X9_115 (lay_ok hL rfl) dX9_goBack_65 s1 ?_
      refine r_icmp_ge 138 dX9_goBack_68 (by decide) (fun hq => absurd hq (nI_ge (by omega) (by omega))) (fun _ => ?_)
      refine r_aload_n dX9_goBack_71 rfl ?_
      refine r_getF kX9 (k := 11) (by decide) rfl fl_X9_27 (lay_ok hL rfl) (lay_r hL rfl) dX9_goBack_72 ?_
      refine r_iload_n dX9_goBack_75 rfl ?_
      refine r_ialdE (nI (ga h 0 i)) (lay_ok hL rfl) (by omega) (by omega) dX9_goBack_76 v4 ?_
      refine r_iload_n dX9_goBack_77 rfl ?_
      refine r_icmp_ne 132 dX9_goBack_78 (by decide) (fun hq => absurd (by rw [cn]) hq) (fun _ => ?_)
      refine r_bipush (nI 16) dX9_goBack_81 (by decide) ?_
      refine r_iconst (nI 2) dX9_goBack_83 (by decide) ?_
      refine r_iload_n dX9_goBack_84 rfl ?_
      refine r_imul dX9_goBack_85 ?_
      refine r_top (nI (2 * n)) (nI_mul _ _) ?_
      refine r_iconst (nI 1) dX9_goBack_86 (by decide) ?_
      refine r_iadd dX9_goBack_87 ?_
      refine r_top (nI ((2 * n) + 1)) (nI_add _ _) ?_
      refine r_imul dX9_goBack_88 ?_
      refine r_top (nI (16 * ((2 * n) + 1))) (nI_mul _ _) ?_
      refine r_iload_n dX9_goBack_89 rfl ?_
      refine r_iadd dX9_goBack_90 ?_
      refine r_top (nI ((16 * ((2 * n) + 1)) + i)) (nI_add _ _) ?_
      refine r_istore _ dX9_goBack_91 (by decide) rfl ?_
      refine r_aload_n dX9_goBack_93 rfl ?_
      refine r_getF kX9 (k := 8) (by decide) rfl fl_X9_17 (lay_ok hL rfl) (lay_r hL rfl) dX9_goBack_94 ?_
      refine r_iload_n dX9_goBack_97 rfl ?_
      refine r_aload_n dX9_goBack_98 rfl ?_
      refine r_getF kX9 (k := 30) (by decide) rfl fl_X9_81 (lay_ok hL rfl) (lay_r hL rfl) dX9_goBack_99 ?_
      refine r_iload dX9_goBack_102 rfl ?_
      refine r_ialdE ((gv h n 1 i).1) (lay_ok hL rfl) (by omega) (by omega) dX9_goBack_104 k1 ?_
      refine r_iastN (lay_ok hL rfl) (by omega) (by decide) dX9_goBack_105 ?_
      refine r_lay (lay_wI hL _ _ _) (fun hL => ?_)
      refine r_aload_n dX9_goBack_106 rfl ?_
      refine r_getF kX9 (k := 9) (by decide) rfl fl_X9_20 (lay_ok hL rfl) (lay_r hL rfl) dX9_goBack_107 ?_
      refine r_iload_n dX9_goBack_110 rfl ?_
      refine r_aload_n dX9_goBack_111 rfl ?_
      refine r_getF kX9 (k := 31) (by decide) rfl fl_X9_84 (lay_ok hL rfl) (lay_r hL rfl) dX9_goBack_112 ?_
      refine r_iload dX9_goBack_115 rfl ?_
      refine r_ialdE ((gv h n 1 i).2.1) (lay_ok hL rfl) (by omega) (by omega) dX9_goBack_117 (by rw [mI_wI_n _ _ _ (by decide)]; exact k2) ?_
      refine r_iastN (lay_ok hL rfl) (by omega) (by decide) dX9_goBack_118 ?_
      refine r_lay (lay_wI hL _ _ _) (fun hL => ?_)
      refine r_aload_n dX9_goBack_119 rfl ?_
      refine r_getF kX9 (k := 10) (by decide) rfl fl_X9_23 (lay_ok hL rfl) (lay_r hL rfl) dX9_goBack_120 ?_
      refine r_iload_n dX9_goBack_123 rfl ?_
      refine r_aload_n dX9_goBack_124 rfl ?_
      refine r_getF kX9 (k := 32) (by decide) rfl fl_X9_87 (lay_ok hL rfl) (lay_r hL rfl) dX9_goBack_125 ?_
      refine r_iload dX9_goBack_128 rfl ?_
      refine r_zaldE (nI (gv h n 1 i).2.2) (lay_ok hL rfl) (by omega) (by omega) dX9_goBack_130 (by rw [mI_wI_n _ _ _ (by decide), mI_wI_n _ _ _ (by decide)]; exact k3) ?_
      refine r_zastN (lay_ok hL rfl) (by omega) (by decide) (by rcases (show (gv h n 1 i).2.2 = 0 ∨ (gv h n 1 i).2.2 = 1 by omega) with z | z <;> rw [z]; exact Or.inl rfl; exact Or.inr rfl) dX9_goBack_131 ?_
      refine r_lay (lay_wI hL _ _ _) (fun hL => ?_)
      refine r_iinc (nI (i + 1)) _ dX9_goBack_132 (by decide) rfl (nI_1 _) rfl ?_
      refine r_goto 63 dX9_goBack_135 (by decide) ?_
      refine r_take 4 ?_
      exact ih (i + 1) _ (by omega) hL (by rw [es]; exact hA2) (hf.tr (((am_fr.wI _ _ ⟨by decide, by decide⟩).tr (am_fr.wI _ _ ⟨by decide, by decide⟩)).tr (am_fr.wI _ _ ⟨by decide, by decide⟩)))
    · have er : g_restore n i (resP n h i) = resP n h i := if_neg (by rw [h0]; exact cn)
      refine r_iload_n dX9_goBack_63 rfl ?_
      refine r_aload_n dX9_goBack_64 rfl ?_
      refine r_getE (nI (gs h 1)) kX9 (k := 1) (by decide) rfl fl_X9_115 (lay_ok hL rfl) dX9_goBack_65 s1 ?_
      refine r_icmp_ge 138 dX9_goBack_68 (by decide) (fun hq => absurd hq (nI_ge (by omega) (by omega))) (fun _ => ?_)
      refine r_aload_n dX9_goBack_71 rfl ?_
      refine r_getF kX9 (k := 11) (by decide) rfl fl_X9_27 (lay_ok hL rfl) (lay_r hL rfl) dX9_goBack_72 ?_
      refine r_iload_n dX9_goBack_75 rfl ?_
      refine r_ialdE (nI (ga h 0 i)) (lay_ok hL rfl) (by omega) (by omega) dX9_goBack_76 v4 ?_
      refine r_iload_n dX9_goBack_77 rfl ?_
      refine r_icmp_ne 132 dX9_goBack_78 (by decide) (fun _ => ?_) (fun hq => absurd hq (fun z => cn ((nI_eq (by omega) (by omega)).mp z)))
      refine r_iinc (nI (i + 1)) _ dX9_goBack_132 (by decide) rfl (nI_1 _) rfl ?_
      refine r_goto 63 dX9_goBack_135 (by decide) ?_
      exact ih (i + 1) N (by omega) hL (by rw [es, er]; exact hA) hf
set_option maxHeartbeats 4000000 in
set_option maxRecDepth 100000 in
theorem l1_X9_goBack {l : Launch} {X : Nat × (Nat → Int32)} {M : am_M} {g : tG} {n m : Nat} (hN : 125 ≤ mN M) (hA : absM M g) (hBg : gB g) (hn : n < 5) (hm : m ≤ 199) (c1 : gm g n 1 ≠ some m) (c0 : gm g n 0 = some m) (hv0 : ∀ v, v < gs g 1 → (gv (g_backM n m g) n 1 v).2.2 ≤ 1) : ∀ (k i : Nat) (N : am_M), i + k = 16 → Lay N → cpB (16 * (2 * n + 1)) i (fun x j => mI M x (16 * (2 * n) + j)) (wI (wI M 115 (2 * n + 1) (nI m)) 115 (2 * n) (-1)) N → am_V l yX9_goBack cX9_goBack 5 (none) (am_R 1 0 0) 0 0 X (fun v M' => v = none ∧ absM M' (g_back1 n m g) ∧ Lay M' ∧ am_fr rS M M') 0 0 36 [some (.ref 93), some (.int (nI n)), some (.int (nI m)), some (.int (nI i))] [] N := by
  intro k
  induction k with
  | zero =>
    intro i N hi hL h1
    obtain rfl : i = 16 := by omega
    have hA1 := absM_backM hN hBg hA hn c1 c0 h1
    have f : am_fr rS M N := ((am_fr.wI (S := rS) _ _ ⟨by decide, by decide⟩).tr (am_fr.wI _ _ ⟨by decide, by decide⟩)).tr (h1.1.wd (fun x a => ⟨by omega, by omega⟩))
    have e0 := (backM_f n m g).1
    refine r_iload_n dX9_goBack_36 rfl ?_
    refine r_bipush (nI 16) dX9_goBack_37 (by decide) ?_
    refine r_icmp_ge 61 dX9_goBack_39 (by decide) (fun _ => ?_) (fun hq => absurd (nI_le (Nat.le_refl 16) (by decide)) hq)
    refine r_iconst (nI 0) dX9_goBack_61 (by decide) ?_
    refine r_istore_n _ dX9_goBack_62 (by decide) rfl ?_
    exact l2_X9_goBack hBg rfl (gB_backM hBg n m) hn hm (backM_new (Or.inr c0)) (by rw [e0]; exact hv0) (gs (g_backM n m g) 1) 0 N (by omega) hL hA1 f
  | succ k ih =>
    intro i N hi hL h1
    have e : ∀ x, 116 ≤ x → x ≤ 118 → mI N x (16 * (2 * n) + i) = mI M x (16 * (2 * n) + i) := fun x a b => by
      rw [h1.2 x a b, if_neg (by omega), mI_wI_n _ _ _ (by omega), mI_wI_n _ _ _ (by omega)]
    have q := cpB_s h1
    simp only [← e 116 (by decide) (by decide), ← e 117 (by decide) (by decide), ← e 118 (by decide) (by decide)] at q
    refine r_iload_n dX9_goBack_36 rfl ?_
    refine r_bipush (nI 16) dX9_goBack_37 (by decide) ?_
    refine r_icmp_ge 61 dX9_goBack_39 (by decide) (fun hq => absurd hq (nI_ge (by omega) (by decide))) (fun _ => ?_)
    refine r_aload_n dX9_goBack_42 rfl ?_
    refine r_iconst (nI 2) dX9_goBack_43 (by decide) ?_
    refine r_iload_n dX9_goBack_44 rfl ?_
    refine r_imul dX9_goBack_45 ?_
    refine r_top (nI (2 * n)) (nI_mul _ _) ?_
    refine r_iconst (nI 2) dX9_goBack_46 (by decide) ?_
    refine r_iload_n dX9_goBack_47 rfl ?_
    refine r_imul dX9_goBack_48 ?_
    refine r_top (nI (2 * n)) (nI_mul _ _) ?_
    refine r_iconst (nI 1) dX9_goBack_49 (by decide) ?_
    refine r_iadd dX9_goBack_50 ?_
    refine r_top (nI ((2 * n) + 1)) (nI_add _ _) ?_
    refine r_iload_n dX9_goBack_51 rfl ?_
    refine r_cV ca_yX9_layMark ml_X9_177 im_yX9_layMark se_yX9_layMark (by decide) rfl (lay_ok hL rfl) (c_X9_layMark hL (a := 2 * n) (b := 2 * n + 1) (v := i) (by omega) (by omega) (by omega) (by rw [e 118 (by decide) (by decide)]; exact hA.2.2.2.2.2.2.2.2.1 _ (by omega))) ⟨by decide, by decide⟩ (by first | decide | omega) (by first | decide | omega) rfl (Nat.le_of_ble_eq_true rfl) dX9_goBack_52 ?_
    refine r_lay (lay_wI (lay_wI (lay_wI hL _ _ _) _ _ _) _ _ _) (fun hL => ?_)
    refine r_iinc (nI (i + 1)) _ dX9_goBack_55 (by decide) rfl (nI_1 _) rfl ?_
    refine r_goto 36 dX9_goBack_58 (by decide) ?_
    exact ih (i + 1) _ (by omega) hL q
set_option maxHeartbeats 4000000 in
set_option maxRecDepth 100000 in
theorem c_X9_goBack {l : Launch} {X : Nat × (Nat → Int32)} {M : am_M} (hL : Lay M) {g : tG} {n m : Nat} (hA : absM M g) (hB : gB g) (hn : n < 5) (hm : m ≤ 199) (hb : ∀ z, gm g n 1 = some z → z ≤ 199) (hx : gm g n 1 = some m ∨ gm g n 0 = some m) (hv0 : ∀ v, v < gs g 1 → (gv (g_backM n m g) n 1 v).2.2 ≤ 1) : am_C l yX9_goBack cX9_goBack 5 (none) 1 0 0 X [.ref 93, .int (nI n), .int (nI m)] M (fun v M' => v = none ∧ absM M' (g_back1 n m g) ∧ Lay M' ∧ am_fr rS M M') := by
  refine am_C.of (by decide) (by simp [Value.category, va_rf]) (Nat.le_of_ble_eq_true rfl) ?_
  have z1 := (hA.2.2.2.2.2.2.1 n 1 hn (by decide)).1
  have hN := hL.1
  by_cases c1 : gm g n 1 = some m
  · have eb : g_backM n m g = g := if_pos c1
    rw [eb] at hv0
    refine r_aload_n dX9_goBack_0 rfl ?_
    refine r_getF kX9 (k := 29) (by decide) rfl fl_X9_78 (lay_ok hL rfl) (lay_r hL rfl) dX9_goBack_1 ?_
    refine r_iconst (nI 2) dX9_goBack_4 (by decide) ?_
    refine r_iload_n dX9_goBack_5 rfl ?_
    refine r_imul dX9_goBack_6 ?_
    refine r_top (nI (2 * n)) (nI_mul _ _) ?_
    refine r_iconst (nI 1) dX9_goBack_7 (by decide) ?_
    refine r_iadd dX9_goBack_8 ?_
    refine r_top (nI ((2 * n) + 1)) (nI_add _ _) ?_
    refine r_ialdE (nI m) (lay_ok hL rfl) (by omega) (by omega) dX9_goBack_9 (by rw [z1, c1]; rfl) ?_
    refine r_iload_n dX9_goBack_10 rfl ?_
    refine r_icmp_eq 61 dX9_goBack_11 (by decide) (fun _ => ?_) (fun hq => absurd rfl hq)
    refine r_iconst (nI 0) dX9_goBack_61 (by decide) ?_
    refine r_istore_n _ dX9_goBack_62 (by decide) rfl ?_
    exact l2_X9_goBack hB eb.symm hB hn hm c1 hv0 (gs g 1) 0 M (by omega) hL hA am_fr.rf
  · have c0 : gm g n 0 = some m := by rcases hx with z | z; exact absurd z c1; exact z
    have zz : ¬ mI M 115 (2 * n + 1) = nI m := fun z => c1 (mkI_inj hb (fun q hq => by cases hq; exact hm) (by rw [← z1, z]; rfl))
    refine r_aload_n dX9_goBack_0 rfl ?_
    refine r_getF kX9 (k := 29) (by decide) rfl fl_X9_78 (lay_ok hL rfl) (lay_r hL rfl) dX9_goBack_1 ?_
    refine r_iconst (nI 2) dX9_goBack_4 (by decide) ?_
    refine r_iload_n dX9_goBack_5 rfl ?_
    refine r_imul dX9_goBack_6 ?_
    refine r_top (nI (2 * n)) (nI_mul _ _) ?_
    refine r_iconst (nI 1) dX9_goBack_7 (by decide) ?_
    refine r_iadd dX9_goBack_8 ?_
    refine r_top (nI ((2 * n) + 1)) (nI_add _ _) ?_
    refine r_ialdN (lay_ok hL rfl) (by omega) (by decide) dX9_goBack_9 ?_
    refine r_iload_n dX9_goBack_10 rfl ?_
    refine r_icmp_eq 61 dX9_goBack_11 (by decide) (fun hq => absurd hq zz) (fun _ => ?_)
    refine r_aload_n dX9_goBack_14 rfl ?_
    refine r_getF kX9 (k := 29) (by decide) rfl fl_X9_78 (lay_ok hL rfl) (lay_r hL rfl) dX9_goBack_15 ?_
    refine r_iconst (nI 2) dX9_goBack_18 (by decide) ?_
    refine r_iload_n dX9_goBack_19 rfl ?_
    refine r_imul dX9_goBack_20 ?_
    refine r_top (nI (2 * n)) (nI_mul _ _) ?_
    refine r_iconst (nI 1) dX9_goBack_21 (by decide) ?_
    refine r_iadd dX9_goBack_22 ?_
    refine r_top (nI ((2 * n) + 1)) (nI_add _ _) ?_
    refine r_iload_n dX9_goBack_23 rfl ?_
    refine r_iastN (lay_ok hL rfl) (by omega) (by decide) dX9_goBack_24 ?_
    refine r_lay (lay_wI hL _ _ _) (fun hL => ?_)
    refine r_aload_n dX9_goBack_25 rfl ?_
    refine r_getF kX9 (k := 29) (by decide) rfl fl_X9_78 (lay_ok hL rfl) (lay_r hL rfl) dX9_goBack_26 ?_
    refine r_iconst (nI 2) dX9_goBack_29 (by decide) ?_
    refine r_iload_n dX9_goBack_30 rfl ?_
    refine r_imul dX9_goBack_31 ?_
    refine r_top (nI (2 * n)) (nI_mul _ _) ?_
    refine r_iconst (-1) dX9_goBack_32 (by decide) ?_
    refine r_iastN (lay_ok hL rfl) (by omega) (by decide) dX9_goBack_33 ?_
    refine r_lay (lay_wI hL _ _ _) (fun hL => ?_)
    refine r_iconst (nI 0) dX9_goBack_34 (by decide) ?_
    refine r_istore_n _ dX9_goBack_35 (by decide) rfl ?_
    exact l1_X9_goBack hN hA hB hn hm c1 c0 hv0 16 0 _ (by omega) hL cpB_0
set_option maxHeartbeats 4000000 in
set_option maxRecDepth 100000 in
theorem l3_X9_back {l : Launch} {X : Nat × (Nat → Int32)} {M : am_M} {g : tG} {c0 m : Nat} {kk : Int32 × tG} (hI : gI c0 g) (hc0 : c0 ≤ 999) (hm : m ≤ 199) (hA0 : t_allM g (some m)) (hk : kk = (nI m, g_back m g)) {b : Int32} : ∀ (k i : Nat) (N : am_M), i + k = gs g 0 → Lay N → absM N (itr (fun n x => g_write n x) i (bkP m g (gs g 0))) → am_fr rS M N → am_V l yX9_back cX9_back 4 (some .int) (am_R 3 0 0) 0 0 X (fun v M' => v = some (.int (kk).1) ∧ absM M' (kk).2 ∧ Lay M' ∧ am_fr rS M M') 0 0 114 [some (.ref 93), some (.int b), some (.int (nI m)), some (.int (nI i))] [] N := by
  intro k
  have hB := hI.1
  have b1 : gs g 0 ≤ 5 := hB.2.1
  have h7 : gs g 7 + 1 ≤ 1000 := by have := hI.2.1; omega
  obtain ⟨p1, p2, p3, p4⟩ := bkP_i hB h7 hm hI.2.2.2.2.2.2.2.2.2 hA0 (gs g 0) (Nat.le_refl _)
  have e0 : gs (bkP m g (gs g 0)) 0 = gs g 0 := p2 0
  have Q := wrP_i p1 (fun n hn => by rw [p4 n (by omega)]; exact hm)
  induction k with
  | zero =>
    intro i N hi hL hA hf
    obtain rfl : i = gs g 0 := by omega
    have s0 := hA.1.1
    rw [(Q (gs g 0) (by omega)).2.2.2.2.2 0 (by decide), e0] at s0
    rw [← g_back_eq] at hA
    refine r_iload_n dX9_back_114 rfl ?_
    refine r_aload_n dX9_back_115 rfl ?_
    refine r_getE (nI (gs g 0)) kX9 (k := 0) (by decide) rfl fl_X9_7 (lay_ok hL rfl) dX9_back_116 s0 ?_
    refine r_icmp_ge 133 dX9_back_119 (by decide) (fun _ => ?_) (fun hq => absurd (nI_le (Nat.le_refl _) (by omega)) hq)
    refine r_iload_n dX9_back_133 rfl ?_
    exact r_iret (Or.inl rfl) dX9_back_134 ⟨by rw [hk], by rw [hk]; exact hA, hL, hf⟩
  | succ k ih =>
    intro i N hi hL hA hf
    obtain ⟨q1, q2⟩ := Q i (by omega)
    have s0 := hA.1.1
    rw [q2.2.2.2.2 0 (by decide), e0] at s0
    have es := itr_s (fun n x => g_write n x) i (bkP m g (gs g 0))
    refine r_iload_n dX9_back_114 rfl ?_
    refine r_aload_n dX9_back_115 rfl ?_
    refine r_getE (nI (gs g 0)) kX9 (k := 0) (by decide) rfl fl_X9_7 (lay_ok hL rfl) dX9_back_116 s0 ?_
    refine r_icmp_ge 133 dX9_back_119 (by decide) (fun hq => absurd hq (nI_ge (by omega) (by omega))) (fun _ => ?_)
    refine r_aload_n dX9_back_122 rfl ?_
    refine r_iload_n dX9_back_123 rfl ?_
    refine r_callV ca_yX9_write ml_X9_187 im_yX9_write se_yX9_write (by decide) rfl (lay_ok hL rfl) (c_X9_write hL hA q1 (by rw [q2.2.2.2.2 0 (by decide), e0]; omega) (by rw [q2.1, p4 i (by omega)]; exact hm)) ⟨by decide, by decide⟩ (by first | decide | omega) (by first | decide | omega) rfl (Nat.le_of_ble_eq_true rfl) dX9_back_124 (fun v0 M1 hp1 => ?_)
    obtain ⟨rfl, hA2, hL2, hf2⟩ := hp1
    refine r_iinc (nI (i + 1)) _ dX9_back_127 (by decide) rfl (nI_1 _) rfl ?_
    refine r_goto 114 dX9_back_130 (by decide) ?_
    exact ih (i + 1) M1 (by omega) hL2 (by rw [es]; exact hA2) (hf.tr hf2)
set_option maxHeartbeats 4000000 in
set_option maxRecDepth 100000 in
theorem l2_X9_back {l : Launch} {X : Nat × (Nat → Int32)} {M : am_M} {g : tG} {c0 m : Nat} {kk : Int32 × tG} (hI : gI c0 g) (hc0 : c0 ≤ 999) (hm : m ≤ 199) (hA0 : t_allM g (some m)) (hk : kk = (nI m, g_back m g)) {b : Int32} : ∀ (k i : Nat) (N : am_M), i + k = gs g 0 → Lay N → absM N (bkP m g i) → am_fr rS M N → am_V l yX9_back cX9_back 4 (some .int) (am_R 3 0 0) 0 0 X (fun v M' => v = some (.int (kk).1) ∧ absM M' (kk).2 ∧ Lay M' ∧ am_fr rS M M') 0 0 92 [some (.ref 93), some (.int b), some (.int (nI m)), some (.int (nI i))] [] N := by
  intro k
  have hB := hI.1
  have b1 : gs g 0 ≤ 5 := hB.2.1
  have h7 : gs g 7 + 1 ≤ 1000 := by have := hI.2.1; omega
  induction k with
  | zero =>
    intro i N hi hL hA hf
    obtain rfl : i = gs g 0 := by omega
    have s0 := hA.1.1
    rw [(bkP_i hB h7 hm hI.2.2.2.2.2.2.2.2.2 hA0 (gs g 0) (Nat.le_refl _)).2.1 0] at s0
    have s0 : mI N 93 0 = nI (gs g 0) := s0
    refine r_iload_n dX9_back_92 rfl ?_
    refine r_aload_n dX9_back_93 rfl ?_
    refine r_getE (nI (gs g 0)) kX9 (k := 0) (by decide) rfl fl_X9_7 (lay_ok hL rfl) dX9_back_94 s0 ?_
    refine r_icmp_ge 112 dX9_back_97 (by decide) (fun _ => ?_) (fun hq => absurd (nI_le (Nat.le_refl _) (by omega)) hq)
    refine r_iconst (nI 0) dX9_back_112 (by decide) ?_
    refine r_istore_n _ dX9_back_113 (by decide) rfl ?_
    exact l3_X9_back hI hc0 hm hA0 hk (gs g 0) 0 N (by omega) hL hA hf
  | succ k ih =>
    intro i N hi hL hA hf
    obtain ⟨p1, p2, p4, p5⟩ := bkP_i hB h7 hm hI.2.2.2.2.2.2.2.2.2 hA0 i (by omega)
    have s0 := hA.1.1
    rw [p2 0] at s0
    have s0 : mI N 93 0 = nI (gs g 0) := s0
    have e : bkP m g (i + 1) = g_back1 i m (bkP m g i) := rfl
    have hx : gm (bkP m g i) i 1 = some m ∨ gm (bkP m g i) i 0 = some m := by rw [(p4 i (Nat.le_refl _) 1).1, (p4 i (Nat.le_refl _) 0).1]; exact hA0 i (by omega)
    have hV2 : ∀ j v, gm (bkP m g i) i j ≠ none → v < gs (bkP m g i) 1 → (gv (bkP m g i) i j v).2.2 ≤ 1 := fun j v h1 h2 => by
      rw [(p4 i (Nat.le_refl _) j).2]
      rw [(p4 i (Nat.le_refl _) j).1] at h1
      rw [p2 1] at h2
      exact hI.2.2.2.2.2.2.2.2.2 i j v h1 h2
    have hgm : ∀ z, gm (bkP m g i) i 1 = some z → z ≤ 199 := fun z hz => hI.2.2.1 i 1 z (by rw [← (p4 i (Nat.le_refl _) 1).1]; exact hz)
    refine r_iload_n dX9_back_92 rfl ?_
    refine r_aload_n dX9_back_93 rfl ?_
    refine r_getE (nI (gs g 0)) kX9 (k := 0) (by decide) rfl fl_X9_7 (lay_ok hL rfl) dX9_back_94 s0 ?_
    refine r_icmp_ge 112 dX9_back_97 (by decide) (fun hq => absurd hq (nI_ge (by omega) (by omega))) (fun _ => ?_)
    refine r_aload_n dX9_back_100 rfl ?_
    refine r_iload_n dX9_back_101 rfl ?_
    refine r_iload_n dX9_back_102 rfl ?_
    refine r_callV ca_yX9_goBack ml_X9_232 im_yX9_goBack se_yX9_goBack (by decide) rfl (lay_ok hL rfl) (c_X9_goBack hL hA p1 (by omega) hm hgm hx (backM_le hV2 hx)) ⟨by decide, by decide⟩ (by first | decide | omega) (by first | decide | omega) rfl (Nat.le_of_ble_eq_true rfl) dX9_back_103 (fun v0 M1 hp1 => ?_)
    obtain ⟨rfl, hA2, hL2, hf2⟩ := hp1
    refine r_iinc (nI (i + 1)) _ dX9_back_106 (by decide) rfl (nI_1 _) rfl ?_
    refine r_goto 92 dX9_back_109 (by decide) ?_
    exact ih (i + 1) M1 (by omega) hL2 (by rw [e]; exact hA2) (hf.tr hf2)
set_option maxHeartbeats 4000000 in
set_option maxRecDepth 100000 in
theorem l1_X9_back {l : Launch} {X : Nat × (Nat → Int32)} {M : am_M} {g : tG} {c0 : Nat} (hA : absM M g) (hI : gI c0 g) (hc : c0 ≤ 999) (hL : Lay M) : ∀ (k i b : Nat), i + k = gs g 0 → ((b = 1 ∧ ∃ n, n < i ∧ ga g 6 n = 1) ∨ (b = 0 ∧ ¬ ∃ n, n < i ∧ ga g 6 n = 1)) → am_V l yX9_back cX9_back 4 (some .int) (am_R 3 0 0) 0 0 X (fun v M' => v = some (.int (k_back g).1) ∧ absM M' (k_back g).2 ∧ Lay M' ∧ am_fr rS M M') 0 0 4 [some (.ref 93), some (.int (nI b)), some (.int (nI i))] [] M := by
  intro k
  have hB := hI.1
  obtain ⟨b0, b1, b2, b3, b4, b5, b6, b7, b8, b9, bV, bA, bN, bl, bn, bh⟩ := id hB
  obtain ⟨s0, s1, s2, s3, s4, s5, s6, s7, s8, s9⟩ := hA.1
  have s18 := hA.2.2.2.2.1.1
  have hL0 := hL
  induction k with
  | zero =>
    intro i b hi hb
    obtain rfl : i = gs g 0 := by omega
    by_cases c6 : gs g 6 = 1
    · rcases hb with ⟨rfl, cd⟩ | ⟨rfl, cd⟩
      · obtain ⟨m, hm, hm2, hall⟩ := mm_ok hI c6
        have hk : k_back g = (nI m, g_back m g) := (c_neg (fun z => z.elim (fun z => by omega) (fun z => z cd))).trans (by rw [hm]; rfl)
        have hA0 := absM_s (f := 33) (j := 7) hL0.1 hA (gs g 7 + 1) (by simp)
        obtain ⟨B0, hM0⟩ := hI.2.2.2.2.2.2.2.2.1 c6
        obtain ⟨m1, em1⟩ : ∃ m1, gm g 0 1 = some m1 := ⟨_, (hM0 0 (by omega)).2.1⟩
        have hm1 : m1 ≤ 199 := hI.2.2.1 0 1 m1 em1
        have z1 := (hA.2.2.2.2.2.2.1 0 1 (by decide) (by decide)).1
        have z0 := (hA.2.2.2.2.2.2.1 0 0 (by decide) (by decide)).1
        rw [em1] at z1
        have z1 : mI M 115 1 = nI m1 := z1
        have z0 : mI M 115 0 = mkI (gm g 0 0) := z0
        refine r_iload_n dX9_back_4 rfl ?_
        refine r_aload_n dX9_back_5 rfl ?_
        refine r_getE (nI (gs g 0)) kX9 (k := 0) (by decide) rfl fl_X9_7 (lay_ok hL rfl) dX9_back_6 s0 ?_
        refine r_icmp_ge 37 dX9_back_9 (by decide) (fun _ => ?_) (fun hq => absurd (nI_le (Nat.le_refl _) (by omega)) hq)
        refine r_aload_n dX9_back_37 rfl ?_
        refine r_getE (1) kX9 (k := 6) (by decide) rfl fl_X9_131 (lay_ok hL rfl) dX9_back_38 (by rw [s6, c6]; rfl) ?_
        refine r_if_eq 48 dX9_back_41 (by decide) (fun hq => absurd hq (by decide)) (fun _ => ?_)
        refine r_iload_n dX9_back_44 rfl ?_
        refine r_if_ne 51 dX9_back_45 (by decide) (fun _ => ?_) (fun hq => absurd hq (by decide))
        refine r_aload_n dX9_back_51 rfl ?_
        refine r_aload_n dX9_back_52 rfl ?_
        refine r_getF kX9 (k := 29) (by decide) rfl fl_X9_78 (lay_ok hL rfl) (lay_r hL rfl) dX9_back_53 ?_
        refine r_iconst (nI 1) dX9_back_56 (by decide) ?_
        refine r_ialdE (nI m1) (lay_ok hL rfl) (by omega) (by omega) dX9_back_57 z1 ?_
        refine r_callV ca_yX9_isMarked ml_X9_229 im_yX9_isMarked se_yX9_isMarked (by decide) rfl (lay_ok hL rfl) (c_X9_isMarked hL hA hB hI.2.2.1 hm1) ⟨by decide, by decide⟩ (by first | decide | omega) (by first | decide | omega) rfl (Nat.le_of_ble_eq_true rfl) dX9_back_58 (fun v0 M1 hp1 => ?_)
        obtain ⟨e1, hq⟩ := hp1
        rw [e1]
        rcases hq with ⟨rfl, hq⟩ | ⟨rfl, hq⟩
        · have em : m = m1 := by
            have : t_mm g = gm g 0 1 := c_pos (by rw [em1]; exact hq)
            rw [hm, em1] at this
            cases this; rfl
          refine r_if_eq 73 dX9_back_61 (by decide) (fun hq => absurd hq (by decide)) (fun _ => ?_)
          refine r_aload_n dX9_back_64 rfl ?_
          refine r_getF kX9 (k := 29) (by decide) rfl fl_X9_78 (lay_ok hL rfl) (lay_r hL rfl) dX9_back_65 ?_
          refine r_iconst (nI 1) dX9_back_68 (by decide) ?_
          refine r_ialdE (nI m) (lay_ok hL rfl) (by omega) (by omega) dX9_back_69 (by rw [z1, em]) ?_
          refine r_goto 79 dX9_back_70 (by decide) ?_
          refine r_istore_n _ dX9_back_79 (by decide) rfl ?_
          refine r_aload_n dX9_back_80 rfl ?_
          refine r_dup dX9_back_81 rfl ?_
          refine r_getE (nI (gs g 7)) kX9 (k := 33) (by decide) rfl fl_X9_137 (lay_ok hL rfl) dX9_back_82 s7 ?_
          refine r_iconst (1) dX9_back_85 (by decide) ?_
          refine r_iadd dX9_back_86 ?_
          refine r_top (nI (gs g 7 + 1)) (nI_1 _) ?_
          refine r_putI kX9 (k := 33) (by decide) rfl (Or.inl rfl) fl_X9_137 (lay_ok hL rfl) ⟨rfl, rfl⟩ dX9_back_87 ?_
          refine r_lay (lay_wI hL _ _ _) (fun hL => ?_)
          refine r_iconst (nI 0) dX9_back_90 (by decide) ?_
          refine r_istore_n _ dX9_back_91 (by decide) rfl ?_
          exact l2_X9_back hI hc hm2 hall hk (gs g 0) 0 _ (by omega) hL hA0 (am_fr.wI _ _ ⟨by decide, by decide⟩)
        · have em : gm g 0 0 = some m := by
            have : t_mm g = gm g 0 0 := c_neg (by rw [em1]; exact hq)
            rw [← this]; exact hm
          refine r_if_eq 73 dX9_back_61 (by decide) (fun _ => ?_) (fun hq => absurd (by decide) hq)
          refine r_aload_n dX9_back_73 rfl ?_
          refine r_getF kX9 (k := 29) (by decide) rfl fl_X9_78 (lay_ok hL rfl) (lay_r hL rfl) dX9_back_74 ?_
          refine r_iconst (nI 0) dX9_back_77 (by decide) ?_
          refine r_ialdE (nI m) (lay_ok hL rfl) (by omega) (by omega) dX9_back_78 (by rw [z0, em]; rfl) ?_
          refine r_istore_n _ dX9_back_79 (by decide) rfl ?_
          refine r_aload_n dX9_back_80 rfl ?_
          refine r_dup dX9_back_81 rfl ?_
          refine r_getE (nI (gs g 7)) kX9 (k := 33) (by decide) rfl fl_X9_137 (lay_ok hL rfl) dX9_back_82 s7 ?_
          refine r_iconst (1) dX9_back_85 (by decide) ?_
          refine r_iadd dX9_back_86 ?_
          refine r_top (nI (gs g 7 + 1)) (nI_1 _) ?_
          refine r_putI kX9 (k := 33) (by decide) rfl (Or.inl rfl) fl_X9_137 (lay_ok hL rfl) ⟨rfl, rfl⟩ dX9_back_87 ?_
          refine r_lay (lay_wI hL _ _ _) (fun hL => ?_)
          refine r_iconst (nI 0) dX9_back_90 (by decide) ?_
          refine r_istore_n _ dX9_back_91 (by decide) rfl ?_
          exact l2_X9_back hI hc hm2 hall hk (gs g 0) 0 _ (by omega) hL hA0 (am_fr.wI _ _ ⟨by decide, by decide⟩)
      · have hk : k_back g = (-2, g) := c_pos (Or.inr cd)
        refine r_iload_n dX9_back_4 rfl ?_
        refine r_aload_n dX9_back_5 rfl ?_
        refine r_getE (nI (gs g 0)) kX9 (k := 0) (by decide) rfl fl_X9_7 (lay_ok hL rfl) dX9_back_6 s0 ?_
        refine r_icmp_ge 37 dX9_back_9 (by decide) (fun _ => ?_) (fun hq => absurd (nI_le (Nat.le_refl _) (by omega)) hq)
        refine r_aload_n dX9_back_37 rfl ?_
        refine r_getE (1) kX9 (k := 6) (by decide) rfl fl_X9_131 (lay_ok hL rfl) dX9_back_38 (by rw [s6, c6]; rfl) ?_
        refine r_if_eq 48 dX9_back_41 (by decide) (fun hq => absurd hq (by decide)) (fun _ => ?_)
        refine r_iload_n dX9_back_44 rfl ?_
        refine r_if_ne 51 dX9_back_45 (by decide) (fun hq => absurd (by decide) hq) (fun _ => ?_)
        refine r_bipush (-2) dX9_back_48 (by decide) ?_
        exact r_iret (Or.inl rfl) dX9_back_50 ⟨by rw [hk], by rw [hk]; exact hA, hL0, am_fr.rf⟩
    · have hk : k_back g = (-2, g) := c_pos (Or.inl (bool01 b7 c6))
      refine r_iload_n dX9_back_4 rfl ?_
      refine r_aload_n dX9_back_5 rfl ?_
      refine r_getE (nI (gs g 0)) kX9 (k := 0) (by decide) rfl fl_X9_7 (lay_ok hL rfl) dX9_back_6 s0 ?_
      refine r_icmp_ge 37 dX9_back_9 (by decide) (fun _ => ?_) (fun hq => absurd (nI_le (Nat.le_refl _) (by omega)) hq)
      refine r_aload_n dX9_back_37 rfl ?_
      refine r_getE (0) kX9 (k := 6) (by decide) rfl fl_X9_131 (lay_ok hL rfl) dX9_back_38 (by rw [s6, bool01 b7 c6]; rfl) ?_
      refine r_if_eq 48 dX9_back_41 (by decide) (fun _ => ?_) (fun hq => absurd (by decide) hq)
      refine r_bipush (-2) dX9_back_48 (by decide) ?_
      exact r_iret (Or.inl rfl) dX9_back_50 ⟨by rw [hk], by rw [hk]; exact hA, hL0, am_fr.rf⟩
  | succ k ih =>
    intro i b hi hb
    rcases hb with ⟨rfl, h⟩ | ⟨rfl, h⟩
    · have q := ih (i + 1) 1 (by omega) (Or.inl ⟨rfl, h.elim (fun n hn => ⟨n, by omega, hn.2⟩)⟩)
      refine r_iload_n dX9_back_4 rfl ?_
      refine r_aload_n dX9_back_5 rfl ?_
      refine r_getE (nI (gs g 0)) kX9 (k := 0) (by decide) rfl fl_X9_7 (lay_ok hL rfl) dX9_back_6 s0 ?_
      refine r_icmp_ge 37 dX9_back_9 (by decide) (fun hq => absurd hq (nI_ge (by omega) (by omega))) (fun _ => ?_)
      refine r_iload_n dX9_back_12 rfl ?_
      refine r_if_ne 25 dX9_back_13 (by decide) (fun _ => ?_) (fun hq => absurd hq (by decide))
      refine r_iconst (1) dX9_back_25 (by decide) ?_
      refine r_goto 30 dX9_back_26 (by decide) ?_
      refine r_istore_n _ dX9_back_30 (by decide) rfl ?_
      refine r_iinc (nI (i + 1)) _ dX9_back_31 (by decide) rfl (nI_1 _) rfl ?_
      refine r_goto 4 dX9_back_34 (by decide) ?_
      exact q
    · have x6 := (hA.2.2.2.1 i (by omega)).2.2
      have y6 := (bN i (by omega)).2.2
      by_cases d : ga g 6 i = 1
      · have q := ih (i + 1) 1 (by omega) (Or.inl ⟨rfl, ⟨i, by omega, d⟩⟩)
        refine r_iload_n dX9_back_4 rfl ?_
        refine r_aload_n dX9_back_5 rfl ?_
        refine r_getE (nI (gs g 0)) kX9 (k := 0) (by decide) rfl fl_X9_7 (lay_ok hL rfl) dX9_back_6 s0 ?_
        refine r_icmp_ge 37 dX9_back_9 (by decide) (fun hq => absurd hq (nI_ge (by omega) (by omega))) (fun _ => ?_)
        refine r_iload_n dX9_back_12 rfl ?_
        refine r_if_ne 25 dX9_back_13 (by decide) (fun hq => absurd (by decide) hq) (fun _ => ?_)
        refine r_aload_n dX9_back_16 rfl ?_
        refine r_getF kX9 (k := 17) (by decide) rfl fl_X9_45 (lay_ok hL rfl) (lay_r hL rfl) dX9_back_17 ?_
        refine r_iload_n dX9_back_20 rfl ?_
        refine r_zaldE (1) (lay_ok hL rfl) (by omega) (by omega) dX9_back_21 (by rw [x6, d]; rfl) ?_
        refine r_if_eq 29 dX9_back_22 (by decide) (fun hq => absurd hq (by decide)) (fun _ => ?_)
        refine r_iconst (1) dX9_back_25 (by decide) ?_
        refine r_goto 30 dX9_back_26 (by decide) ?_
        refine r_istore_n _ dX9_back_30 (by decide) rfl ?_
        refine r_iinc (nI (i + 1)) _ dX9_back_31 (by decide) rfl (nI_1 _) rfl ?_
        refine r_goto 4 dX9_back_34 (by decide) ?_
        exact q
      · have q := ih (i + 1) 0 (by omega) (Or.inr ⟨rfl, fun ⟨n, hn, z⟩ => by by_cases e : n = i; rw [e] at z; exact d z; exact h ⟨n, by omega, z⟩⟩)
        refine r_iload_n dX9_back_4 rfl ?_
        refine r_aload_n dX9_back_5 rfl ?_
        refine r_getE (nI (gs g 0)) kX9 (k := 0) (by decide) rfl fl_X9_7 (lay_ok hL rfl) dX9_back_6 s0 ?_
        refine r_icmp_ge 37 dX9_back_9 (by decide) (fun hq => absurd hq (nI_ge (by omega) (by omega))) (fun _ => ?_)
        refine r_iload_n dX9_back_12 rfl ?_
        refine r_if_ne 25 dX9_back_13 (by decide) (fun hq => absurd (by decide) hq) (fun _ => ?_)
        refine r_aload_n dX9_back_16 rfl ?_
        refine r_getF kX9 (k := 17) (by decide) rfl fl_X9_45 (lay_ok hL rfl) (lay_r hL rfl) dX9_back_17 ?_
        refine r_iload_n dX9_back_20 rfl ?_
        refine r_zaldE (0) (lay_ok hL rfl) (by omega) (by omega) dX9_back_21 (by rw [x6, bool01 y6 d]; rfl) ?_
        refine r_if_eq 29 dX9_back_22 (by decide) (fun _ => ?_) (fun hq => absurd (by decide) hq)
        refine r_iconst (0) dX9_back_29 (by decide) ?_
        refine r_istore_n _ dX9_back_30 (by decide) rfl ?_
        refine r_iinc (nI (i + 1)) _ dX9_back_31 (by decide) rfl (nI_1 _) rfl ?_
        refine r_goto 4 dX9_back_34 (by decide) ?_
        exact q
set_option maxHeartbeats 4000000 in
set_option maxRecDepth 100000 in
theorem k_X9_back {l : Launch} {X : Nat × (Nat → Int32)} {M : am_M} (hL : Lay M) {g : tG} {c0 : Nat} (hA : absM M g) (hI : gI c0 g) (hc : c0 ≤ 999) : am_C l yX9_back cX9_back 4 (some .int) 3 0 0 X [.ref 93] M (fun v M' => v = some (.int (k_back g).1) ∧ absM M' (k_back g).2 ∧ Lay M' ∧ am_fr rS M M') := by
  refine am_C.of (by decide) (by simp [Value.category, va_rf]) (Nat.le_of_ble_eq_true rfl) ?_
  have hB := hI.1
  obtain ⟨b0, b1, b2, b3, b4, b5, b6, b7, b8, b9, bV, bA, bN, bl, bn, bh⟩ := id hB
  obtain ⟨s0, s1, s2, s3, s4, s5, s6, s7, s8, s9⟩ := hA.1
  have s18 := hA.2.2.2.2.1.1
  have hL0 := hL
  refine r_iconst (nI 0) dX9_back_0 (by decide) ?_
  refine r_istore_n _ dX9_back_1 (by decide) rfl ?_
  refine r_iconst (nI 0) dX9_back_2 (by decide) ?_
  refine r_istore_n _ dX9_back_3 (by decide) rfl ?_
  exact l1_X9_back hA hI hc hL (gs g 0) 0 0 (by omega) (Or.inr ⟨rfl, fun ⟨n, hn, _⟩ => absurd hn (by omega)⟩)
set_option maxHeartbeats 4000000 in
set_option maxRecDepth 100000 in
theorem l3_X9_move {l : Launch} {X : Nat × (Nat → Int32)} {M : am_M} {g : tG} {v n : Nat} {w x3 : Int32} {kk : Int32 × tG} (hB : gB (us (ua g 0 v n) 7 (gs g 7 + 1))) (h4 : ∀ k, k < gs g 0 → ga g 4 k ≤ 199) (hk : kk = (w, g_move v n g)) : ∀ (k i : Nat) (N : am_M), i + k = gs g 0 → Lay N → absM N (itr (fun n x => g_write n x) i (mvP v n g (gs g 0))) → am_fr rS M N → am_V l yX9_move cX9_move 6 (some .int) (am_R 3 0 0) 0 0 X (fun v M' => v = some (.int (kk).1) ∧ absM M' (kk).2 ∧ Lay M' ∧ am_fr rS M M') 0 0 162 [some (.ref 93), some (.int (nI v)), some (.int (nI n)), some (.int x3), some (.int w), some (.int (nI i))] [] N := by
  intro k
  have b1 : gs g 0 ≤ 5 := hB.2.1
  obtain ⟨p1, p2, p3⟩ := mvP_i hB (gs g 0)
  have e0 : gs (mvP v n g (gs g 0)) 0 = gs g 0 := by rw [p2]; rfl
  have e4 : ∀ k, k < gs g 0 → ga (mvP v n g (gs g 0)) 4 k ≤ 199 := fun k hk => by rw [p3, ga_uaf _ _ _ (by decide)]; exact h4 k hk
  have Q := wrP_i p1 (fun n hn => e4 n (by omega))
  induction k with
  | zero =>
    intro i N hi hL hA hf
    obtain rfl : i = gs g 0 := by omega
    have s0 := hA.1.1
    rw [(Q (gs g 0) (by omega)).2.2.2.2.2 0 (by decide), e0] at s0
    rw [← g_move_eq] at hA
    refine r_iload dX9_move_162 rfl ?_
    refine r_aload_n dX9_move_164 rfl ?_
    refine r_getE (nI (gs g 0)) kX9 (k := 0) (by decide) rfl fl_X9_7 (lay_ok hL rfl) dX9_move_165 s0 ?_
    refine r_icmp_ge 183 dX9_move_168 (by decide) (fun _ => ?_) (fun hq => absurd (nI_le (Nat.le_refl _) (by omega)) hq)
    refine r_iload dX9_move_183 rfl ?_
    exact r_iret (Or.inl rfl) dX9_move_185 ⟨by rw [hk], by rw [hk]; exact hA, hL, hf⟩
  | succ k ih =>
    intro i N hi hL hA hf
    obtain ⟨q1, q2⟩ := Q i (by omega)
    have s0 := hA.1.1
    rw [q2.2.2.2.2 0 (by decide), e0] at s0
    have es := itr_s (fun n x => g_write n x) i (mvP v n g (gs g 0))
    refine r_iload dX9_move_162 rfl ?_
    refine r_aload_n dX9_move_164 rfl ?_
    refine r_getE (nI (gs g 0)) kX9 (k := 0) (by decide) rfl fl_X9_7 (lay_ok hL rfl) dX9_move_165 s0 ?_
    refine r_icmp_ge 183 dX9_move_168 (by decide) (fun hq => absurd hq (nI_ge (by omega) (by omega))) (fun _ => ?_)
    refine r_aload_n dX9_move_171 rfl ?_
    refine r_iload dX9_move_172 rfl ?_
    refine r_callV ca_yX9_write ml_X9_187 im_yX9_write se_yX9_write (by decide) rfl (lay_ok hL rfl) (c_X9_write hL hA q1 (by rw [q2.2.2.2.2 0 (by decide), e0]; omega) (by rw [q2.1]; exact e4 i (by omega))) ⟨by decide, by decide⟩ (by first | decide | omega) (by first | decide | omega) rfl (Nat.le_of_ble_eq_true rfl) dX9_move_174 (fun v0 M1 hp1 => ?_)
    obtain ⟨rfl, hA2, hL2, hf2⟩ := hp1
    refine r_iinc (nI (i + 1)) _ dX9_move_177 (by decide) rfl (nI_1 _) rfl ?_
    refine r_goto 162 dX9_move_180 (by decide) ?_
    exact ih (i + 1) M1 (by omega) hL2 (by rw [es]; exact hA2) (hf.tr hf2)
set_option maxHeartbeats 4000000 in
set_option maxRecDepth 100000 in
theorem l2_X9_move {l : Launch} {X : Nat × (Nat → Int32)} {M : am_M} {g : tG} {v n : Nat} {w x3 : Int32} {kk : Int32 × tG} (hB : gB (us (ua g 0 v n) 7 (gs g 7 + 1))) (h4 : ∀ k, k < gs g 0 → ga g 4 k ≤ 199) (hk : kk = (w, g_move v n g)) : ∀ (k i : Nat) (N : am_M), i + k = gs g 0 → Lay N → absM N (mvP v n g i) → am_fr rS M N → am_V l yX9_move cX9_move 6 (some .int) (am_R 3 0 0) 0 0 X (fun v M' => v = some (.int (kk).1) ∧ absM M' (kk).2 ∧ Lay M' ∧ am_fr rS M M') 0 0 122 [some (.ref 93), some (.int (nI v)), some (.int (nI n)), some (.int x3), some (.int w), some (.int (nI i))] [] N := by
  intro k
  have b1 : gs g 0 ≤ 5 := hB.2.1
  induction k with
  | zero =>
    intro i N hi hL hA hf
    obtain rfl : i = gs g 0 := by omega
    have s0 := hA.1.1
    rw [(mvP_i hB (gs g 0)).2.1] at s0
    have s0 : mI N 93 0 = nI (gs g 0) := s0
    refine r_iload dX9_move_122 rfl ?_
    refine r_aload_n dX9_move_124 rfl ?_
    refine r_getE (nI (gs g 0)) kX9 (k := 0) (by decide) rfl fl_X9_7 (lay_ok hL rfl) dX9_move_125 s0 ?_
    refine r_icmp_ge 159 dX9_move_128 (by decide) (fun _ => ?_) (fun hq => absurd (nI_le (Nat.le_refl _) (by omega)) hq)
    refine r_iconst (nI 0) dX9_move_159 (by decide) ?_
    refine r_istore _ dX9_move_160 (by decide) rfl ?_
    exact l3_X9_move hB h4 hk (gs g 0) 0 N (by omega) hL hA hf
  | succ k ih =>
    intro i N hi hL hA hf
    obtain ⟨p1, p2, p3⟩ := mvP_i hB i
    have s0 := hA.1.1
    rw [p2] at s0
    have s0 : mI N 93 0 = nI (gs g 0) := s0
    have e : mvP v n g (i + 1) = g_move1 i (mvP v n g i) := rfl
    have hA1 := absM_forget (n := i) hL.1 p1 hA (by omega)
    have hB1 := gB_forget p1 i
    refine r_iload dX9_move_122 rfl ?_
    refine r_aload_n dX9_move_124 rfl ?_
    refine r_getE (nI (gs g 0)) kX9 (k := 0) (by decide) rfl fl_X9_7 (lay_ok hL rfl) dX9_move_125 s0 ?_
    refine r_icmp_ge 159 dX9_move_128 (by decide) (fun hq => absurd hq (nI_ge (by omega) (by omega))) (fun _ => ?_)
    refine r_aload_n dX9_move_131 rfl ?_
    refine r_iload dX9_move_132 rfl ?_
    refine r_cV ca_yX9_forget ml_X9_222 im_yX9_forget se_yX9_forget (by decide) rfl (lay_ok hL rfl) (c_X9_forget hL (by omega)) ⟨by decide, by decide⟩ (by first | decide | omega) (by first | decide | omega) rfl (Nat.le_of_ble_eq_true rfl) dX9_move_134 ?_
    refine r_lay (lay_wF hL _ _) (fun hL => ?_)
    refine r_aload_n dX9_move_137 rfl ?_
    refine r_iload dX9_move_138 rfl ?_
    refine r_callV ca_yX9_mark ml_X9_184 im_yX9_mark se_yX9_mark (by decide) rfl (lay_ok hL rfl) (c_X9_mark hL hA1 hB1 (by omega)) ⟨by decide, by decide⟩ (by first | decide | omega) (by first | decide | omega) rfl (Nat.le_of_ble_eq_true rfl) dX9_move_140 (fun v0 M1 hp1 => ?_)
    obtain ⟨rfl, hA2, hL2, hf2⟩ := hp1
    have hL := hL2
    have hA3 := absM_nom (n := i) hL2.1 hA2 (by omega)
    refine r_aload_n dX9_move_143 rfl ?_
    refine r_getF kX9 (k := 29) (by decide) rfl fl_X9_78 (lay_ok hL rfl) (lay_r hL rfl) dX9_move_144 ?_
    refine r_iconst (nI 2) dX9_move_147 (by decide) ?_
    refine r_iload dX9_move_148 rfl ?_
    refine r_imul dX9_move_150 ?_
    refine r_top (nI (2 * i)) (nI_mul _ _) ?_
    refine r_iconst (-1) dX9_move_151 (by decide) ?_
    refine r_iastN (lay_ok hL rfl) (by omega) (by decide) dX9_move_152 ?_
    refine r_lay (lay_wI hL _ _ _) (fun hL => ?_)
    refine r_iinc (nI (i + 1)) _ dX9_move_153 (by decide) rfl (nI_1 _) rfl ?_
    refine r_goto 122 dX9_move_156 (by decide) ?_
    exact ih (i + 1) _ (by omega) hL (by rw [e]; exact hA3) (((hf.tr (am_fr.wF _ ⟨by decide, by decide⟩)).tr hf2).tr (am_fr.wI _ _ ⟨by decide, by decide⟩))
set_option maxHeartbeats 4000000 in
set_option maxRecDepth 100000 in
theorem l1_X9_move {l : Launch} {X : Nat × (Nat → Int32)} {M : am_M} {g : tG} {c0 : Nat} (hA : absM M g) (hI : gI c0 g) (hc : c0 ≤ 999) (hL : Lay M) {v n : Nat} (hj : v < gs g 1) (hb : n < gs g 0) (e : inN (nI v) (gs g 1) = some v) (f : inN (nI n) (gs g 0) = some n) : ∀ (k i b : Nat), i + k = gs g 0 → ((b = 1 ∧ gs g 6 = 1 ∧ ∀ q, q < i → (ga g 6 q = 0 ∧ ga g 5 q = 0 ∧ ga g 4 q = ga g 4 0)) ∨ (b = 0 ∧ ¬ (gs g 6 = 1 ∧ ∀ q, q < i → (ga g 6 q = 0 ∧ ga g 5 q = 0 ∧ ga g 4 q = ga g 4 0)))) → am_V l yX9_move cX9_move 6 (some .int) (am_R 3 0 0) 0 0 X (fun v' M' => v' = some (.int (k_move (nI v) (nI n) g).1) ∧ absM M' (k_move (nI v) (nI n) g).2 ∧ Lay M' ∧ am_fr rS M M') 0 0 26 [some (.ref 93), some (.int (nI v)), some (.int (nI n)), some (.int (nI b)), some (.int (nI i))] [] M := by
  intro k
  have hB := hI.1
  obtain ⟨b0, b1, b2, b3, b4, b5, b6, b7, b8, b9, bV, bA, bN, bl, bn, bh⟩ := id hB
  obtain ⟨s0, s1, s2, s3, s4, s5, s6, s7, s8, s9⟩ := hA.1
  have s18 := hA.2.2.2.2.1.1
  have hL0 := hL
  induction k with
  | zero =>
    intro i b hi hbb
    obtain rfl : i = gs g 0 := by omega
    rcases hbb with ⟨rfl, c6, cd⟩ | ⟨rfl, cd⟩
    · have hk : k_move (nI v) (nI n) g = (nI (ga g 0 v), g_move v n g) := by simp only [k_move, e, f]; exact c_neg (fun z => z.elim (fun z => by omega) (fun z => z cd))
      have v3 := (hA.2.1 v hj).2.2.2.2
      have hA0 := absM_home hL0.1 hA v n
      have hA1 := absM_s (M := wI M 98 v (nI n)) (f := 33) (j := 7) hL0.1 hA0 (gs g 7 + 1) (by simp)
      have hBv : gB (us (ua g 0 v n) 7 (gs g 7 + 1)) := gB_s7 (g := ua g 0 v n) (gB_home hB hb) (by have := hI.2.1; show gs g 7 + 1 ≤ 1000; omega)
      have h4 : ∀ k, k < gs g 0 → ga g 4 k ≤ 199 := fun k hk => by
        have z1 := cd k hk
        have z2 := hI.2.2.2.2.2.2.2.1 k hk
        have z3 := (bN k (by omega)).1
        omega
      refine r_iload dX9_move_26 rfl ?_
      refine r_aload_n dX9_move_28 rfl ?_
      refine r_getE (nI (gs g 0)) kX9 (k := 0) (by decide) rfl fl_X9_7 (lay_ok hL rfl) dX9_move_29 s0 ?_
      refine r_icmp_ge 87 dX9_move_32 (by decide) (fun _ => ?_) (fun hq => absurd (nI_le (Nat.le_refl _) (by omega)) hq)
      refine r_iload_n dX9_move_87 rfl ?_
      refine r_if_ne 94 dX9_move_88 (by decide) (fun _ => ?_) (fun hq => absurd hq (by decide))
      refine r_aload_n dX9_move_94 rfl ?_
      refine r_getF kX9 (k := 11) (by decide) rfl fl_X9_27 (lay_ok hL rfl) (lay_r hL rfl) dX9_move_95 ?_
      refine r_iload_n dX9_move_98 rfl ?_
      refine r_ialdE (nI (ga g 0 v)) (lay_ok hL rfl) (by omega) (by omega) dX9_move_99 v3 ?_
      refine r_istore _ dX9_move_100 (by decide) rfl ?_
      refine r_aload_n dX9_move_102 rfl ?_
      refine r_getF kX9 (k := 11) (by decide) rfl fl_X9_27 (lay_ok hL rfl) (lay_r hL rfl) dX9_move_103 ?_
      refine r_iload_n dX9_move_106 rfl ?_
      refine r_iload_n dX9_move_107 rfl ?_
      refine r_iastN (lay_ok hL rfl) (by omega) (by decide) dX9_move_108 ?_
      refine r_lay (lay_wI hL _ _ _) (fun hL => ?_)
      refine r_aload_n dX9_move_109 rfl ?_
      refine r_dup dX9_move_110 rfl ?_
      refine r_getE (nI (gs g 7)) kX9 (k := 33) (by decide) rfl fl_X9_137 (lay_ok hL rfl) dX9_move_111 (by rw [mI_wI_n _ _ _ (by decide)]; exact s7) ?_
      refine r_iconst (1) dX9_move_114 (by decide) ?_
      refine r_iadd dX9_move_115 ?_
      refine r_top (nI (gs g 7 + 1)) (nI_1 _) ?_
      refine r_putI kX9 (k := 33) (by decide) rfl (Or.inl rfl) fl_X9_137 (lay_ok hL rfl) ⟨rfl, rfl⟩ dX9_move_116 ?_
      refine r_lay (lay_wI hL _ _ _) (fun hL => ?_)
      refine r_iconst (nI 0) dX9_move_119 (by decide) ?_
      refine r_istore _ dX9_move_120 (by decide) rfl ?_
      exact l2_X9_move hBv h4 hk (gs g 0) 0 _ (by omega) hL hA1 ((am_fr.wI _ _ ⟨by decide, by decide⟩).tr (am_fr.wI _ _ ⟨by decide, by decide⟩))
    · have hk : k_move (nI v) (nI n) g = (-2, g) := by
        simp only [k_move, e, f]
        exact c_pos (by
          by_cases c6 : gs g 6 = 1
          · exact Or.inr (fun z => cd ⟨c6, z⟩)
          · exact Or.inl (bool01 b7 c6))
      refine r_iload dX9_move_26 rfl ?_
      refine r_aload_n dX9_move_28 rfl ?_
      refine r_getE (nI (gs g 0)) kX9 (k := 0) (by decide) rfl fl_X9_7 (lay_ok hL rfl) dX9_move_29 s0 ?_
      refine r_icmp_ge 87 dX9_move_32 (by decide) (fun _ => ?_) (fun hq => absurd (nI_le (Nat.le_refl _) (by omega)) hq)
      refine r_iload_n dX9_move_87 rfl ?_
      refine r_if_ne 94 dX9_move_88 (by decide) (fun hq => absurd (by decide) hq) (fun _ => ?_)
      refine r_bipush (-2) dX9_move_91 (by decide) ?_
      exact r_iret (Or.inl rfl) dX9_move_93 ⟨by rw [hk], by rw [hk]; exact hA, hL0, am_fr.rf⟩
  | succ k ih =>
    intro i b hi hbb
    rcases hbb with ⟨rfl, c6, h⟩ | ⟨rfl, h⟩
    · obtain ⟨x4, x5, x6⟩ := hA.2.2.2.1 i (by omega)
      obtain ⟨y4, y5, y6⟩ := bN i (by omega)
      have x40 := (hA.2.2.2.1 0 (by decide)).1
      have y40 := (bN 0 (by decide)).1
      have no : ¬ (ga g 6 i = 0 ∧ ga g 5 i = 0 ∧ ga g 4 i = ga g 4 0) → am_V l yX9_move cX9_move 6 (some .int) (am_R 3 0 0) 0 0 X (fun v' M' => v' = some (.int (k_move (nI v) (nI n) g).1) ∧ absM M' (k_move (nI v) (nI n) g).2 ∧ Lay M' ∧ am_fr rS M M') 0 0 26 [some (.ref 93), some (.int (nI v)), some (.int (nI n)), some (.int (nI 0)), some (.int (nI (i + 1)))] [] M := fun z => ih (i + 1) 0 (by omega) (Or.inr ⟨rfl, fun y => z (y.2 i (by omega))⟩)
      by_cases d6 : ga g 6 i = 1
      · have q := no (fun z => by omega)
        refine r_iload dX9_move_26 rfl ?_
        refine r_aload_n dX9_move_28 rfl ?_
        refine r_getE (nI (gs g 0)) kX9 (k := 0) (by decide) rfl fl_X9_7 (lay_ok hL rfl) dX9_move_29 s0 ?_
        refine r_icmp_ge 87 dX9_move_32 (by decide) (fun hq => absurd hq (nI_ge (by omega) (by omega))) (fun _ => ?_)
        refine r_iload_n dX9_move_35 rfl ?_
        refine r_if_eq 79 dX9_move_36 (by decide) (fun hq => absurd hq (by decide)) (fun _ => ?_)
        refine r_aload_n dX9_move_39 rfl ?_
        refine r_getF kX9 (k := 17) (by decide) rfl fl_X9_45 (lay_ok hL rfl) (lay_r hL rfl) dX9_move_40 ?_
        refine r_iload dX9_move_43 rfl ?_
        refine r_zaldE (1) (lay_ok hL rfl) (by omega) (by omega) dX9_move_45 (by rw [x6, d6]; rfl) ?_
        refine r_if_ne 79 dX9_move_46 (by decide) (fun _ => ?_) (fun hq => absurd hq (by decide))
        refine r_iconst (0) dX9_move_79 (by decide) ?_
        refine r_istore_n _ dX9_move_80 (by decide) rfl ?_
        refine r_iinc (nI (i + 1)) _ dX9_move_81 (by decide) rfl (nI_1 _) rfl ?_
        refine r_goto 26 dX9_move_84 (by decide) ?_
        exact q
      · by_cases d5 : ga g 5 i = 1
        · have q := no (fun z => by omega)
          refine r_iload dX9_move_26 rfl ?_
          refine r_aload_n dX9_move_28 rfl ?_
          refine r_getE (nI (gs g 0)) kX9 (k := 0) (by decide) rfl fl_X9_7 (lay_ok hL rfl) dX9_move_29 s0 ?_
          refine r_icmp_ge 87 dX9_move_32 (by decide) (fun hq => absurd hq (nI_ge (by omega) (by omega))) (fun _ => ?_)
          refine r_iload_n dX9_move_35 rfl ?_
          refine r_if_eq 79 dX9_move_36 (by decide) (fun hq => absurd hq (by decide)) (fun _ => ?_)
          refine r_aload_n dX9_move_39 rfl ?_
          refine r_getF kX9 (k := 17) (by decide) rfl fl_X9_45 (lay_ok hL rfl) (lay_r hL rfl) dX9_move_40 ?_
          refine r_iload dX9_move_43 rfl ?_
          refine r_zaldE (0) (lay_ok hL rfl) (by omega) (by omega) dX9_move_45 (by rw [x6, bool01 y6 d6]; rfl) ?_
          refine r_if_ne 79 dX9_move_46 (by decide) (fun hq => absurd (by decide) hq) (fun _ => ?_)
          refine r_aload_n dX9_move_49 rfl ?_
          refine r_getF kX9 (k := 16) (by decide) rfl fl_X9_42 (lay_ok hL rfl) (lay_r hL rfl) dX9_move_50 ?_
          refine r_iload dX9_move_53 rfl ?_
          refine r_zaldE (1) (lay_ok hL rfl) (by omega) (by omega) dX9_move_55 (by rw [x5, d5]; rfl) ?_
          refine r_if_ne 79 dX9_move_56 (by decide) (fun _ => ?_) (fun hq => absurd hq (by decide))
          refine r_iconst (0) dX9_move_79 (by decide) ?_
          refine r_istore_n _ dX9_move_80 (by decide) rfl ?_
          refine r_iinc (nI (i + 1)) _ dX9_move_81 (by decide) rfl (nI_1 _) rfl ?_
          refine r_goto 26 dX9_move_84 (by decide) ?_
          exact q
        · by_cases d4 : ga g 4 i = ga g 4 0
          · have q := ih (i + 1) 1 (by omega) (Or.inl ⟨rfl, c6, fun q hq => by by_cases z : q = i; rw [z]; exact ⟨bool01 y6 d6, bool01 y5 d5, d4⟩; exact h q (by omega)⟩)
            refine r_iload dX9_move_26 rfl ?_
            refine r_aload_n dX9_move_28 rfl ?_
            refine r_getE (nI (gs g 0)) kX9 (k := 0) (by decide) rfl fl_X9_7 (lay_ok hL rfl) dX9_move_29 s0 ?_
            refine r_icmp_ge 87 dX9_move_32 (by decide) (fun hq => absurd hq (nI_ge (by omega) (by omega))) (fun _ => ?_)
            refine r_iload_n dX9_move_35 rfl ?_
            refine r_if_eq 79 dX9_move_36 (by decide) (fun hq => absurd hq (by decide)) (fun _ => ?_)
            refine r_aload_n dX9_move_39 rfl ?_
            refine r_getF kX9 (k := 17) (by decide) rfl fl_X9_45 (lay_ok hL rfl) (lay_r hL rfl) dX9_move_40 ?_
            refine r_iload dX9_move_43 rfl ?_
            refine r_zaldE (0) (lay_ok hL rfl) (by omega) (by omega) dX9_move_45 (by rw [x6, bool01 y6 d6]; rfl) ?_
            refine r_if_ne 79 dX9_move_46 (by decide) (fun hq => absurd (by decide) hq) (fun _ => ?_)
            refine r_aload_n dX9_move_49 rfl ?_
            refine r_getF kX9 (k := 16) (by decide) rfl fl_X9_42 (lay_ok hL rfl) (lay_r hL rfl) dX9_move_50 ?_
            refine r_iload dX9_move_53 rfl ?_
            refine r_zaldE (0) (lay_ok hL rfl) (by omega) (by omega) dX9_move_55 (by rw [x5, bool01 y5 d5]; rfl) ?_
            refine r_if_ne 79 dX9_move_56 (by decide) (fun hq => absurd (by decide) hq) (fun _ => ?_)
            refine r_aload_n dX9_move_59 rfl ?_
            refine r_getF kX9 (k := 15) (by decide) rfl fl_X9_39 (lay_ok hL rfl) (lay_r hL rfl) dX9_move_60 ?_
            refine r_iload dX9_move_63 rfl ?_
            refine r_ialdE (nI (ga g 4 i)) (lay_ok hL rfl) (by omega) (by omega) dX9_move_65 x4 ?_
            refine r_aload_n dX9_move_66 rfl ?_
            refine r_getF kX9 (k := 15) (by decide) rfl fl_X9_39 (lay_ok hL rfl) (lay_r hL rfl) dX9_move_67 ?_
            refine r_iconst (nI 0) dX9_move_70 (by decide) ?_
            refine r_ialdE (nI (ga g 4 0)) (lay_ok hL rfl) (by omega) (by omega) dX9_move_71 x40 ?_
            refine r_icmp_ne 79 dX9_move_72 (by decide) (fun hq => absurd (by rw [d4]) hq) (fun _ => ?_)
            refine r_iconst (1) dX9_move_75 (by decide) ?_
            refine r_goto 80 dX9_move_76 (by decide) ?_
            refine r_istore_n _ dX9_move_80 (by decide) rfl ?_
            refine r_iinc (nI (i + 1)) _ dX9_move_81 (by decide) rfl (nI_1 _) rfl ?_
            refine r_goto 26 dX9_move_84 (by decide) ?_
            exact q
          · have q := no (fun z => d4 z.2.2)
            refine r_iload dX9_move_26 rfl ?_
            refine r_aload_n dX9_move_28 rfl ?_
            refine r_getE (nI (gs g 0)) kX9 (k := 0) (by decide) rfl fl_X9_7 (lay_ok hL rfl) dX9_move_29 s0 ?_
            refine r_icmp_ge 87 dX9_move_32 (by decide) (fun hq => absurd hq (nI_ge (by omega) (by omega))) (fun _ => ?_)
            refine r_iload_n dX9_move_35 rfl ?_
            refine r_if_eq 79 dX9_move_36 (by decide) (fun hq => absurd hq (by decide)) (fun _ => ?_)
            refine r_aload_n dX9_move_39 rfl ?_
            refine r_getF kX9 (k := 17) (by decide) rfl fl_X9_45 (lay_ok hL rfl) (lay_r hL rfl) dX9_move_40 ?_
            refine r_iload dX9_move_43 rfl ?_
            refine r_zaldE (0) (lay_ok hL rfl) (by omega) (by omega) dX9_move_45 (by rw [x6, bool01 y6 d6]; rfl) ?_
            refine r_if_ne 79 dX9_move_46 (by decide) (fun hq => absurd (by decide) hq) (fun _ => ?_)
            refine r_aload_n dX9_move_49 rfl ?_
            refine r_getF kX9 (k := 16) (by decide) rfl fl_X9_42 (lay_ok hL rfl) (lay_r hL rfl) dX9_move_50 ?_
            refine r_iload dX9_move_53 rfl ?_
            refine r_zaldE (0) (lay_ok hL rfl) (by omega) (by omega) dX9_move_55 (by rw [x5, bool01 y5 d5]; rfl) ?_
            refine r_if_ne 79 dX9_move_56 (by decide) (fun hq => absurd (by decide) hq) (fun _ => ?_)
            refine r_aload_n dX9_move_59 rfl ?_
            refine r_getF kX9 (k := 15) (by decide) rfl fl_X9_39 (lay_ok hL rfl) (lay_r hL rfl) dX9_move_60 ?_
            refine r_iload dX9_move_63 rfl ?_
            refine r_ialdE (nI (ga g 4 i)) (lay_ok hL rfl) (by omega) (by omega) dX9_move_65 x4 ?_
            refine r_aload_n dX9_move_66 rfl ?_
            refine r_getF kX9 (k := 15) (by decide) rfl fl_X9_39 (lay_ok hL rfl) (lay_r hL rfl) dX9_move_67 ?_
            refine r_iconst (nI 0) dX9_move_70 (by decide) ?_
            refine r_ialdE (nI (ga g 4 0)) (lay_ok hL rfl) (by omega) (by omega) dX9_move_71 x40 ?_
            refine r_icmp_ne 79 dX9_move_72 (by decide) (fun _ => ?_) (fun hq => absurd hq (fun z => d4 ((nI_eq (by omega) (by omega)).mp z)))
            refine r_iconst (0) dX9_move_79 (by decide) ?_
            refine r_istore_n _ dX9_move_80 (by decide) rfl ?_
            refine r_iinc (nI (i + 1)) _ dX9_move_81 (by decide) rfl (nI_1 _) rfl ?_
            refine r_goto 26 dX9_move_84 (by decide) ?_
            exact q
    · have q := ih (i + 1) 0 (by omega) (Or.inr ⟨rfl, fun z => h ⟨z.1, fun q hq => z.2 q (by omega)⟩⟩)
      refine r_iload dX9_move_26 rfl ?_
      refine r_aload_n dX9_move_28 rfl ?_
      refine r_getE (nI (gs g 0)) kX9 (k := 0) (by decide) rfl fl_X9_7 (lay_ok hL rfl) dX9_move_29 s0 ?_
      refine r_icmp_ge 87 dX9_move_32 (by decide) (fun hq => absurd hq (nI_ge (by omega) (by omega))) (fun _ => ?_)
      refine r_iload_n dX9_move_35 rfl ?_
      refine r_if_eq 79 dX9_move_36 (by decide) (fun _ => ?_) (fun hq => absurd rfl hq)
      refine r_iconst (0) dX9_move_79 (by decide) ?_
      refine r_istore_n _ dX9_move_80 (by decide) rfl ?_
      refine r_iinc (nI (i + 1)) _ dX9_move_81 (by decide) rfl (nI_1 _) rfl ?_
      refine r_goto 26 dX9_move_84 (by decide) ?_
      exact q
set_option maxHeartbeats 4000000 in
set_option maxRecDepth 100000 in
theorem k_X9_move {l : Launch} {X : Nat × (Nat → Int32)} {M : am_M} (hL : Lay M) {g : tG} {c0 : Nat} (hA : absM M g) (hI : gI c0 g) {x y : Int32} (hc : c0 ≤ 999) : am_C l yX9_move cX9_move 6 (some .int) 3 0 0 X [.ref 93, .int x, .int y] M (fun v M' => v = some (.int (k_move x y g).1) ∧ absM M' (k_move x y g).2 ∧ Lay M' ∧ am_fr rS M M') := by
  refine am_C.of (by decide) (by simp [Value.category, va_rf]) (Nat.le_of_ble_eq_true rfl) ?_
  have hB := hI.1
  obtain ⟨b0, b1, b2, b3, b4, b5, b6, b7, b8, b9, bV, bA, bN, bl, bn, bh⟩ := id hB
  obtain ⟨s0, s1, s2, s3, s4, s5, s6, s7, s8, s9⟩ := hA.1
  have s18 := hA.2.2.2.2.1.1
  have hL0 := hL
  rcases inN_cases x (k := gs g 1) (by omega) with ⟨e, c⟩ | ⟨v, hj, rfl, e⟩
  · have hk : k_move x y g = (-1, g) := by simp only [k_move, e]
    refine r_aload_n dX9_move_0 rfl ?_
    refine r_iload_n dX9_move_1 rfl ?_
    refine r_cV ca_yX9_isVertex ml_X9_151 im_yX9_isVertex se_yX9_isVertex (by decide) rfl (lay_ok hL rfl) (c_X9_isVertex hL s1 (by omega)) ⟨by decide, by decide⟩ (by first | decide | omega) (by first | decide | omega) rfl (Nat.le_of_ble_eq_true rfl) dX9_move_2 ?_
    refine r_top 0 (inN_no c) ?_
    refine r_if_eq 16 dX9_move_5 (by decide) (fun _ => ?_) (fun hq => absurd (by decide) hq)
    refine r_iconst (-1) dX9_move_16 (by decide) ?_
    exact r_iret (Or.inl rfl) dX9_move_17 ⟨by rw [hk], by rw [hk]; exact hA, hL0, am_fr.rf⟩
  · rcases inN_cases y (k := gs g 0) (by omega) with ⟨f, c⟩ | ⟨n, hb, rfl, f⟩
    · have hk : k_move (nI v) y g = (-1, g) := by simp only [k_move, e, f]
      refine r_aload_n dX9_move_0 rfl ?_
      refine r_iload_n dX9_move_1 rfl ?_
      refine r_cV ca_yX9_isVertex ml_X9_151 im_yX9_isVertex se_yX9_isVertex (by decide) rfl (lay_ok hL rfl) (c_X9_isVertex hL s1 (by omega)) ⟨by decide, by decide⟩ (by first | decide | omega) (by first | decide | omega) rfl (Nat.le_of_ble_eq_true rfl) dX9_move_2 ?_
      refine r_top 1 (inN_yes hj (by omega)) ?_
      refine r_if_eq 16 dX9_move_5 (by decide) (fun hq => absurd hq (by decide)) (fun _ => ?_)
      refine r_aload_n dX9_move_8 rfl ?_
      refine r_iload_n dX9_move_9 rfl ?_
      refine r_cV ca_yX9_isNode ml_X9_147 im_yX9_isNode se_yX9_isNode (by decide) rfl (lay_ok hL rfl) (c_X9_isNode hL s0 (by omega)) ⟨by decide, by decide⟩ (by first | decide | omega) (by first | decide | omega) rfl (Nat.le_of_ble_eq_true rfl) dX9_move_10 ?_
      refine r_top 0 (inN_no c) ?_
      refine r_if_ne 18 dX9_move_13 (by decide) (fun hq => absurd (by decide) hq) (fun _ => ?_)
      refine r_iconst (-1) dX9_move_16 (by decide) ?_
      exact r_iret (Or.inl rfl) dX9_move_17 ⟨by rw [hk], by rw [hk]; exact hA, hL0, am_fr.rf⟩
    · skip
      refine r_aload_n dX9_move_0 rfl ?_
      refine r_iload_n dX9_move_1 rfl ?_
      refine r_cV ca_yX9_isVertex ml_X9_151 im_yX9_isVertex se_yX9_isVertex (by decide) rfl (lay_ok hL rfl) (c_X9_isVertex hL s1 (by omega)) ⟨by decide, by decide⟩ (by first | decide | omega) (by first | decide | omega) rfl (Nat.le_of_ble_eq_true rfl) dX9_move_2 ?_
      refine r_top 1 (inN_yes hj (by omega)) ?_
      refine r_if_eq 16 dX9_move_5 (by decide) (fun hq => absurd hq (by decide)) (fun _ => ?_)
      refine r_aload_n dX9_move_8 rfl ?_
      refine r_iload_n dX9_move_9 rfl ?_
      refine r_cV ca_yX9_isNode ml_X9_147 im_yX9_isNode se_yX9_isNode (by decide) rfl (lay_ok hL rfl) (c_X9_isNode hL s0 (by omega)) ⟨by decide, by decide⟩ (by first | decide | omega) (by first | decide | omega) rfl (Nat.le_of_ble_eq_true rfl) dX9_move_10 ?_
      refine r_top 1 (inN_yes hb (by omega)) ?_
      refine r_if_ne 18 dX9_move_13 (by decide) (fun _ => ?_) (fun hq => absurd hq (by decide))
      refine r_aload_n dX9_move_18 rfl ?_
      refine r_getE (nI (gs g 6)) kX9 (k := 6) (by decide) rfl fl_X9_131 (lay_ok hL rfl) dX9_move_19 s6 ?_
      refine r_istore_n _ dX9_move_22 (by decide) rfl ?_
      refine r_iconst (nI 0) dX9_move_23 (by decide) ?_
      refine r_istore _ dX9_move_24 (by decide) rfl ?_
      exact l1_X9_move hA hI hc hL hj hb e f (gs g 0) 0 (gs g 6) (by omega) (by rcases (show gs g 6 = 0 ∨ gs g 6 = 1 by omega) with z | z; exact Or.inr ⟨z, fun y => by omega⟩; exact Or.inl ⟨z, z, fun q hq => absurd hq (by omega)⟩)
