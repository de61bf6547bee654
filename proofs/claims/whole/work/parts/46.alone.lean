/-! ONE NODE ALONE -/
def xL (M : am_M) (h : tG) (i : Nat) : Prop := ∀ v, v < i → mI M 13 v = gi h 1 v ∧ mI M 14 v = gi h 2 v ∧ mI M 15 v = nI (ga h 1 v)
theorem xL.fr {S : Nat → Prop} {M M' : am_M} {h : tG} {i : Nat} (f : am_fr S M M') (h1 : ¬ S 13) (h2 : ¬ S 14) (h3 : ¬ S 15) (k : xL M h i) : xL M' h i := fun v hv => ⟨f.i h1 (k v hv).1, f.i h2 (k v hv).2.1, f.i h3 (k v hv).2.2⟩
theorem gs_settle (B : tB) (v : Nat) (g : tG) : gs (g_settle B v g) = gs g := (sameT_settle B v g).1
theorem xL_settle {M : am_M} {h : tG} {B : tB} {v : Nat} (k : xL M h (gs h 1)) (hb : BX M B) (hv : v < gs h 1) (h16 : gs h 1 ≤ 16) : xL (x_settle M (gs h 3) v 13 14 15) (g_settle B v h) (gs h 1) ∧ am_fr (fun x => x = 13 ∨ x = 14 ∨ x = 15) M (x_settle M (gs h 3) v 13 14 15) := by
  have e := BX_after hb (k := gs h 3) (show v < 16 by omega) (mI M 13 v)
  obtain ⟨v1, v2, v3⟩ := k v hv
  rw [v1] at e
  by_cases c : gs h 3 = 2
  · have e1 : x_settle M (gs h 3) v 13 14 15 = wI (wI (wI M 13 v (t_behind 2 B v (gi h 1 v))) 14 v (gi h 2 v + t_behind 2 B v (gi h 1 v))) 15 v (if t_behind 2 B v (gi h 1 v) = 0 then 0 else 1) := by
      unfold x_settle
      rw [if_pos c, v1, e, v2, c]
    have e2 : g_settle B v h = ua (ui (ui h 1 v (t_behind 2 B v (gi h 1 v))) 2 v (gi h 2 v + t_behind 2 B v (gi h 1 v))) 1 v (if t_behind 2 B v (gi h 1 v) = 0 then 0 else 1) := if_pos c
    rw [e1, e2]
    refine ⟨fun u hu => ?_, ⟨rfl, rfl, rfl, fun x hx => by rw [mI_wI_n _ _ _ (fun z => hx (Or.inr (Or.inr z))), mI_wI_n _ _ _ (fun z => hx (Or.inr (Or.inl z))), mI_wI_n _ _ _ (fun z => hx (Or.inl z))]⟩⟩
    obtain ⟨u1, u2, u3⟩ := k u hu
    rw [gi_ua]
    by_cases d : u = v
    · subst d
      simp [mI_wI, ga_ua, gi_ui]
      split <;> rfl
    · simp [mI_wI, ga_ua, gi_ui, ga_ui, d, u1, u2, u3]
  · have e1 : x_settle M (gs h 3) v 13 14 15 = wI (wI M 13 v (t_behind (gs h 3) B v (gi h 1 v))) 15 v (if t_behind (gs h 3) B v (gi h 1 v) = gi h 1 v then 0 else 1) := by
      unfold x_settle
      rw [if_neg c, v1, e]
    have e2 : g_settle B v h = ua (ui h 1 v (t_behind (gs h 3) B v (gi h 1 v))) 1 v (if t_behind (gs h 3) B v (gi h 1 v) = gi h 1 v then 0 else 1) := if_neg c
    rw [e1, e2]
    refine ⟨fun u hu => ?_, ⟨rfl, rfl, rfl, fun x hx => by rw [mI_wI_n _ _ _ (fun z => hx (Or.inr (Or.inr z))), mI_wI_n _ _ _ (fun z => hx (Or.inl z))]⟩⟩
    obtain ⟨u1, u2, u3⟩ := k u hu
    rw [gi_ua]
    by_cases d : u = v
    · subst d
      simp [mI_wI, ga_ua, gi_ui, u2]
      split <;> rfl
    · simp [mI_wI, ga_ua, gi_ui, ga_ui, d, u1, u2, u3]
theorem sameT_oP (h : tG) : ∀ i, sameT h (o_takeP h i)
  | 0 => sameT.rf
  | i + 1 => (sameT_oP h i).tr (sameT_settle _ i _)
theorem sameT_first (g : tG) : ∀ i, sameT g (o_first g i)
  | 0 => sameT.rf
  | i + 1 => by
    refine (sameT_first g i).tr ⟨rfl, rfl, rfl, rfl, rfl, fun k hk => ?_, fun k h1 h2 => ?_, fun z v => ?_⟩
    · show ga (ua (ui (ui (o_first g i) 1 i (gi g 0 i)) 2 i 0) 1 i 1) k = _
      rw [ga_uaf _ _ _ hk]; rfl
    · show gi (ui (ui (o_first g i) 1 i (gi g 0 i)) 2 i 0) k = _
      rw [gi_uif _ _ _ h2, gi_uif _ _ _ h1]
    · show ga (ua (ui (ui (o_first g i) 1 i (gi g 0 i)) 2 i 0) 1 i 1) 1 v ≤ 1
      rw [ga_ua]
      split
      · exact Nat.le_refl _
      · exact z v
theorem sameT_at (g : tG) : ∀ r, sameT g (o_at g r)
  | 0 => sameT_first g _
  | r + 1 => (sameT_at g r).tr (sameT_oP _ _)
theorem oP_le {h : tG} (k : ∀ u, u < gs h 1 → ga h 1 u ≤ 1) : ∀ i, ∀ u, u < gs h 1 → ga (o_takeP h i) 1 u ≤ 1
  | 0 => k
  | i + 1 => fun u hu => by
    have s := sameT_oP h i
    exact settle_le (g := o_takeP h i) (B := o_boxP h (gs h 2)) (v := i) (fun u hu => oP_le k i u (by rw [s.1] at hu; exact hu)) u (by rw [s.1]; exact hu)
theorem at_le (g : tG) : ∀ r, ∀ u, u < gs g 1 → ga (o_at g r) 1 u ≤ 1
  | 0 => fun u hu => by
    have : ∀ i, u < i → ga (o_first g i) 1 u = 1 := fun i => by
      induction i with
      | zero => intro h; omega
      | succ i ih =>
        intro h
        show ga (ua (ui (ui (o_first g i) 1 i (gi g 0 i)) 2 i 0) 1 i 1) 1 u = 1
        rw [ga_ua]
        split
        · rfl
        · exact ih (by omega)
    exact Nat.le_of_eq (this _ hu)
  | r + 1 => fun u hu => by
    have s := sameT_at g r
    exact oP_le (h := o_at g r) (fun u hu => at_le g r u (by rw [s.1] at hu; exact hu)) _ u (by rw [s.1]; exact hu)
set_option maxHeartbeats 4000000 in
set_option maxRecDepth 100000 in
theorem l2_X8_workAlone {l : Launch} {X : Nat × (Nat → Int32)} {M : am_M} {g h : tG} (hB : gB g) (st : sameT g h) (hl : ∀ u, u < gs g 1 → ga h 1 u ≤ 1) : ∀ (k i : Nat) (N : am_M), i + k = gs g 1 → Lay N → absX N g → xL N (o_takeP h i) (gs g 1) → BX N (o_boxP h (gs h 2)) → am_gr (fun x => x ≤ 92) M N → am_V l yX8_workAlone cX8_workAlone 2 none (am_R 4 0 0) 0 0 X (fun v' M' => v' = none ∧ absX M' g ∧ xL M' (o_round h) (gs g 1) ∧ Lay M' ∧ am_gr (fun x => x ≤ 92) M M') 0 0 84 [some (.ref 1), some (.int (nI i))] [] N := by
  intro k
  obtain ⟨b0, b1, b2, b3, b4, b5, -, -, -, -, bV, bA, bN, -, -, bh⟩ := id hB
  have es : gs h = gs g := st.1
  have e2 : ga h 2 = ga g 2 := st.2.2.2.2.2.1 2 (by decide)
  have e3 : ga h 3 = ga g 3 := st.2.2.2.2.2.1 3 (by decide)
  have ei : gi h 3 = gi g 3 := st.2.2.2.2.2.2.1 3 (by decide) (by decide)
  induction k with
  | zero =>
    intro i N hi hL hA hx hb hg
    obtain rfl : i = gs g 1 := by omega
    have s5 := hA.1.2.1
    have er : o_round h = o_takeP h (gs g 1) := by show o_takeP h (gs h 1) = _; rw [es]
    refine r_iload_n dX8_workAlone_84 rfl ?_
    refine r_aload_n dX8_workAlone_85 rfl ?_
    refine r_getF kX8 (k := 0) (by decide) rfl fl_X8_12 (lay_ok hL rfl) (lay_r hL rfl) dX8_workAlone_86 ?_
    refine r_getE (nI (gs g 1)) kX1 (k := 5) (by decide) rfl fl_X8_64 (lay_ok hL rfl) dX8_workAlone_89 s5 ?_
    refine r_icmp_ge 120 dX8_workAlone_92 (by decide) (fun _ => ?_) (fun hq => absurd (nI_le (Nat.le_refl _) (by omega)) hq)
    exact r_vret rfl dX8_workAlone_120 ⟨rfl, hA, by rw [er]; exact hx, hL, hg⟩
  | succ k ih =>
    intro i N hi hL hA hx hb hg
    have s5 := hA.1.2.1
    have s7 := hA.1.2.2.2.1
    have sp : gs (o_takeP h i) = gs g := (sameT_oP h i).1.trans es
    refine r_iload_n dX8_workAlone_84 rfl ?_
    refine r_aload_n dX8_workAlone_85 rfl ?_
    refine r_getF kX8 (k := 0) (by decide) rfl fl_X8_12 (lay_ok hL rfl) (lay_r hL rfl) dX8_workAlone_86 ?_
    refine r_getE (nI (gs g 1)) kX1 (k := 5) (by decide) rfl fl_X8_64 (lay_ok hL rfl) dX8_workAlone_89 s5 ?_
    refine r_icmp_ge 120 dX8_workAlone_92 (by decide) (fun hq => absurd hq (nI_ge (by omega) (by omega))) (fun _ => ?_)
    refine r_aload_n dX8_workAlone_95 rfl ?_
    refine r_getF kX8 (k := 3) (by decide) rfl fl_X8_31 (lay_ok hL rfl) (lay_r hL rfl) dX8_workAlone_96 ?_
    refine r_aload_n dX8_workAlone_99 rfl ?_
    refine r_getF kX8 (k := 0) (by decide) rfl fl_X8_12 (lay_ok hL rfl) (lay_r hL rfl) dX8_workAlone_100 ?_
    refine r_getE (nI (gs g 3)) kX1 (k := 7) (by decide) rfl fl_X8_116 (lay_ok hL rfl) dX8_workAlone_103 s7 ?_
    refine r_iload_n dX8_workAlone_106 rfl ?_
    refine r_aload_n dX8_workAlone_107 rfl ?_
    refine r_getF kX8 (k := 2) (by decide) rfl fl_X8_25 (lay_ok hL rfl) (lay_r hL rfl) dX8_workAlone_108 ?_
    refine r_cV ca_yX2_settle ml_X8_288 im_yX2_settle se_yX2_settle (by decide) rfl (lay_ok hL rfl) (c_X2_settle hL (k := gs g 3) (v := i) (va := 12) (p := 13) (q := 14) (r := 15) (lay_ok hL rfl) (lay_r hL rfl) (lay_r hL rfl) (lay_r hL rfl) (lay_ok hL rfl) (lay_ok hL rfl) (lay_ok hL rfl) b4 (by omega) (by decide)) ⟨by decide, by decide⟩ (by first | decide | omega) (by first | decide | omega) rfl (Nat.le_of_ble_eq_true rfl) dX8_workAlone_111 ?_
    have q := xL_settle (M := N) (h := o_takeP h i) (v := i) (by rw [sp]; exact hx) hb (by rw [sp]; omega) (by rw [sp]; exact b2)
    rw [sp] at q
    obtain ⟨hx1, hf⟩ := q
    have hb1 := BX.fr hf (by omega) (by omega) (by omega) hb
    have hA1 : absX _ g := hA.gr hf.gr hL.1 (fun x _ e => by rcases e with e | e | e <;> omega)
    have hg1 := hg.tr (hf.gr.wd (fun x _ e => by show x ≤ 92; omega))
    refine r_lay (hf.lay hL) (fun hL => ?_)
    refine r_iinc (nI (i + 1)) _ dX8_workAlone_114 (by decide) rfl (nI_1 _) rfl ?_
    refine r_goto 84 dX8_workAlone_117 (by decide) ?_
    exact ih (i + 1) _ (by omega) hL hA1 hx1 hb1 hg1
set_option maxHeartbeats 4000000 in
set_option maxRecDepth 100000 in
theorem l1_X8_workAlone {l : Launch} {X : Nat × (Nat → Int32)} {M : am_M} {g h : tG} (hB : gB g) (st : sameT g h) (hl : ∀ u, u < gs g 1 → ga h 1 u ≤ 1) : ∀ (k i : Nat) (N : am_M), i + k = gs g 2 → Lay N → absX N g → xL N h (gs g 1) → BX N (o_boxP h i) → am_gr (fun x => x ≤ 92) M N → am_V l yX8_workAlone cX8_workAlone 2 none (am_R 4 0 0) 0 0 X (fun v' M' => v' = none ∧ absX M' g ∧ xL M' (o_round h) (gs g 1) ∧ Lay M' ∧ am_gr (fun x => x ≤ 92) M M') 0 0 9 [some (.ref 1), some (.int (nI i))] [] N := by
  intro k
  obtain ⟨b0, b1, b2, b3, b4, b5, -, -, -, -, bV, bA, bN, -, -, bh⟩ := id hB
  have es : gs h = gs g := st.1
  have e2 : ga h 2 = ga g 2 := st.2.2.2.2.2.1 2 (by decide)
  have e3 : ga h 3 = ga g 3 := st.2.2.2.2.2.1 3 (by decide)
  have ei : gi h 3 = gi g 3 := st.2.2.2.2.2.2.1 3 (by decide) (by decide)
  induction k with
  | zero =>
    intro i N hi hL hA hx hb hg
    obtain rfl : i = gs g 2 := by omega
    have s6 := hA.1.2.2.1
    refine r_iload_n dX8_workAlone_9 rfl ?_
    refine r_aload_n dX8_workAlone_10 rfl ?_
    refine r_getF kX8 (k := 0) (by decide) rfl fl_X8_12 (lay_ok hL rfl) (lay_r hL rfl) dX8_workAlone_11 ?_
    refine r_getE (nI (gs g 2)) kX1 (k := 6) (by decide) rfl fl_X8_109 (lay_ok hL rfl) dX8_workAlone_14 s6 ?_
    refine r_icmp_ge 82 dX8_workAlone_17 (by decide) (fun _ => ?_) (fun hq => absurd (nI_le (Nat.le_refl _) (by omega)) hq)
    refine r_iconst (nI 0) dX8_workAlone_82 (by decide) ?_
    refine r_istore_n _ dX8_workAlone_83 (by decide) rfl ?_
    exact l2_X8_workAlone hB st hl (gs g 1) 0 N (by omega) hL hA hx (by rw [es]; exact hb) hg
  | succ k ih =>
    intro i N hi hL hA hx hb hg
    have s6 := hA.1.2.2.1
    have s7 := hA.1.2.2.2.1
    obtain ⟨a5, a6, a7⟩ := hA.2.2.1 i (by omega)
    obtain ⟨w1, w2⟩ := bA i (by omega)
    obtain ⟨x1, x2, x3⟩ := hx _ w1
    have q3 := hl _ w1
    have hst : o_boxP h (i + 1) = if ga h 1 (ga g 2 i) = 1 then t_hear (gs g 3) (o_boxP h i) (ga g 3 i) (t_msg (gs g 3) (gi h 1 (ga g 2 i)) (gi g 3 i)) i else o_boxP h i := by
      rw [show o_boxP h (i + 1) = if ga h 1 (ga h 2 i) = 1 then t_hear (gs h 3) (o_boxP h i) (ga h 3 i) (t_msg (gs h 3) (gi h 1 (ga h 2 i)) (gi h 3 i)) i else o_boxP h i from rfl, es, e2, e3, ei]
    refine r_iload_n dX8_workAlone_9 rfl ?_
    refine r_aload_n dX8_workAlone_10 rfl ?_
    refine r_getF kX8 (k := 0) (by decide) rfl fl_X8_12 (lay_ok hL rfl) (lay_r hL rfl) dX8_workAlone_11 ?_
    refine r_getE (nI (gs g 2)) kX1 (k := 6) (by decide) rfl fl_X8_109 (lay_ok hL rfl) dX8_workAlone_14 s6 ?_
    refine r_icmp_ge 82 dX8_workAlone_17 (by decide) (fun hq => absurd hq (nI_ge (by omega) (by omega))) (fun _ => ?_)
    refine r_aload_n dX8_workAlone_20 rfl ?_
    refine r_getF kX8 (k := 2) (by decide) rfl fl_X8_25 (lay_ok hL rfl) (lay_r hL rfl) dX8_workAlone_21 ?_
    refine r_getF kX7 (k := 2) (by decide) rfl fl_X8_265 (lay_ok hL rfl) (lay_r hL rfl) dX8_workAlone_24 ?_
    refine r_aload_n dX8_workAlone_27 rfl ?_
    refine r_getF kX8 (k := 0) (by decide) rfl fl_X8_12 (lay_ok hL rfl) (lay_r hL rfl) dX8_workAlone_28 ?_
    refine r_getF kX1 (k := 2) (by decide) rfl fl_X8_268 (lay_ok hL rfl) (lay_r hL rfl) dX8_workAlone_31 ?_
    refine r_iload_n dX8_workAlone_34 rfl ?_
    refine r_ialdE (nI (ga g 2 i)) (lay_ok hL rfl) (by omega) (by omega) dX8_workAlone_35 a5 ?_
    refine r_zaldE (nI (ga h 1 (ga g 2 i))) (lay_ok hL rfl) (by omega) (by omega) dX8_workAlone_36 x3 ?_
    refine r_if_eq 76 dX8_workAlone_37 (by decide) (fun c37 => ?_) (fun c37 => ?_)
    · refine r_iinc (nI (i + 1)) _ dX8_workAlone_76 (by decide) rfl (nI_1 _) rfl ?_
      refine r_goto 9 dX8_workAlone_79 (by decide) ?_
      exact ih (i + 1) N (by omega) hL hA hx (by rw [hst, if_neg (fun z => absurd c37 (by rw [z]; decide))]; exact hb) hg
    · refine r_aload_n dX8_workAlone_40 rfl ?_
      refine r_getF kX8 (k := 3) (by decide) rfl fl_X8_31 (lay_ok hL rfl) (lay_r hL rfl) dX8_workAlone_41 ?_
      refine r_aload_n dX8_workAlone_44 rfl ?_
      refine r_getF kX8 (k := 0) (by decide) rfl fl_X8_12 (lay_ok hL rfl) (lay_r hL rfl) dX8_workAlone_45 ?_
      refine r_getE (nI (gs g 3)) kX1 (k := 7) (by decide) rfl fl_X8_116 (lay_ok hL rfl) dX8_workAlone_48 s7 ?_
      refine r_aload_n dX8_workAlone_51 rfl ?_
      refine r_getF kX8 (k := 0) (by decide) rfl fl_X8_12 (lay_ok hL rfl) (lay_r hL rfl) dX8_workAlone_52 ?_
      refine r_getF kX1 (k := 3) (by decide) rfl fl_X8_271 (lay_ok hL rfl) (lay_r hL rfl) dX8_workAlone_55 ?_
      refine r_iload_n dX8_workAlone_58 rfl ?_
      refine r_ialdE (nI (ga g 3 i)) (lay_ok hL rfl) (by omega) (by omega) dX8_workAlone_59 a6 ?_
      refine r_aload_n dX8_workAlone_60 rfl ?_
      refine r_getF kX8 (k := 0) (by decide) rfl fl_X8_12 (lay_ok hL rfl) (lay_r hL rfl) dX8_workAlone_61 ?_
      refine r_iload_n dX8_workAlone_64 rfl ?_
      refine r_aload_n dX8_workAlone_65 rfl ?_
      refine r_getF kX8 (k := 2) (by decide) rfl fl_X8_25 (lay_ok hL rfl) (lay_r hL rfl) dX8_workAlone_66 ?_
      refine r_cV ca_yX1_message ml_X8_274 im_yX1_message se_yX1_message (by decide) rfl (lay_ok hL rfl) (c_X1_message hL (va := 12) (p := 13) (q := 14) (r := 15) (lay_ok hL rfl) (lay_r hL rfl) (lay_r hL rfl) (lay_r hL rfl) (lay_ok hL rfl) (lay_ok hL rfl) (lay_ok hL rfl) (a := i) (t := ga g 2 i) (k := gs g 3) (by omega) a5 (by omega) s7 b4) ⟨by decide, by decide⟩ (by first | decide | omega) (by first | decide | omega) rfl (Nat.le_of_ble_eq_true rfl) dX8_workAlone_69 ?_
      refine r_top (t_msg (gs g 3) (gi h 1 (ga g 2 i)) (gi g 3 i)) (by rw [x1, a7]) ?_
      refine r_iload_n dX8_workAlone_72 rfl ?_
      refine r_cV ca_yX2_put ml_X8_277 im_yX2_put se_yX2_put (by decide) rfl (lay_ok hL rfl) (c_X2_put hL b4 (v := ga g 3 i) (a := i) (by omega)) ⟨by decide, by decide⟩ (by first | decide | omega) (by first | decide | omega) rfl (Nat.le_of_ble_eq_true rfl) dX8_workAlone_73 ?_
      have hf := x_put_fr N (gs g 3) (ga g 3 i) (t_msg (gs g 3) (gi h 1 (ga g 2 i)) (gi g 3 i)) i
      have hb1 := BX_put hb (k := gs g 3) (v := ga g 3 i) (m := t_msg (gs g 3) (gi h 1 (ga g 2 i)) (gi g 3 i)) (a := i) (by omega) (by omega)
      have hA1 : absX _ g := hA.gr hf.gr hL.1 (fun x _ e => by rcases e with e | e | e <;> omega)
      have hx1 := hx.fr hf (by unfold s_box; omega) (by unfold s_box; omega) (by unfold s_box; omega)
      have hg1 := hg.tr (hf.gr.wd (fun x _ e => by show x ≤ 92; rcases e with e | e | e <;> omega))
      refine r_lay (hf.lay hL) (fun hL => ?_)
      refine r_iinc (nI (i + 1)) _ dX8_workAlone_76 (by decide) rfl (nI_1 _) rfl ?_
      refine r_goto 9 dX8_workAlone_79 (by decide) ?_
      exact ih (i + 1) _ (by omega) hL hA1 hx1 (by rw [hst, if_pos (Nat.le_antisymm q3 (Nat.pos_of_ne_zero (fun z => c37 (by rw [z]; rfl))))]; exact hb1) hg1
set_option maxHeartbeats 4000000 in
set_option maxRecDepth 100000 in
theorem c_X8_workAlone {l : Launch} {X : Nat × (Nat → Int32)} {M : am_M} (hL : Lay M) {g h : tG} (hB : gB g) (st : sameT g h) (hl : ∀ u, u < gs g 1 → ga h 1 u ≤ 1) (hX : absX M g) (hx : xL M h (gs g 1)) : am_C l yX8_workAlone cX8_workAlone 2 none 4 0 0 X [.ref 1] M (fun v' M' => v' = none ∧ absX M' g ∧ xL M' (o_round h) (gs g 1) ∧ Lay M' ∧ am_gr (fun x => x ≤ 92) M M') := by
  refine am_C.of (by decide) (by simp [Value.category, va_rf]) (Nat.le_of_ble_eq_true rfl) ?_
  refine r_aload_n dX8_workAlone_0 rfl ?_
  refine r_getF kX8 (k := 3) (by decide) rfl fl_X8_31 (lay_ok hL rfl) (lay_r hL rfl) dX8_workAlone_1 ?_
  refine r_cV ca_yX2_clear ml_X8_260 im_yX2_clear se_yX2_clear (by decide) rfl (lay_ok hL rfl) (c_X2_clear hL) ⟨by decide, by decide⟩ (by first | decide | omega) (by first | decide | omega) rfl (Nat.le_of_ble_eq_true rfl) dX8_workAlone_4 ?_
  have f0 : am_fr (fun x => x = 17) M (wF M 17 (fl (mI M 17) 16 0)) := ⟨rfl, rfl, rfl, fun x hx => mI_wF_n _ _ hx⟩
  have hb0 := BX_clear M
  have hA0 : absX _ g := hX.gr f0.gr hL.1 (fun x _ (e : x = 17) => by omega)
  have hx0 := hx.fr f0 (by decide) (by decide) (by decide)
  refine r_lay (lay_wF hL _ _) (fun hL => ?_)
  refine r_iconst (nI 0) dX8_workAlone_7 (by decide) ?_
  refine r_istore_n _ dX8_workAlone_8 (by decide) rfl ?_
  exact l1_X8_workAlone hB st hl (gs g 2) 0 _ (by omega) hL hA0 hx0 hb0 (f0.gr.wd (fun x _ (e : x = 17) => by show x ≤ 92; omega))
set_option maxHeartbeats 4000000 in
set_option maxRecDepth 100000 in
theorem l2_X8_alone {l : Launch} {X : Nat × (Nat → Int32)} {M : am_M} {g : tG} {j r : Nat} {z : Int32} (hB : gB g) (hj : j < gs g 1) (hr : r ≤ 200) (hk : k_alone (nI j) (nI r) z g = t_tell (o_at g r) j z) : ∀ (k i : Nat) (N : am_M), i + k = r → Lay N → absX N g → xL N (o_at g i) (gs g 1) → am_gr (fun x => x ≤ 92) M N → am_V l yX8_alone cX8_alone 5 (some .long) (am_R 5 0 0) 0 0 X (fun v' M' => v' = some (.long (k_alone (nI j) (nI r) z g)) ∧ absX M' g ∧ Lay M' ∧ am_gr (fun x => x ≤ 92) M M') 0 0 66 [some (.ref 1), some (.int (nI j)), some (.int (nI r)), some (.int z), some (.int (nI i))] [] N := by
  intro k
  have b2 := hB.2.2.1
  induction k with
  | zero =>
    intro i N hi hL hA hx hg
    obtain rfl : i = r := by omega
    obtain ⟨v3, v4, v5⟩ := hx j hj
    refine r_iload dX8_alone_66 rfl ?_
    refine r_iload_n dX8_alone_68 rfl ?_
    refine r_icmp_ge 82 dX8_alone_69 (by decide) (fun _ => ?_) (fun hq => absurd (nI_le (Nat.le_refl _) (by omega)) hq)
    refine r_aload_n dX8_alone_82 rfl ?_
    refine r_getF kX8 (k := 2) (by decide) rfl fl_X8_25 (lay_ok hL rfl) (lay_r hL rfl) dX8_alone_83 ?_
    refine r_iload_n dX8_alone_86 rfl ?_
    refine r_iload_n dX8_alone_87 rfl ?_
    refine r_cV ca_yX7_tell ml_X8_226 im_yX7_tell se_yX7_tell (by decide) rfl (lay_ok hL rfl) (c_X7_tell hL (va := 12) (p := 13) (q := 14) (r := 15) (lay_ok hL rfl) (lay_r hL rfl) (lay_r hL rfl) (lay_r hL rfl) (lay_ok hL rfl) (lay_ok hL rfl) (lay_ok hL rfl) (v := j) (by omega)) ⟨by decide, by decide⟩ (by first | decide | omega) (by first | decide | omega) rfl (Nat.le_of_ble_eq_true rfl) dX8_alone_88 ?_
    exact r_lret rfl dX8_alone_91 ⟨by rw [hk, tell_eq v3 v4 v5 (at_le g i j hj)], hA, hL, hg⟩
  | succ k ih =>
    intro i N hi hL hA hx hg
    refine r_iload dX8_alone_66 rfl ?_
    refine r_iload_n dX8_alone_68 rfl ?_
    refine r_icmp_ge 82 dX8_alone_69 (by decide) (fun hq => absurd hq (nI_ge (by omega) (by omega))) (fun _ => ?_)
    refine r_aload_n dX8_alone_72 rfl ?_
    refine r_callV ca_yX8_workAlone ml_X8_233 im_yX8_workAlone se_yX8_workAlone (by decide) rfl (lay_ok hL rfl) (c_X8_workAlone hL hB (sameT_at g i) (at_le g i) hA hx) ⟨by decide, by decide⟩ (by first | decide | omega) (by first | decide | omega) rfl (Nat.le_of_ble_eq_true rfl) dX8_alone_73 (fun v0 M1 hp1 => ?_)
    obtain ⟨rfl, hA2, hx2, hL2, hg2⟩ := hp1
    refine r_iinc (nI (i + 1)) _ dX8_alone_76 (by decide) rfl (nI_1 _) rfl ?_
    refine r_goto 66 dX8_alone_79 (by decide) ?_
    exact ih (i + 1) M1 (by omega) hL2 hA2 hx2 (hg.tr hg2)
set_option maxHeartbeats 4000000 in
set_option maxRecDepth 100000 in
theorem l1_X8_alone {l : Launch} {X : Nat × (Nat → Int32)} {M : am_M} {g : tG} {j r : Nat} {z : Int32} (hB : gB g) (hj : j < gs g 1) (hr : r ≤ 200) (hk : k_alone (nI j) (nI r) z g = t_tell (o_at g r) j z) : ∀ (k i : Nat) (N : am_M), i + k = gs g 1 → Lay N → absX N g → xL N (o_first g i) i → am_gr (fun x => x ≤ 92) M N → am_V l yX8_alone cX8_alone 5 (some .long) (am_R 5 0 0) 0 0 X (fun v' M' => v' = some (.long (k_alone (nI j) (nI r) z g)) ∧ absX M' g ∧ Lay M' ∧ am_gr (fun x => x ≤ 92) M M') 0 0 26 [some (.ref 1), some (.int (nI j)), some (.int (nI r)), some (.int z), some (.int (nI i))] [] N := by
  intro k
  have b2 := hB.2.2.1
  induction k with
  | zero =>
    intro i N hi hL hA hx hg
    obtain rfl : i = gs g 1 := by omega
    have s5 := hA.1.2.1
    refine r_iload dX8_alone_26 rfl ?_
    refine r_aload_n dX8_alone_28 rfl ?_
    refine r_getF kX8 (k := 0) (by decide) rfl fl_X8_12 (lay_ok hL rfl) (lay_r hL rfl) dX8_alone_29 ?_
    refine r_getE (nI (gs g 1)) kX1 (k := 5) (by decide) rfl fl_X8_64 (lay_ok hL rfl) dX8_alone_32 s5 ?_
    refine r_icmp_ge 63 dX8_alone_35 (by decide) (fun _ => ?_) (fun hq => absurd (nI_le (Nat.le_refl _) (by omega)) hq)
    refine r_iconst (nI 0) dX8_alone_63 (by decide) ?_
    refine r_istore _ dX8_alone_64 (by decide) rfl ?_
    exact l2_X8_alone hB hj hr hk r 0 N (by omega) hL hA hx hg
  | succ k ih =>
    intro i N hi hL hA hx hg
    have s5 := hA.1.2.1
    have v4 := (hA.2.1 i (by omega)).2.1
    have f0 : am_fr (fun x => x = 13 ∨ x = 14 ∨ x = 15) N (wI (wI (wI N 13 i (gi g 0 i)) 14 i 0) 15 i 1) := ⟨rfl, rfl, rfl, fun x hx => by rw [mI_wI_n _ _ _ (fun z => hx (Or.inr (Or.inr z))), mI_wI_n _ _ _ (fun z => hx (Or.inr (Or.inl z))), mI_wI_n _ _ _ (fun z => hx (Or.inl z))]⟩
    have hx1 : xL (wI (wI (wI N 13 i (gi g 0 i)) 14 i 0) 15 i 1) (o_first g (i + 1)) (i + 1) := fun v hv => by
      show _ = gi (ui (ui (o_first g i) 1 i (gi g 0 i)) 2 i 0) 1 v ∧ _ = gi (ui (ui (o_first g i) 1 i (gi g 0 i)) 2 i 0) 2 v ∧ _ = nI (ga (ua (ui (ui (o_first g i) 1 i (gi g 0 i)) 2 i 0) 1 i 1) 1 v)
      by_cases c : v = i
      · subst c
        simp [mI_wI, ga_ua, gi_ui]
        decide
      · obtain ⟨u1, u2, u3⟩ := hx v (by omega)
        simp [mI_wI, ga_ua, gi_ui, ga_ui, c, u1, u2, u3]
    refine r_iload dX8_alone_26 rfl ?_
    refine r_aload_n dX8_alone_28 rfl ?_
    refine r_getF kX8 (k := 0) (by decide) rfl fl_X8_12 (lay_ok hL rfl) (lay_r hL rfl) dX8_alone_29 ?_
    refine r_getE (nI (gs g 1)) kX1 (k := 5) (by decide) rfl fl_X8_64 (lay_ok hL rfl) dX8_alone_32 s5 ?_
    refine r_icmp_ge 63 dX8_alone_35 (by decide) (fun hq => absurd hq (nI_ge (by omega) (by omega))) (fun _ => ?_)
    refine r_aload_n dX8_alone_38 rfl ?_
    refine r_getF kX8 (k := 2) (by decide) rfl fl_X8_25 (lay_ok hL rfl) (lay_r hL rfl) dX8_alone_39 ?_
    refine r_iload dX8_alone_42 rfl ?_
    refine r_aload_n dX8_alone_44 rfl ?_
    refine r_getF kX8 (k := 0) (by decide) rfl fl_X8_12 (lay_ok hL rfl) (lay_r hL rfl) dX8_alone_45 ?_
    refine r_getF kX1 (k := 1) (by decide) rfl fl_X8_230 (lay_ok hL rfl) (lay_r hL rfl) dX8_alone_48 ?_
    refine r_iload dX8_alone_51 rfl ?_
    refine r_ialdE (gi g 0 i) (lay_ok hL rfl) (by omega) (by omega) dX8_alone_53 v4 ?_
    refine r_cV ca_yX7_begin ml_X8_102 im_yX7_begin se_yX7_begin (by decide) rfl (lay_ok hL rfl) (c_X7_begin hL (va := 12) (p := 13) (q := 14) (r := 15) (lay_ok hL rfl) (lay_r hL rfl) (lay_r hL rfl) (lay_r hL rfl) (lay_ok hL rfl) (lay_ok hL rfl) (lay_ok hL rfl) (v := i) (by omega)) ⟨by decide, by decide⟩ (by first | decide | omega) (by first | decide | omega) rfl (Nat.le_of_ble_eq_true rfl) dX8_alone_54 ?_
    have hA1 : absX _ g := hA.gr f0.gr hL.1 (fun x _ e => by rcases e with e | e | e <;> omega)
    have hL1 := f0.lay hL
    refine r_iinc (nI (i + 1)) _ dX8_alone_57 (by decide) rfl (nI_1 _) rfl ?_
    refine r_goto 26 dX8_alone_60 (by decide) ?_
    exact ih (i + 1) _ (by omega) hL1 hA1 hx1 (hg.tr (f0.gr.wd (fun x _ e => by show x ≤ 92; omega)))
set_option maxHeartbeats 4000000 in
set_option maxRecDepth 100000 in
theorem k_X8_alone {l : Launch} {X : Nat × (Nat → Int32)} {M : am_M} (hL : Lay M) {g : tG} {c0 : Nat} (hX : absX M g) (hI : gI c0 g) {x y z : Int32} : am_C l yX8_alone cX8_alone 5 (some .long) 5 0 0 X [.ref 1, .int x, .int y, .int z] M (fun v' M' => v' = some (.long (k_alone x y z g)) ∧ absX M' g ∧ Lay M' ∧ am_gr (fun x => x ≤ 92) M M') := by
  refine am_C.of (by decide) (by simp [Value.category, va_rf]) (Nat.le_of_ble_eq_true rfl) ?_
  have hB := hI.1
  obtain ⟨b0, b1, b2, b3, b4, b5, b6, b7, b8, b9, bV, bA, bN, bl, bn, bh⟩ := id hB
  obtain ⟨s0, s1, s2, s3, s4, s5, s6, s7, s8, s9⟩ := hX.1
  have hL0 := hL
  rcases inN_cases x (k := gs g 1) (by omega) with ⟨e, c⟩ | ⟨j, hj, rfl, e⟩
  · have hk : k_alone x y z g = k_NONE := by simp only [k_alone, e]
    refine r_aload_n dX8_alone_0 rfl ?_
    refine r_iload_n dX8_alone_1 rfl ?_
    refine r_cV ca_yX8_isVertex ml_X8_106 im_yX8_isVertex se_yX8_isVertex (by decide) rfl (lay_ok hL rfl) (c_X8_isVertex hL) ⟨by decide, by decide⟩ (by first | decide | omega) (by first | decide | omega) rfl (Nat.le_of_ble_eq_true rfl) dX8_alone_2 ?_
    refine r_top 0 (by rw [s1]; exact inN_no c) ?_
    refine r_if_eq 19 dX8_alone_5 (by decide) (fun _ => ?_) (fun hq => absurd (by decide) hq)
    refine r_ldc2 _ dX8_alone_19 kl_X8_147 ?_
    exact r_lret rfl dX8_alone_22 ⟨(congrArg (fun q : Int64 => some (Value.long q)) hk).symm, hX, hL0, am_gr.rf⟩
  · rcases inN_cases y (k := 201) (by decide) with ⟨f, c⟩ | ⟨r, hr, rfl, f⟩
    · have hk : k_alone (nI j) y z g = k_NONE := by simp only [k_alone, e, f]
      rcases c with c | c
      · skip
        refine r_aload_n dX8_alone_0 rfl ?_
        refine r_iload_n dX8_alone_1 rfl ?_
        refine r_cV ca_yX8_isVertex ml_X8_106 im_yX8_isVertex se_yX8_isVertex (by decide) rfl (lay_ok hL rfl) (c_X8_isVertex hL) ⟨by decide, by decide⟩ (by first | decide | omega) (by first | decide | omega) rfl (Nat.le_of_ble_eq_true rfl) dX8_alone_2 ?_
        refine r_top 1 (by rw [s1]; exact inN_yes hj (by omega)) ?_
        refine r_if_eq 19 dX8_alone_5 (by decide) (fun hq => absurd hq (by decide)) (fun _ => ?_)
        refine r_iload_n dX8_alone_8 rfl ?_
        refine r_if_lt 19 dX8_alone_9 (by decide) (fun _ => ?_) (fun hq => absurd c hq)
        refine r_ldc2 _ dX8_alone_19 kl_X8_147 ?_
        exact r_lret rfl dX8_alone_22 ⟨(congrArg (fun q : Int64 => some (Value.long q)) hk).symm, hX, hL0, am_gr.rf⟩
      · skip
        refine r_aload_n dX8_alone_0 rfl ?_
        refine r_iload_n dX8_alone_1 rfl ?_
        refine r_cV ca_yX8_isVertex ml_X8_106 im_yX8_isVertex se_yX8_isVertex (by decide) rfl (lay_ok hL rfl) (c_X8_isVertex hL) ⟨by decide, by decide⟩ (by first | decide | omega) (by first | decide | omega) rfl (Nat.le_of_ble_eq_true rfl) dX8_alone_2 ?_
        refine r_top 1 (by rw [s1]; exact inN_yes hj (by omega)) ?_
        refine r_if_eq 19 dX8_alone_5 (by decide) (fun hq => absurd hq (by decide)) (fun _ => ?_)
        refine r_iload_n dX8_alone_8 rfl ?_
        refine r_if_lt 19 dX8_alone_9 (by decide) (fun hq => absurd hq c.1) (fun _ => ?_)
        refine r_iload_n dX8_alone_12 rfl ?_
        refine r_sipush (200) dX8_alone_13 (by decide) ?_
        refine r_icmp_le 23 dX8_alone_16 (by decide) (fun hq => absurd hq (le_200 c.2)) (fun _ => ?_)
        refine r_ldc2 _ dX8_alone_19 kl_X8_147 ?_
        exact r_lret rfl dX8_alone_22 ⟨(congrArg (fun q : Int64 => some (Value.long q)) hk).symm, hX, hL0, am_gr.rf⟩
    · have hk : k_alone (nI j) (nI r) z g = t_tell (o_at g r) j z := by simp only [k_alone, e, f]
      refine r_aload_n dX8_alone_0 rfl ?_
      refine r_iload_n dX8_alone_1 rfl ?_
      refine r_cV ca_yX8_isVertex ml_X8_106 im_yX8_isVertex se_yX8_isVertex (by decide) rfl (lay_ok hL rfl) (c_X8_isVertex hL) ⟨by decide, by decide⟩ (by first | decide | omega) (by first | decide | omega) rfl (Nat.le_of_ble_eq_true rfl) dX8_alone_2 ?_
      refine r_top 1 (by rw [s1]; exact inN_yes hj (by omega)) ?_
      refine r_if_eq 19 dX8_alone_5 (by decide) (fun hq => absurd hq (by decide)) (fun _ => ?_)
      refine r_iload_n dX8_alone_8 rfl ?_
      refine r_if_lt 19 dX8_alone_9 (by decide) (fun hq => absurd hq (nI_pos (by omega))) (fun _ => ?_)
      refine r_iload_n dX8_alone_12 rfl ?_
      refine r_sipush (nI 200) dX8_alone_13 (by decide) ?_
      refine r_icmp_le 23 dX8_alone_16 (by decide) (fun _ => ?_) (fun hq => absurd (nI_le (by omega) (by decide)) hq)
      refine r_iconst (nI 0) dX8_alone_23 (by decide) ?_
      refine r_istore _ dX8_alone_24 (by decide) rfl ?_
      exact l1_X8_alone hB hj (by omega) hk (gs g 1) 0 _ (by omega) hL hX (fun v hv => absurd hv (by omega)) am_gr.rf
