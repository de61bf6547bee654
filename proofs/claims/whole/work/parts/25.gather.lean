/-! THE DESK GATHERS -/
theorem x_fold_DX {M : am_M} {es : List tE} (h : DX M es) {p : Nat} {e : tE} (he : es[p]? = some e) (x : Int32) : DX (wI M 22 p x) (es.set p (e.1, x, e.2.2)) := by
  have hp : p < es.length := (List.getElem?_eq_some_iff.mp he).1
  refine ⟨by rw [mI_wI_n _ _ _ (by decide), List.length_set]; exact h.1, by rw [List.length_set]; exact h.2.1, fun j f hf => ?_⟩
  by_cases hj : j = p
  · subst hj
    rw [List.getElem?_set_self hp] at hf
    cases hf
    obtain ⟨h1, h2, h3⟩ := h.2.2 j e he
    simp [mI_wI, h1, h3]
  · rw [List.getElem?_set_ne (fun q => hj q.symm)] at hf
    obtain ⟨h1, h2, h3⟩ := h.2.2 j f hf
    simp [mI_wI, hj, h1, h2, h3]
theorem x_fold_fr (M : am_M) (p : Nat) (x : Int32) : am_fr s_desk M (wI M 22 p x) := ⟨rfl, rfl, rfl, fun y hy => mI_wI_n _ _ _ (fun h => hy (Or.inr (Or.inr (Or.inl h))))⟩
theorem t_add_mem {P : tE → Prop} {j k v a : Nat} {m : Int32} {es : List tE} (h : ∀ e ∈ es, P e) (hn : P (v, m, a)) (hc : ∀ e x, P e → P (e.1, x, e.2.2)) : ∀ e ∈ t_add j k es v m a, P e := by
  unfold t_add
  split
  · intro e he
    rcases List.mem_append.mp he with q | q
    · exact h e q
    · rw [List.mem_singleton.mp q]
      exact hn
  · induction es with
    | nil => intro e he; rw [List.mem_singleton.mp he]; exact hn
    | cons f es ih =>
      intro e he
      unfold t_addJ at he
      by_cases hf : f.1 = v
      · rw [if_pos hf] at he
        rcases List.mem_cons.mp he with q | q
        · rw [q]; exact hc f _ (h f List.mem_cons_self)
        · exact h e (List.mem_cons_of_mem _ q)
      · rw [if_neg hf] at he
        rcases List.mem_cons.mp he with q | q
        · rw [q]; exact h f List.mem_cons_self
        · exact ih (fun e he => h e (List.mem_cons_of_mem _ he)) e q
theorem t_add_len (j k v a : Nat) (m : Int32) (es : List tE) : (t_add j k es v m a).length ≤ es.length + 1 := by
  unfold t_add
  split
  · simp
  · induction es with
    | nil => simp [t_addJ]
    | cons f es ih =>
      unfold t_addJ
      split
      · simp
      · simp; omega
set_option maxHeartbeats 4000000 in
set_option maxRecDepth 100000 in
theorem l_X0_gatherOf {l : Launch} {X : Nat × (Nat → Int32)} {M : am_M} {g : tG} {o v : Nat} {es : List tE} (hS : xS M g) (hV : xV M g) (hA : xA M g) (hB : gB g) (ho : o < 5) (hv : v < gs g 1) (hlen : ∀ i, i ≤ gs g 2 → (t_entV g o v i es).length ≤ 40) : ∀ (k i : Nat) (N : am_M), i + k = gs g 2 → Lay N → am_fr s_desk M N → DX N (t_entV g o v i es) → (∀ e ∈ t_entV g o v i es, e.1 < 16) → am_V l yX0_gatherOf cX0_gatherOf 10 none (am_R 4 0 0) 0 0 X (fun v' M' => v' = none ∧ am_fr s_desk M M' ∧ DX M' (t_entV g o v (gs g 2) es)) 0 0 3 [some (.ref 20), some (.int (nI v)), some (.ref 2), some (.ref 8), some (.int (nI o)), some (.int (nI (gs g 4))), some (.int (nI i))] [] N := by
  intro k
  obtain ⟨b0, b1, b2, b3, b4, b5, -, -, -, -, bV, bA, -⟩ := id hB
  have nd : ∀ z, z ≠ 20 → z ≠ 21 → z ≠ 22 → z ≠ 23 → ¬ s_desk z := fun z q1 q2 q3 q4 h => by rcases h with h | h | h | h <;> omega
  induction k with
  | zero =>
    intro i N hi hL hf hD hE
    obtain rfl : i = gs g 2 := by omega
    have f6 := hf.i (nd 2 (by decide) (by decide) (by decide) (by decide)) hS.2.2.1
    refine r_iload dX0_gatherOf_3 rfl ?_
    refine r_aload_n dX0_gatherOf_5 rfl ?_
    refine r_getE (nI (gs g 2)) kX1 (k := 6) (by decide) rfl fl_X0_43 (lay_ok hL rfl) dX0_gatherOf_6 f6 ?_
    refine r_icmp_ge 124 dX0_gatherOf_9 (by decide) (fun _ => ?_) (fun hq => absurd (nI_le (Nat.le_refl _) (by omega)) hq)
    exact r_vret rfl dX0_gatherOf_124 ⟨rfl, hf, hD⟩
  | succ k ih =>
    intro i N hi hL hf hD hE
    obtain ⟨a5, a6, a7⟩ := hA i (by omega)
    obtain ⟨w1, w2⟩ := bA i (by omega)
    have f6 := hf.i (nd 2 (by decide) (by decide) (by decide) (by decide)) hS.2.2.1
    have f7 := hf.i (nd 2 (by decide) (by decide) (by decide) (by decide)) hS.2.2.2.1
    have a5 := hf.i (nd 5 (by decide) (by decide) (by decide) (by decide)) a5
    have a6 := hf.i (nd 6 (by decide) (by decide) (by decide) (by decide)) a6
    have a7 := hf.i (nd 7 (by decide) (by decide) (by decide) (by decide)) a7
    have v3 := hf.i (nd 3 (by decide) (by decide) (by decide) (by decide)) (hV (ga g 3 i) w2).1
    have v9 := hf.i (nd 9 (by decide) (by decide) (by decide) (by decide)) (hV v hv).2.2.1
    have hlt := (bV (ga g 3 i) w2).1
    have e16 : ga g 3 i < 16 := by omega
    have hes : t_entV g o v (i + 1) es = if ga g 2 i = v ∧ ga g 0 (ga g 3 i) = o then t_add (gs g 4) (gs g 3) (t_entV g o v i es) (ga g 3 i) (t_msg (gs g 3) (gi g 1 v) (gi g 3 i)) i else t_entV g o v i es := rfl
    have hl1 := hlen (i + 1) (by omega)
    refine r_iload dX0_gatherOf_3 rfl ?_
    refine r_aload_n dX0_gatherOf_5 rfl ?_
    refine r_getE (nI (gs g 2)) kX1 (k := 6) (by decide) rfl fl_X0_43 (lay_ok hL rfl) dX0_gatherOf_6 f6 ?_
    refine r_icmp_ge 124 dX0_gatherOf_9 (by decide) (fun hq => absurd hq (nI_ge (by omega) (by omega))) (fun _ => ?_)
    refine r_aload_n dX0_gatherOf_12 rfl ?_
    refine r_getF kX1 (k := 3) (by decide) rfl fl_X0_45 (lay_ok hL rfl) (lay_r hL rfl) dX0_gatherOf_13 ?_
    refine r_iload dX0_gatherOf_16 rfl ?_
    refine r_ialdE (nI (ga g 3 i)) (lay_ok hL rfl) (by omega) (by omega) dX0_gatherOf_18 a6 ?_
    refine r_istore _ dX0_gatherOf_19 (by decide) rfl ?_
    refine r_aload_n dX0_gatherOf_21 rfl ?_
    refine r_getF kX1 (k := 2) (by decide) rfl fl_X0_48 (lay_ok hL rfl) (lay_r hL rfl) dX0_gatherOf_22 ?_
    refine r_iload dX0_gatherOf_25 rfl ?_
    refine r_ialdE (nI (ga g 2 i)) (lay_ok hL rfl) (by omega) (by omega) dX0_gatherOf_27 a5 ?_
    refine r_iload_n dX0_gatherOf_28 rfl ?_
    refine r_icmp_ne 118 dX0_gatherOf_29 (by decide) (fun c29 => ?_) (fun c29 => ?_)
    · refine r_iinc (nI (i + 1)) _ dX0_gatherOf_118 (by decide) rfl (nI_1 _) rfl ?_
      refine r_goto 3 dX0_gatherOf_121 (by decide) ?_
      refine r_take 7 ?_
      first | exact ih (i + 1) N (by omega) hL hf (by rw [hes, if_neg (fun h => c29 (by rw [h.1]))]; exact hD) (by rw [hes, if_neg (fun h => c29 (by rw [h.1]))]; exact hE) | exact ih (i + 1) N (by omega) hL hf (by rw [hes, if_neg (fun h => c41 (by rw [h.2]))]; exact hD) (by rw [hes, if_neg (fun h => c41 (by rw [h.2]))]; exact hE) | exact ih (i + 1) _ (by omega) hL hf2 hD2 hE2
    · refine r_aload_n dX0_gatherOf_32 rfl ?_
      refine r_getF kX1 (k := 0) (by decide) rfl fl_X0_30 (lay_ok hL rfl) (lay_r hL rfl) dX0_gatherOf_33 ?_
      refine r_iload dX0_gatherOf_36 rfl ?_
      refine r_ialdE (nI (ga g 0 (ga g 3 i))) (lay_ok hL rfl) (by omega) (by omega) dX0_gatherOf_38 v3 ?_
      refine r_iload dX0_gatherOf_39 rfl ?_
      refine r_icmp_ne 118 dX0_gatherOf_41 (by decide) (fun c41 => ?_) (fun c41 => ?_)
      · refine r_iinc (nI (i + 1)) _ dX0_gatherOf_118 (by decide) rfl (nI_1 _) rfl ?_
        refine r_goto 3 dX0_gatherOf_121 (by decide) ?_
        refine r_take 7 ?_
        first | exact ih (i + 1) N (by omega) hL hf (by rw [hes, if_neg (fun h => c29 (by rw [h.1]))]; exact hD) (by rw [hes, if_neg (fun h => c29 (by rw [h.1]))]; exact hE) | exact ih (i + 1) N (by omega) hL hf (by rw [hes, if_neg (fun h => c41 (by rw [h.2]))]; exact hD) (by rw [hes, if_neg (fun h => c41 (by rw [h.2]))]; exact hE) | exact ih (i + 1) _ (by omega) hL hf2 hD2 hE2
      · obtain ev : ga g 2 i = v := (nI_eq (by omega) (by omega)).mp c29
        have eo : ga g 0 (ga g 3 i) = o := (nI_eq (by omega) (by omega)).mp c41
        rw [if_pos ⟨ev, eo⟩] at hes
        refine r_aload_n dX0_gatherOf_44 rfl ?_
        refine r_iload dX0_gatherOf_45 rfl ?_
        refine r_aload_n dX0_gatherOf_47 rfl ?_
        refine r_cV ca_yX1_message ml_X0_51 im_yX1_message se_yX1_message (by decide) rfl (lay_ok hL rfl) (c_X1_message hL (va := 8) (p := 9) (q := 10) (r := 11) (lay_ok hL rfl) (lay_r hL rfl) (lay_r hL rfl) (lay_r hL rfl) (lay_ok hL rfl) (lay_ok hL rfl) (lay_ok hL rfl) (by omega) a5 (by omega) f7 b4) ⟨by decide, by decide⟩ (by decide) (by decide) rfl (Nat.le_of_ble_eq_true rfl) dX0_gatherOf_48 ?_
        refine r_top (t_msg (gs g 3) (gi g 1 v) (gi g 3 i)) (by rw [ev, v9, a7]) ?_
        refine r_istore _ dX0_gatherOf_51 (by decide) rfl ?_
        refine r_iload dX0_gatherOf_53 rfl ?_
        refine r_if_eq 67 dX0_gatherOf_55 (by decide) (fun c55 => ?_) (fun c55 => ?_)
        · refine r_aload_n dX0_gatherOf_67 rfl ?_
          refine r_getE (nI (t_entV g o v i es).length) kX0 (k := 3) (by decide) rfl fl_X0_21 (lay_ok hL rfl) dX0_gatherOf_68 hD.1 ?_
          refine r_istore _ dX0_gatherOf_71 (by decide) rfl ?_
          refine r_iload dX0_gatherOf_73 rfl ?_
          refine r_aload_n dX0_gatherOf_75 rfl ?_
          refine r_getE (nI (t_entV g o v i es).length) kX0 (k := 3) (by decide) rfl fl_X0_21 (lay_ok hL rfl) dX0_gatherOf_76 hD.1 ?_
          refine r_icmp_ge 108 dX0_gatherOf_79 (by decide) (fun _ => ?_) (fun hq => absurd (nI_le (Nat.le_refl _) (by have := hD.2.1; omega)) hq)
          refine r_aload_n dX0_gatherOf_108 rfl ?_
          refine r_iload dX0_gatherOf_109 rfl ?_
          refine r_iload dX0_gatherOf_111 rfl ?_
          refine r_iload dX0_gatherOf_113 rfl ?_
          have hadd : t_add (gs g 4) (gs g 3) (t_entV g o v i es) (ga g 3 i) (t_msg (gs g 3) (gi g 1 v) (gi g 3 i)) i = t_entV g o v i es ++ [(ga g 3 i, t_msg (gs g 3) (gi g 1 v) (gi g 3 i), i)] := by first | (rw [t_add, if_pos ((nI_eq (by omega) (by decide)).mp (show nI (gs g 4) = nI 0 from c55))]) | (rw [t_add, if_neg (fun h => c55 (by rw [h]; rfl)), (t_addJ_at _ _ _ _ _).1 (Nat.le_antisymm (t_pl_le _ _) (Nat.le_of_not_lt (fun h => nI_ge h (by have := hD.2.1; omega) c79)))])
          have hl40 : (t_entV g o v i es).length < 40 := by rw [hes, hadd, List.length_append] at hl1; simp at hl1; omega
          refine r_cV ca_yX0_append ml_X0_66 im_yX0_append se_yX0_append (by decide) rfl (lay_ok hL rfl) (c_X0_append hL hD.1 hl40) ⟨by decide, by decide⟩ (by decide) (by decide) rfl (Nat.le_of_ble_eq_true rfl) dX0_gatherOf_115 ?_
          have hf2 := hf.tr (x_app_fr N (t_entV g o v i es).length (nI (ga g 3 i)) (t_msg (gs g 3) (gi g 1 v) (gi g 3 i)) (nI i))
          have hD2 := x_app_DX hD hl40 (ga g 3 i) (t_msg (gs g 3) (gi g 1 v) (gi g 3 i)) i
          rw [← hadd, ← hes] at hD2
          have hE2 : ∀ e ∈ t_entV g o v (i + 1) es, e.1 < 16 := by rw [hes]; exact t_add_mem (P := fun e => e.1 < 16) hE e16 (fun _ _ h => h)
          refine r_lay ((x_app_fr N _ _ _ _).lay hL) (fun hL => ?_)
          refine r_iinc (nI (i + 1)) _ dX0_gatherOf_118 (by decide) rfl (nI_1 _) rfl ?_
          refine r_goto 3 dX0_gatherOf_121 (by decide) ?_
          refine r_take 7 ?_
          first | exact ih (i + 1) N (by omega) hL hf (by rw [hes, if_neg (fun h => c29 (by rw [h.1]))]; exact hD) (by rw [hes, if_neg (fun h => c29 (by rw [h.1]))]; exact hE) | exact ih (i + 1) N (by omega) hL hf (by rw [hes, if_neg (fun h => c41 (by rw [h.2]))]; exact hD) (by rw [hes, if_neg (fun h => c41 (by rw [h.2]))]; exact hE) | exact ih (i + 1) _ (by omega) hL hf2 hD2 hE2
        · refine r_aload_n dX0_gatherOf_58 rfl ?_
          refine r_iload dX0_gatherOf_59 rfl ?_
          refine r_cV ca_yX0_placeOf ml_X0_55 im_yX0_placeOf se_yX0_placeOf (by decide) rfl (lay_ok hL rfl) (c_X0_placeOf hL hD e16 hE) ⟨by decide, by decide⟩ (by decide) (by decide) rfl (Nat.le_of_ble_eq_true rfl) dX0_gatherOf_61 ?_
          refine r_goto 71 dX0_gatherOf_64 (by decide) ?_
          refine r_istore _ dX0_gatherOf_71 (by decide) rfl ?_
          refine r_iload dX0_gatherOf_73 rfl ?_
          refine r_aload_n dX0_gatherOf_75 rfl ?_
          refine r_getE (nI (t_entV g o v i es).length) kX0 (k := 3) (by decide) rfl fl_X0_21 (lay_ok hL rfl) dX0_gatherOf_76 hD.1 ?_
          refine r_icmp_ge 108 dX0_gatherOf_79 (by decide) (fun c79 => ?_) (fun c79 => ?_)
          · refine r_aload_n dX0_gatherOf_108 rfl ?_
            refine r_iload dX0_gatherOf_109 rfl ?_
            refine r_iload dX0_gatherOf_111 rfl ?_
            refine r_iload dX0_gatherOf_113 rfl ?_
            have hadd : t_add (gs g 4) (gs g 3) (t_entV g o v i es) (ga g 3 i) (t_msg (gs g 3) (gi g 1 v) (gi g 3 i)) i = t_entV g o v i es ++ [(ga g 3 i, t_msg (gs g 3) (gi g 1 v) (gi g 3 i), i)] := by first | (rw [t_add, if_pos ((nI_eq (by omega) (by decide)).mp (show nI (gs g 4) = nI 0 from c55))]) | (rw [t_add, if_neg (fun h => c55 (by rw [h]; rfl)), (t_addJ_at _ _ _ _ _).1 (Nat.le_antisymm (t_pl_le _ _) (Nat.le_of_not_lt (fun h => nI_ge h (by have := hD.2.1; omega) c79)))])
            have hl40 : (t_entV g o v i es).length < 40 := by rw [hes, hadd, List.length_append] at hl1; simp at hl1; omega
            refine r_cV ca_yX0_append ml_X0_66 im_yX0_append se_yX0_append (by decide) rfl (lay_ok hL rfl) (c_X0_append hL hD.1 hl40) ⟨by decide, by decide⟩ (by decide) (by decide) rfl (Nat.le_of_ble_eq_true rfl) dX0_gatherOf_115 ?_
            have hf2 := hf.tr (x_app_fr N (t_entV g o v i es).length (nI (ga g 3 i)) (t_msg (gs g 3) (gi g 1 v) (gi g 3 i)) (nI i))
            have hD2 := x_app_DX hD hl40 (ga g 3 i) (t_msg (gs g 3) (gi g 1 v) (gi g 3 i)) i
            rw [← hadd, ← hes] at hD2
            have hE2 : ∀ e ∈ t_entV g o v (i + 1) es, e.1 < 16 := by rw [hes]; exact t_add_mem (P := fun e => e.1 < 16) hE e16 (fun _ _ h => h)
            refine r_lay ((x_app_fr N _ _ _ _).lay hL) (fun hL => ?_)
            refine r_iinc (nI (i + 1)) _ dX0_gatherOf_118 (by decide) rfl (nI_1 _) rfl ?_
            refine r_goto 3 dX0_gatherOf_121 (by decide) ?_
            refine r_take 7 ?_
            first | exact ih (i + 1) N (by omega) hL hf (by rw [hes, if_neg (fun h => c29 (by rw [h.1]))]; exact hD) (by rw [hes, if_neg (fun h => c29 (by rw [h.1]))]; exact hE) | exact ih (i + 1) N (by omega) hL hf (by rw [hes, if_neg (fun h => c41 (by rw [h.2]))]; exact hD) (by rw [hes, if_neg (fun h => c41 (by rw [h.2]))]; exact hE) | exact ih (i + 1) _ (by omega) hL hf2 hD2 hE2
          · have hlt2 : t_pl (ga g 3 i) (t_entV g o v i es) < (t_entV g o v i es).length := by first | exact Nat.lt_of_not_le (fun h => c79 (nI_le h (by have := t_pl_le (ga g 3 i) (t_entV g o v i es); have := hD.2.1; omega))) | exact absurd (nI_le (Nat.le_refl _) (by have := hD.2.1; omega)) c79
            obtain ⟨e0, he0⟩ : ∃ e, (t_entV g o v i es)[t_pl (ga g 3 i) (t_entV g o v i es)]? = some e := ⟨_, List.getElem?_eq_getElem hlt2⟩
            have hd0 := (hD.2.2 _ _ he0).2.1
            have h40 := hD.2.1
            refine r_aload_n dX0_gatherOf_82 rfl ?_
            refine r_getF kX0 (k := 1) (by decide) rfl fl_X0_15 (lay_ok hL rfl) (lay_r hL rfl) dX0_gatherOf_83 ?_
            refine r_iload dX0_gatherOf_86 rfl ?_
            refine r_aload_n dX0_gatherOf_88 rfl ?_
            refine r_getE (nI (gs g 3)) kX1 (k := 7) (by decide) rfl fl_X0_59 (lay_ok hL rfl) dX0_gatherOf_89 f7 ?_
            refine r_aload_n dX0_gatherOf_92 rfl ?_
            refine r_getF kX0 (k := 1) (by decide) rfl fl_X0_15 (lay_ok hL rfl) (lay_r hL rfl) dX0_gatherOf_93 ?_
            refine r_iload dX0_gatherOf_96 rfl ?_
            refine r_ialdE (e0.2.1) (lay_ok hL rfl) (by omega) (by omega) dX0_gatherOf_98 hd0 ?_
            refine r_iload dX0_gatherOf_99 rfl ?_
            refine r_cSN ca_yX8_fold nl_X0_62 sm_yX8_fold (c_X8_fold hL b4) ⟨by decide, by decide⟩ (by decide) (by decide) rfl (Nat.le_of_ble_eq_true rfl) dX0_gatherOf_101 ?_
            refine r_iastN (lay_ok hL rfl) (by omega) (by decide) dX0_gatherOf_104 ?_
            refine r_lay (lay_wI hL _ _ _) (fun hL => ?_)
            have hf2 := hf.tr (x_fold_fr N (t_pl (ga g 3 i) (t_entV g o v i es)) (t_fold (gs g 3) e0.2.1 (t_msg (gs g 3) (gi g 1 v) (gi g 3 i))))
            have hD2 := x_fold_DX hD he0 (t_fold (gs g 3) e0.2.1 (t_msg (gs g 3) (gi g 1 v) (gi g 3 i)))
            rw [← (t_addJ_at _ _ _ i _).2 e0 he0, ← (show t_add (gs g 4) (gs g 3) (t_entV g o v i es) (ga g 3 i) (t_msg (gs g 3) (gi g 1 v) (gi g 3 i)) i = t_addJ (gs g 3) (ga g 3 i) (t_msg (gs g 3) (gi g 1 v) (gi g 3 i)) i (t_entV g o v i es) by rw [t_add, if_neg (fun h => c55 (by rw [h]; rfl))]), ← hes] at hD2
            have hE2 : ∀ e ∈ t_entV g o v (i + 1) es, e.1 < 16 := by rw [hes]; exact t_add_mem (P := fun e => e.1 < 16) hE e16 (fun _ _ h => h)
            refine r_goto 118 dX0_gatherOf_105 (by decide) ?_
            refine r_iinc (nI (i + 1)) _ dX0_gatherOf_118 (by decide) rfl (nI_1 _) rfl ?_
            refine r_goto 3 dX0_gatherOf_121 (by decide) ?_
            refine r_take 7 ?_
            first | exact ih (i + 1) N (by omega) hL hf (by rw [hes, if_neg (fun h => c29 (by rw [h.1]))]; exact hD) (by rw [hes, if_neg (fun h => c29 (by rw [h.1]))]; exact hE) | exact ih (i + 1) N (by omega) hL hf (by rw [hes, if_neg (fun h => c41 (by rw [h.2]))]; exact hD) (by rw [hes, if_neg (fun h => c41 (by rw [h.2]))]; exact hE) | exact ih (i + 1) _ (by omega) hL hf2 hD2 hE2
set_option maxHeartbeats 4000000 in
set_option maxRecDepth 100000 in
theorem c_X0_gatherOf {l : Launch} {X : Nat × (Nat → Int32)} {M : am_M} (hL : Lay M) {g : tG} {o v : Nat} {es : List tE} (hS : xS M g) (hV : xV M g) (hA : xA M g) (hB : gB g) (ho : o < 5) (hv : v < gs g 1) (hlen : ∀ i, i ≤ gs g 2 → (t_entV g o v i es).length ≤ 40) (hD : DX M es) (hE : ∀ e ∈ es, e.1 < 16) : am_C l yX0_gatherOf cX0_gatherOf 10 none 4 0 0 X [.ref 20, .int (nI v), .ref 2, .ref 8, .int (nI o), .int (nI (gs g 4))] M (fun v' M' => v' = none ∧ am_fr s_desk M M' ∧ DX M' (t_entV g o v (gs g 2) es)) := by
  refine am_C.of (by decide) (by simp [Value.category, va_rf]) (Nat.le_of_ble_eq_true rfl) ?_
  refine r_iconst (nI 0) dX0_gatherOf_0 (by decide) ?_
  refine r_istore _ dX0_gatherOf_1 (by decide) rfl ?_
  exact l_X0_gatherOf hS hV hA hB ho hv hlen (gs g 2) 0 M (by omega) hL am_fr.rf hD hE
