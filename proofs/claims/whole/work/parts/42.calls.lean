/-! THE CLASS'S CALLS -/
theorem le_34 {x : Int32} (h : nI 4 ≤ x) : ¬ x ≤ 3 := fun z => absurd (Int32.le_trans h z) (by decide)
theorem le_50 {x : Int32} (h : nI 51 ≤ x) : ¬ x ≤ 50 := fun z => absurd (Int32.le_trans h z) (by decide)
theorem le_200 {x : Int32} (h : nI 201 ≤ x) : ¬ x ≤ 200 := fun z => absurd (Int32.le_trans h z) (by decide)
theorem in_25 {x : Int32} (h1 : ¬ x < 2) (h2 : ¬ 5 < x) : ∃ n, 2 ≤ n ∧ n ≤ 5 ∧ x = nI n := by
  have h0 : ¬ x < 0 := fun z => h1 (Int32.lt_trans z (by decide))
  obtain ⟨j, hj, rfl⟩ := nI_of h0
  refine ⟨j, Nat.le_of_not_lt (fun z => h1 ?_), Nat.le_of_not_lt (fun z => h2 ?_), rfl⟩
  · exact nI_lt (a := j) (b := 2) z (by decide)
  · exact nI_lt (a := 5) (b := j) z hj
theorem tell_eq {a b r : Int32} {h : tG} {v : Nat} {y : Int32} (e1 : a = gi h 1 v) (e2 : b = gi h 2 v) (e3 : r = nI (ga h 1 v)) (e4 : ga h 1 v ≤ 1) : (if y = 0 then a.toInt64 else if y = 1 then b.toInt64 else if y = 2 then (if r = 0 then 0 else 1) else (-9223372036854775808)) = t_tell h v y := by
  have e5 : (if r = 0 then (0 : Int64) else 1) = (nI (ga h 1 v)).toInt64 := by
    rw [e3]
    rcases (show ga h 1 v = 0 ∨ ga h 1 v = 1 by omega) with e | e <;> rw [e] <;> rfl
  rw [e5, e1, e2]
  rfl
theorem gr_lay2 {S : Nat → Prop} {M M1 : am_M} (h : am_gr S M M1) (hS : ∀ x k, S x → rf x k = none) (hL : Lay M) : Lay M1 := by
  refine ⟨Nat.le_trans hL.1 h.1, fun a t n e => ?_, fun a k r e => ?_⟩
  · have := sh_le e
    rw [(h.2 a (by have := hL.1; omega)).1]
    exact hL.2.1 a t n e
  · have h1 := rf_le e
    have h2 : ¬ S a := fun z => by rw [hS a k z] at e; cases e
    rw [((h.2 a (by have := hL.1; omega)).2 h2).2]
    exact hL.2.2 a k r e
theorem rf_nl {n : Nat} (hn : n < 5) : (∀ k, rf (28 + 13 * n + 1) k = none) ∧ ∀ k, rf (28 + 13 * n + 2) k = none := lt5 (P := fun n => (∀ k, rf (28 + 13 * n + 1) k = none) ∧ ∀ k, rf (28 + 13 * n + 2) k = none) ⟨fun _ => rfl, fun _ => rfl⟩ ⟨fun _ => rfl, fun _ => rfl⟩ ⟨fun _ => rfl, fun _ => rfl⟩ ⟨fun _ => rfl, fun _ => rfl⟩ ⟨fun _ => rfl, fun _ => rfl⟩ hn
theorem absX_lay {M : am_M} (h : Lay M) : 125 ≤ mN M := h.1
theorem gI_O {c : Nat} {g : tG} (hI : gI c g) (n : Nat) : ∀ o, gs g 0 ≤ o → gl g 0 n o = none := fun o ho => by
  cases e : gl g 0 n o with
  | none => rfl
  | some t =>
    have h1 := hI.2.2.2.2.2.2.1 0 n o t (by decide) e
    have h2 := hI.1.2.2.2.2.2.2.2.2.2.2.2.2.2.2.2 0 n o t e
    have h3 := h2.2.2.1
    omega
theorem bool01 {n : Nat} (h : n ≤ 1) (h2 : ¬ n = 1) : n = 0 := by omega
set_option maxHeartbeats 4000000 in
set_option maxRecDepth 100000 in
theorem k_X8_vertex {l : Launch} {X : Nat × (Nat → Int32)} {M : am_M} (hL : Lay M) {g : tG} {c0 : Nat} (hX : absX M g) (hI : gI c0 g) {x y : Int32} : am_C l yX8_vertex cX8_vertex 4 (some .int) 1 0 0 X [.ref 1, .int x, .int y] M (fun v M' => v = some (.int (k_vertex x y g).1) ∧ absX M' (k_vertex x y g).2 ∧ Lay M' ∧ am_gr (fun x => x ≤ 92) M M') := by
  refine am_C.of (by decide) (by simp [Value.category, va_rf]) (Nat.le_of_ble_eq_true rfl) ?_
  have hB := hI.1
  obtain ⟨b0, b1, b2, b3, b4, b5, b6, b7, b8, b9, bV, bA, bN, bl, bn, bh⟩ := id hB
  obtain ⟨s0, s1, s2, s3, s4, s5, s6, s7, s8, s9⟩ := hX.1
  have hL0 := hL
  rcases inN_cases x (k := gs g 0) (by omega) with ⟨e, c⟩ | ⟨j, hj, rfl, e⟩
  · have hk : k_vertex x y g = (-1, g) := by simp only [k_vertex, e]
    refine r_aload_n dX8_vertex_0 rfl ?_
    refine r_iload_n dX8_vertex_1 rfl ?_
    refine r_cV ca_yX8_isNode ml_X8_94 im_yX8_isNode se_yX8_isNode (by decide) rfl (lay_ok hL rfl) (c_X8_isNode hL) ⟨by decide, by decide⟩ (by first | decide | omega) (by first | decide | omega) rfl (Nat.le_of_ble_eq_true rfl) dX8_vertex_2 ?_
    refine r_top 0 (by rw [s0]; exact inN_no c) ?_
    refine r_if_ne 10 dX8_vertex_5 (by decide) (fun hq => absurd (by decide) hq) (fun _ => ?_)
    refine r_iconst (-1) dX8_vertex_8 (by decide) ?_
    exact r_iret (Or.inl rfl) dX8_vertex_9 ⟨by rw [hk], by rw [hk]; exact hX, hL0, am_gr.rf⟩
  · by_cases c6 : gs g 6 = 1
    · have hk : k_vertex (nI j) y g = (-2, g) := by simp only [k_vertex, e, if_pos c6]
      refine r_aload_n dX8_vertex_0 rfl ?_
      refine r_iload_n dX8_vertex_1 rfl ?_
      refine r_cV ca_yX8_isNode ml_X8_94 im_yX8_isNode se_yX8_isNode (by decide) rfl (lay_ok hL rfl) (c_X8_isNode hL) ⟨by decide, by decide⟩ (by first | decide | omega) (by first | decide | omega) rfl (Nat.le_of_ble_eq_true rfl) dX8_vertex_2 ?_
      refine r_top 1 (by rw [s0]; exact inN_yes hj (by omega)) ?_
      refine r_if_ne 10 dX8_vertex_5 (by decide) (fun _ => ?_) (fun hq => absurd hq (by decide))
      refine r_aload_n dX8_vertex_10 rfl ?_
      refine r_getE (1) kX8 (k := 11) (by decide) rfl fl_X8_85 (lay_ok hL rfl) dX8_vertex_11 (by rw [s6, c6]; rfl) ?_
      refine r_if_eq 20 dX8_vertex_14 (by decide) (fun hq => absurd hq (by decide)) (fun _ => ?_)
      refine r_bipush (-2) dX8_vertex_17 (by decide) ?_
      exact r_iret (Or.inl rfl) dX8_vertex_19 ⟨by rw [hk], by rw [hk]; exact hX, hL0, am_gr.rf⟩
    · by_cases c7 : 16 ≤ gs g 1
      · have hk : k_vertex (nI j) y g = (-3, g) := by simp only [k_vertex, e, if_neg c6, if_pos c7]
        refine r_aload_n dX8_vertex_0 rfl ?_
        refine r_iload_n dX8_vertex_1 rfl ?_
        refine r_cV ca_yX8_isNode ml_X8_94 im_yX8_isNode se_yX8_isNode (by decide) rfl (lay_ok hL rfl) (c_X8_isNode hL) ⟨by decide, by decide⟩ (by first | decide | omega) (by first | decide | omega) rfl (Nat.le_of_ble_eq_true rfl) dX8_vertex_2 ?_
        refine r_top 1 (by rw [s0]; exact inN_yes hj (by omega)) ?_
        refine r_if_ne 10 dX8_vertex_5 (by decide) (fun _ => ?_) (fun hq => absurd hq (by decide))
        refine r_aload_n dX8_vertex_10 rfl ?_
        refine r_getE (0) kX8 (k := 11) (by decide) rfl fl_X8_85 (lay_ok hL rfl) dX8_vertex_11 (by rw [s6, bool01 b7 c6]; rfl) ?_
        refine r_if_eq 20 dX8_vertex_14 (by decide) (fun _ => ?_) (fun hq => absurd (by decide) hq)
        refine r_aload_n dX8_vertex_20 rfl ?_
        refine r_getF kX8 (k := 0) (by decide) rfl fl_X8_12 (lay_ok hL rfl) (lay_r hL rfl) dX8_vertex_21 ?_
        refine r_getE (nI (gs g 1)) kX1 (k := 5) (by decide) rfl fl_X8_64 (lay_ok hL rfl) dX8_vertex_24 s1 ?_
        refine r_bipush (nI 16) dX8_vertex_27 (by decide) ?_
        refine r_icmp_lt 35 dX8_vertex_29 (by decide) (fun hq => absurd hq (nI_nlt c7 (by omega))) (fun _ => ?_)
        refine r_bipush (-3) dX8_vertex_32 (by decide) ?_
        exact r_iret (Or.inl rfl) dX8_vertex_34 ⟨by rw [hk], by rw [hk]; exact hX, hL0, am_gr.rf⟩
      · have hk : k_vertex (nI j) y g = (nI (gs g 1), g_vertex j y g) := by simp only [k_vertex, e, if_neg c6, if_neg c7]
        have hq := absX_vertex (n := j) (y := y) hL0.1 hX (hI.2.2.2.1 (bool01 b7 c6)).2.2.2.1
        refine r_aload_n dX8_vertex_0 rfl ?_
        refine r_iload_n dX8_vertex_1 rfl ?_
        refine r_cV ca_yX8_isNode ml_X8_94 im_yX8_isNode se_yX8_isNode (by decide) rfl (lay_ok hL rfl) (c_X8_isNode hL) ⟨by decide, by decide⟩ (by first | decide | omega) (by first | decide | omega) rfl (Nat.le_of_ble_eq_true rfl) dX8_vertex_2 ?_
        refine r_top 1 (by rw [s0]; exact inN_yes hj (by omega)) ?_
        refine r_if_ne 10 dX8_vertex_5 (by decide) (fun _ => ?_) (fun hq => absurd hq (by decide))
        refine r_aload_n dX8_vertex_10 rfl ?_
        refine r_getE (0) kX8 (k := 11) (by decide) rfl fl_X8_85 (lay_ok hL rfl) dX8_vertex_11 (by rw [s6, bool01 b7 c6]; rfl) ?_
        refine r_if_eq 20 dX8_vertex_14 (by decide) (fun _ => ?_) (fun hq => absurd (by decide) hq)
        refine r_aload_n dX8_vertex_20 rfl ?_
        refine r_getF kX8 (k := 0) (by decide) rfl fl_X8_12 (lay_ok hL rfl) (lay_r hL rfl) dX8_vertex_21 ?_
        refine r_getE (nI (gs g 1)) kX1 (k := 5) (by decide) rfl fl_X8_64 (lay_ok hL rfl) dX8_vertex_24 s1 ?_
        refine r_bipush (nI 16) dX8_vertex_27 (by decide) ?_
        refine r_icmp_lt 35 dX8_vertex_29 (by decide) (fun _ => ?_) (fun hq => absurd (nI_lt (by omega) (by decide)) hq)
        refine r_aload_n dX8_vertex_35 rfl ?_
        refine r_getF kX8 (k := 0) (by decide) rfl fl_X8_12 (lay_ok hL rfl) (lay_r hL rfl) dX8_vertex_36 ?_
        refine r_iload_n dX8_vertex_39 rfl ?_
        refine r_iload_n dX8_vertex_40 rfl ?_
        refine r_cV ca_yX1_addVertex ml_X8_98 im_yX1_addVertex se_yX1_addVertex (by decide) rfl (lay_ok hL rfl) (c_X1_addVertex hL s1 (by omega)) ⟨by decide, by decide⟩ (by first | decide | omega) (by first | decide | omega) rfl (Nat.le_of_ble_eq_true rfl) dX8_vertex_41 ?_
        refine r_lay (lay_wI (lay_wI (lay_wI hL _ _ _) _ _ _) _ _ _) (fun hL => ?_)
        refine r_istore_n _ dX8_vertex_44 (by decide) rfl ?_
        refine r_aload_n dX8_vertex_45 rfl ?_
        refine r_getF kX8 (k := 1) (by decide) rfl fl_X8_21 (lay_ok hL rfl) (lay_r hL rfl) dX8_vertex_46 ?_
        refine r_iload_n dX8_vertex_49 rfl ?_
        refine r_iload_n dX8_vertex_50 rfl ?_
        refine r_cV ca_yX7_begin ml_X8_102 im_yX7_begin se_yX7_begin (by decide) rfl (lay_ok hL rfl) (c_X7_begin hL (va := 8) (p := 9) (q := 10) (r := 11) (lay_ok hL rfl) (lay_r hL rfl) (lay_r hL rfl) (lay_r hL rfl) (lay_ok hL rfl) (lay_ok hL rfl) (lay_ok hL rfl) (v := gs g 1) (by omega)) ⟨by decide, by decide⟩ (by first | decide | omega) (by first | decide | omega) rfl (Nat.le_of_ble_eq_true rfl) dX8_vertex_51 ?_
        refine r_lay (lay_wI (lay_wI (lay_wI hL _ _ _) _ _ _) _ _ _) (fun hL => ?_)
        refine r_iload_n dX8_vertex_54 rfl ?_
        exact r_iret (Or.inl rfl) dX8_vertex_55 ⟨by rw [hk], by rw [hk]; exact hq.1, hL, hq.2.wd (fun x _ h => Nat.le_trans h (by decide))⟩
set_option maxHeartbeats 4000000 in
set_option maxRecDepth 100000 in
theorem k_X8_arc {l : Launch} {X : Nat × (Nat → Int32)} {M : am_M} (hL : Lay M) {g : tG} {c0 : Nat} (hX : absX M g) (hI : gI c0 g) {x y z : Int32} : am_C l yX8_arc cX8_arc 4 (some .int) 1 0 0 X [.ref 1, .int x, .int y, .int z] M (fun v M' => v = some (.int (k_arc x y z g).1) ∧ absX M' (k_arc x y z g).2 ∧ Lay M' ∧ am_gr (fun x => x ≤ 92) M M') := by
  refine am_C.of (by decide) (by simp [Value.category, va_rf]) (Nat.le_of_ble_eq_true rfl) ?_
  have hB := hI.1
  obtain ⟨b0, b1, b2, b3, b4, b5, b6, b7, b8, b9, bV, bA, bN, bl, bn, bh⟩ := id hB
  obtain ⟨s0, s1, s2, s3, s4, s5, s6, s7, s8, s9⟩ := hX.1
  have hL0 := hL
  rcases inN_cases x (k := gs g 1) (by omega) with ⟨e, c⟩ | ⟨a, ha, rfl, e⟩
  · have hk : k_arc x y z g = (-1, g) := by simp only [k_arc, e]
    refine r_aload_n dX8_arc_0 rfl ?_
    refine r_iload_n dX8_arc_1 rfl ?_
    refine r_cV ca_yX8_isVertex ml_X8_106 im_yX8_isVertex se_yX8_isVertex (by decide) rfl (lay_ok hL rfl) (c_X8_isVertex hL) ⟨by decide, by decide⟩ (by first | decide | omega) (by first | decide | omega) rfl (Nat.le_of_ble_eq_true rfl) dX8_arc_2 ?_
    refine r_top 0 (by rw [s1]; exact inN_no c) ?_
    refine r_if_eq 30 dX8_arc_5 (by decide) (fun _ => ?_) (fun hq => absurd (by decide) hq)
    refine r_iconst (-1) dX8_arc_30 (by decide) ?_
    exact r_iret (Or.inl rfl) dX8_arc_31 ⟨by rw [hk], by rw [hk]; exact hX, hL0, am_gr.rf⟩
  · rcases inN_cases y (k := gs g 1) (by omega) with ⟨f, c⟩ | ⟨b, hb, rfl, f⟩
    · have hk : k_arc (nI a) y z g = (-1, g) := by simp only [k_arc, e, f]
      refine r_aload_n dX8_arc_0 rfl ?_
      refine r_iload_n dX8_arc_1 rfl ?_
      refine r_cV ca_yX8_isVertex ml_X8_106 im_yX8_isVertex se_yX8_isVertex (by decide) rfl (lay_ok hL rfl) (c_X8_isVertex hL) ⟨by decide, by decide⟩ (by first | decide | omega) (by first | decide | omega) rfl (Nat.le_of_ble_eq_true rfl) dX8_arc_2 ?_
      refine r_top 1 (by rw [s1]; exact inN_yes ha (by omega)) ?_
      refine r_if_eq 30 dX8_arc_5 (by decide) (fun hq => absurd hq (by decide)) (fun _ => ?_)
      refine r_aload_n dX8_arc_8 rfl ?_
      refine r_iload_n dX8_arc_9 rfl ?_
      refine r_cV ca_yX8_isVertex ml_X8_106 im_yX8_isVertex se_yX8_isVertex (by decide) rfl (lay_ok hL rfl) (c_X8_isVertex hL) ⟨by decide, by decide⟩ (by first | decide | omega) (by first | decide | omega) rfl (Nat.le_of_ble_eq_true rfl) dX8_arc_10 ?_
      refine r_top 0 (by rw [s1]; exact inN_no c) ?_
      refine r_if_eq 30 dX8_arc_13 (by decide) (fun _ => ?_) (fun hq => absurd (by decide) hq)
      refine r_iconst (-1) dX8_arc_30 (by decide) ?_
      exact r_iret (Or.inl rfl) dX8_arc_31 ⟨by rw [hk], by rw [hk]; exact hX, hL0, am_gr.rf⟩
    · by_cases c1 : z < -1000
      · have hk : k_arc (nI a) (nI b) z g = (-1, g) := by simp only [k_arc, e, f, if_pos c1]
        refine r_aload_n dX8_arc_0 rfl ?_
        refine r_iload_n dX8_arc_1 rfl ?_
        refine r_cV ca_yX8_isVertex ml_X8_106 im_yX8_isVertex se_yX8_isVertex (by decide) rfl (lay_ok hL rfl) (c_X8_isVertex hL) ⟨by decide, by decide⟩ (by first | decide | omega) (by first | decide | omega) rfl (Nat.le_of_ble_eq_true rfl) dX8_arc_2 ?_
        refine r_top 1 (by rw [s1]; exact inN_yes ha (by omega)) ?_
        refine r_if_eq 30 dX8_arc_5 (by decide) (fun hq => absurd hq (by decide)) (fun _ => ?_)
        refine r_aload_n dX8_arc_8 rfl ?_
        refine r_iload_n dX8_arc_9 rfl ?_
        refine r_cV ca_yX8_isVertex ml_X8_106 im_yX8_isVertex se_yX8_isVertex (by decide) rfl (lay_ok hL rfl) (c_X8_isVertex hL) ⟨by decide, by decide⟩ (by first | decide | omega) (by first | decide | omega) rfl (Nat.le_of_ble_eq_true rfl) dX8_arc_10 ?_
        refine r_top 1 (by rw [s1]; exact inN_yes hb (by omega)) ?_
        refine r_if_eq 30 dX8_arc_13 (by decide) (fun hq => absurd hq (by decide)) (fun _ => ?_)
        refine r_iload_n dX8_arc_16 rfl ?_
        refine r_sipush (-1000) dX8_arc_17 (by decide) ?_
        refine r_icmp_lt 30 dX8_arc_20 (by decide) (fun _ => ?_) (fun hq => absurd c1 hq)
        refine r_iconst (-1) dX8_arc_30 (by decide) ?_
        exact r_iret (Or.inl rfl) dX8_arc_31 ⟨by rw [hk], by rw [hk]; exact hX, hL0, am_gr.rf⟩
      · by_cases c2 : 1000 < z
        · have hk : k_arc (nI a) (nI b) z g = (-1, g) := by simp only [k_arc, e, f, if_neg c1, if_pos c2]
          refine r_aload_n dX8_arc_0 rfl ?_
          refine r_iload_n dX8_arc_1 rfl ?_
          refine r_cV ca_yX8_isVertex ml_X8_106 im_yX8_isVertex se_yX8_isVertex (by decide) rfl (lay_ok hL rfl) (c_X8_isVertex hL) ⟨by decide, by decide⟩ (by first | decide | omega) (by first | decide | omega) rfl (Nat.le_of_ble_eq_true rfl) dX8_arc_2 ?_
          refine r_top 1 (by rw [s1]; exact inN_yes ha (by omega)) ?_
          refine r_if_eq 30 dX8_arc_5 (by decide) (fun hq => absurd hq (by decide)) (fun _ => ?_)
          refine r_aload_n dX8_arc_8 rfl ?_
          refine r_iload_n dX8_arc_9 rfl ?_
          refine r_cV ca_yX8_isVertex ml_X8_106 im_yX8_isVertex se_yX8_isVertex (by decide) rfl (lay_ok hL rfl) (c_X8_isVertex hL) ⟨by decide, by decide⟩ (by first | decide | omega) (by first | decide | omega) rfl (Nat.le_of_ble_eq_true rfl) dX8_arc_10 ?_
          refine r_top 1 (by rw [s1]; exact inN_yes hb (by omega)) ?_
          refine r_if_eq 30 dX8_arc_13 (by decide) (fun hq => absurd hq (by decide)) (fun _ => ?_)
          refine r_iload_n dX8_arc_16 rfl ?_
          refine r_sipush (-1000) dX8_arc_17 (by decide) ?_
          refine r_icmp_lt 30 dX8_arc_20 (by decide) (fun hq => absurd hq c1) (fun _ => ?_)
          refine r_iload_n dX8_arc_23 rfl ?_
          refine r_sipush (1000) dX8_arc_24 (by decide) ?_
          refine r_icmp_le 32 dX8_arc_27 (by decide) (fun hq => absurd hq (i32_nle c2)) (fun _ => ?_)
          refine r_iconst (-1) dX8_arc_30 (by decide) ?_
          exact r_iret (Or.inl rfl) dX8_arc_31 ⟨by rw [hk], by rw [hk]; exact hX, hL0, am_gr.rf⟩
        · by_cases c6 : gs g 6 = 1
          · have hk : k_arc (nI a) (nI b) z g = (-2, g) := by simp only [k_arc, e, f, if_neg c1, if_neg c2, if_pos c6]
            refine r_aload_n dX8_arc_0 rfl ?_
            refine r_iload_n dX8_arc_1 rfl ?_
            refine r_cV ca_yX8_isVertex ml_X8_106 im_yX8_isVertex se_yX8_isVertex (by decide) rfl (lay_ok hL rfl) (c_X8_isVertex hL) ⟨by decide, by decide⟩ (by first | decide | omega) (by first | decide | omega) rfl (Nat.le_of_ble_eq_true rfl) dX8_arc_2 ?_
            refine r_top 1 (by rw [s1]; exact inN_yes ha (by omega)) ?_
            refine r_if_eq 30 dX8_arc_5 (by decide) (fun hq => absurd hq (by decide)) (fun _ => ?_)
            refine r_aload_n dX8_arc_8 rfl ?_
            refine r_iload_n dX8_arc_9 rfl ?_
            refine r_cV ca_yX8_isVertex ml_X8_106 im_yX8_isVertex se_yX8_isVertex (by decide) rfl (lay_ok hL rfl) (c_X8_isVertex hL) ⟨by decide, by decide⟩ (by first | decide | omega) (by first | decide | omega) rfl (Nat.le_of_ble_eq_true rfl) dX8_arc_10 ?_
            refine r_top 1 (by rw [s1]; exact inN_yes hb (by omega)) ?_
            refine r_if_eq 30 dX8_arc_13 (by decide) (fun hq => absurd hq (by decide)) (fun _ => ?_)
            refine r_iload_n dX8_arc_16 rfl ?_
            refine r_sipush (-1000) dX8_arc_17 (by decide) ?_
            refine r_icmp_lt 30 dX8_arc_20 (by decide) (fun hq => absurd hq c1) (fun _ => ?_)
            refine r_iload_n dX8_arc_23 rfl ?_
            refine r_sipush (1000) dX8_arc_24 (by decide) ?_
            refine r_icmp_le 32 dX8_arc_27 (by decide) (fun _ => ?_) (fun hq => absurd (i32_le c2) hq)
            refine r_aload_n dX8_arc_32 rfl ?_
            refine r_getE (1) kX8 (k := 11) (by decide) rfl fl_X8_85 (lay_ok hL rfl) dX8_arc_33 (by rw [s6, c6]; rfl) ?_
            refine r_if_eq 42 dX8_arc_36 (by decide) (fun hq => absurd hq (by decide)) (fun _ => ?_)
            refine r_bipush (-2) dX8_arc_39 (by decide) ?_
            exact r_iret (Or.inl rfl) dX8_arc_41 ⟨by rw [hk], by rw [hk]; exact hX, hL0, am_gr.rf⟩
          · by_cases c7 : 40 ≤ gs g 2
            · have hk : k_arc (nI a) (nI b) z g = (-3, g) := by simp only [k_arc, e, f, if_neg c1, if_neg c2, if_neg c6, if_pos c7]
              refine r_aload_n dX8_arc_0 rfl ?_
              refine r_iload_n dX8_arc_1 rfl ?_
              refine r_cV ca_yX8_isVertex ml_X8_106 im_yX8_isVertex se_yX8_isVertex (by decide) rfl (lay_ok hL rfl) (c_X8_isVertex hL) ⟨by decide, by decide⟩ (by first | decide | omega) (by first | decide | omega) rfl (Nat.le_of_ble_eq_true rfl) dX8_arc_2 ?_
              refine r_top 1 (by rw [s1]; exact inN_yes ha (by omega)) ?_
              refine r_if_eq 30 dX8_arc_5 (by decide) (fun hq => absurd hq (by decide)) (fun _ => ?_)
              refine r_aload_n dX8_arc_8 rfl ?_
              refine r_iload_n dX8_arc_9 rfl ?_
              refine r_cV ca_yX8_isVertex ml_X8_106 im_yX8_isVertex se_yX8_isVertex (by decide) rfl (lay_ok hL rfl) (c_X8_isVertex hL) ⟨by decide, by decide⟩ (by first | decide | omega) (by first | decide | omega) rfl (Nat.le_of_ble_eq_true rfl) dX8_arc_10 ?_
              refine r_top 1 (by rw [s1]; exact inN_yes hb (by omega)) ?_
              refine r_if_eq 30 dX8_arc_13 (by decide) (fun hq => absurd hq (by decide)) (fun _ => ?_)
              refine r_iload_n dX8_arc_16 rfl ?_
              refine r_sipush (-1000) dX8_arc_17 (by decide) ?_
              refine r_icmp_lt 30 dX8_arc_20 (by decide) (fun hq => absurd hq c1) (fun _ => ?_)
              refine r_iload_n dX8_arc_23 rfl ?_
              refine r_sipush (1000) dX8_arc_24 (by decide) ?_
              refine r_icmp_le 32 dX8_arc_27 (by decide) (fun _ => ?_) (fun hq => absurd (i32_le c2) hq)
              refine r_aload_n dX8_arc_32 rfl ?_
              refine r_getE (0) kX8 (k := 11) (by decide) rfl fl_X8_85 (lay_ok hL rfl) dX8_arc_33 (by rw [s6, bool01 b7 c6]; rfl) ?_
              refine r_if_eq 42 dX8_arc_36 (by decide) (fun _ => ?_) (fun hq => absurd (by decide) hq)
              refine r_aload_n dX8_arc_42 rfl ?_
              refine r_getF kX8 (k := 0) (by decide) rfl fl_X8_12 (lay_ok hL rfl) (lay_r hL rfl) dX8_arc_43 ?_
              refine r_getE (nI (gs g 2)) kX1 (k := 6) (by decide) rfl fl_X8_109 (lay_ok hL rfl) dX8_arc_46 s2 ?_
              refine r_bipush (nI 40) dX8_arc_49 (by decide) ?_
              refine r_icmp_lt 57 dX8_arc_51 (by decide) (fun hq => absurd hq (nI_nlt c7 (by omega))) (fun _ => ?_)
              refine r_bipush (-3) dX8_arc_54 (by decide) ?_
              exact r_iret (Or.inl rfl) dX8_arc_56 ⟨by rw [hk], by rw [hk]; exact hX, hL0, am_gr.rf⟩
            · have hk : k_arc (nI a) (nI b) z g = (nI (gs g 2), g_arc a b z g) := by simp only [k_arc, e, f, if_neg c1, if_neg c2, if_neg c6, if_neg c7]
              have hq := absX_arc (a := a) (b := b) (w := z) hL0.1 hX
              refine r_aload_n dX8_arc_0 rfl ?_
              refine r_iload_n dX8_arc_1 rfl ?_
              refine r_cV ca_yX8_isVertex ml_X8_106 im_yX8_isVertex se_yX8_isVertex (by decide) rfl (lay_ok hL rfl) (c_X8_isVertex hL) ⟨by decide, by decide⟩ (by first | decide | omega) (by first | decide | omega) rfl (Nat.le_of_ble_eq_true rfl) dX8_arc_2 ?_
              refine r_top 1 (by rw [s1]; exact inN_yes ha (by omega)) ?_
              refine r_if_eq 30 dX8_arc_5 (by decide) (fun hq => absurd hq (by decide)) (fun _ => ?_)
              refine r_aload_n dX8_arc_8 rfl ?_
              refine r_iload_n dX8_arc_9 rfl ?_
              refine r_cV ca_yX8_isVertex ml_X8_106 im_yX8_isVertex se_yX8_isVertex (by decide) rfl (lay_ok hL rfl) (c_X8_isVertex hL) ⟨by decide, by decide⟩ (by first | decide | omega) (by first | decide | omega) rfl (Nat.le_of_ble_eq_true rfl) dX8_arc_10 ?_
              refine r_top 1 (by rw [s1]; exact inN_yes hb (by omega)) ?_
              refine r_if_eq 30 dX8_arc_13 (by decide) (fun hq => absurd hq (by decide)) (fun _ => ?_)
              refine r_iload_n dX8_arc_16 rfl ?_
              refine r_sipush (-1000) dX8_arc_17 (by decide) ?_
              refine r_icmp_lt 30 dX8_arc_20 (by decide) (fun hq => absurd hq c1) (fun _ => ?_)
              refine r_iload_n dX8_arc_23 rfl ?_
              refine r_sipush (1000) dX8_arc_24 (by decide) ?_
              refine r_icmp_le 32 dX8_arc_27 (by decide) (fun _ => ?_) (fun hq => absurd (i32_le c2) hq)
              refine r_aload_n dX8_arc_32 rfl ?_
              refine r_getE (0) kX8 (k := 11) (by decide) rfl fl_X8_85 (lay_ok hL rfl) dX8_arc_33 (by rw [s6, bool01 b7 c6]; rfl) ?_
              refine r_if_eq 42 dX8_arc_36 (by decide) (fun _ => ?_) (fun hq => absurd (by decide) hq)
              refine r_aload_n dX8_arc_42 rfl ?_
              refine r_getF kX8 (k := 0) (by decide) rfl fl_X8_12 (lay_ok hL rfl) (lay_r hL rfl) dX8_arc_43 ?_
              refine r_getE (nI (gs g 2)) kX1 (k := 6) (by decide) rfl fl_X8_109 (lay_ok hL rfl) dX8_arc_46 s2 ?_
              refine r_bipush (nI 40) dX8_arc_49 (by decide) ?_
              refine r_icmp_lt 57 dX8_arc_51 (by decide) (fun _ => ?_) (fun hq => absurd (nI_lt (by omega) (by decide)) hq)
              refine r_aload_n dX8_arc_57 rfl ?_
              refine r_getF kX8 (k := 0) (by decide) rfl fl_X8_12 (lay_ok hL rfl) (lay_r hL rfl) dX8_arc_58 ?_
              refine r_iload_n dX8_arc_61 rfl ?_
              refine r_iload_n dX8_arc_62 rfl ?_
              refine r_iload_n dX8_arc_63 rfl ?_
              refine r_cV ca_yX1_addArc ml_X8_112 im_yX1_addArc se_yX1_addArc (by decide) rfl (lay_ok hL rfl) (c_X1_addArc hL s2 (by omega)) ⟨by decide, by decide⟩ (by first | decide | omega) (by first | decide | omega) rfl (Nat.le_of_ble_eq_true rfl) dX8_arc_64 ?_
              refine r_lay (lay_wI (lay_wI (lay_wI (lay_wI hL _ _ _) _ _ _) _ _ _) _ _ _) (fun hL => ?_)
              exact r_iret (Or.inl rfl) dX8_arc_67 ⟨by rw [hk], by rw [hk]; exact hq.1, hL, hq.2.wd (fun x _ h => Nat.le_trans h (by decide))⟩
set_option maxHeartbeats 4000000 in
set_option maxRecDepth 100000 in
theorem k_X8_kind {l : Launch} {X : Nat × (Nat → Int32)} {M : am_M} (hL : Lay M) {g : tG} {c0 : Nat} (hX : absX M g) (hI : gI c0 g) {x : Int32} : am_C l yX8_kind cX8_kind 3 (some .int) 0 0 0 X [.ref 1, .int x] M (fun v M' => v = some (.int (k_kind x g).1) ∧ absX M' (k_kind x g).2 ∧ Lay M' ∧ am_gr (fun x => x ≤ 92) M M') := by
  refine am_C.of (by decide) (by simp [Value.category, va_rf]) (Nat.le_of_ble_eq_true rfl) ?_
  have hB := hI.1
  obtain ⟨b0, b1, b2, b3, b4, b5, b6, b7, b8, b9, bV, bA, bN, bl, bn, bh⟩ := id hB
  obtain ⟨s0, s1, s2, s3, s4, s5, s6, s7, s8, s9⟩ := hX.1
  have hL0 := hL
  rcases inN_cases x (k := 4) (by decide) with ⟨e, c⟩ | ⟨j, hj, rfl, e⟩
  · have hk : k_kind x g = (-1, g) := by simp only [k_kind, e]
    rcases c with c | c
    · skip
      refine r_iload_n dX8_kind_0 rfl ?_
      refine r_if_lt 9 dX8_kind_1 (by decide) (fun _ => ?_) (fun hq => absurd c hq)
      refine r_iconst (-1) dX8_kind_9 (by decide) ?_
      exact r_iret (Or.inl rfl) dX8_kind_10 ⟨by rw [hk], by rw [hk]; exact hX, hL0, am_gr.rf⟩
    · skip
      refine r_iload_n dX8_kind_0 rfl ?_
      refine r_if_lt 9 dX8_kind_1 (by decide) (fun hq => absurd hq c.1) (fun _ => ?_)
      refine r_iload_n dX8_kind_4 rfl ?_
      refine r_iconst (3) dX8_kind_5 (by decide) ?_
      refine r_icmp_le 11 dX8_kind_6 (by decide) (fun hq => absurd hq (le_34 c.2)) (fun _ => ?_)
      refine r_iconst (-1) dX8_kind_9 (by decide) ?_
      exact r_iret (Or.inl rfl) dX8_kind_10 ⟨by rw [hk], by rw [hk]; exact hX, hL0, am_gr.rf⟩
  · by_cases c6 : gs g 6 = 1
    · have hk : k_kind (nI j) g = (-2, g) := by simp only [k_kind, e, if_pos c6]
      refine r_iload_n dX8_kind_0 rfl ?_
      refine r_if_lt 9 dX8_kind_1 (by decide) (fun hq => absurd hq (nI_pos (by omega))) (fun _ => ?_)
      refine r_iload_n dX8_kind_4 rfl ?_
      refine r_iconst (nI 3) dX8_kind_5 (by decide) ?_
      refine r_icmp_le 11 dX8_kind_6 (by decide) (fun _ => ?_) (fun hq => absurd (nI_le (by omega) (by decide)) hq)
      refine r_aload_n dX8_kind_11 rfl ?_
      refine r_getE (1) kX8 (k := 11) (by decide) rfl fl_X8_85 (lay_ok hL rfl) dX8_kind_12 (by rw [s6, c6]; rfl) ?_
      refine r_if_eq 21 dX8_kind_15 (by decide) (fun hq => absurd hq (by decide)) (fun _ => ?_)
      refine r_bipush (-2) dX8_kind_18 (by decide) ?_
      exact r_iret (Or.inl rfl) dX8_kind_20 ⟨by rw [hk], by rw [hk]; exact hX, hL0, am_gr.rf⟩
    · have hk : k_kind (nI j) g = (nI (gs g 3), us (us g 3 j) 4 0) := by simp only [k_kind, e, if_neg c6]
      have hq1 := absX_s3 hL0.1 hX j
      have hq2 := absX_s4 (M := wI M 2 7 (nI j)) hL0.1 hq1 0
      refine r_iload_n dX8_kind_0 rfl ?_
      refine r_if_lt 9 dX8_kind_1 (by decide) (fun hq => absurd hq (nI_pos (by omega))) (fun _ => ?_)
      refine r_iload_n dX8_kind_4 rfl ?_
      refine r_iconst (nI 3) dX8_kind_5 (by decide) ?_
      refine r_icmp_le 11 dX8_kind_6 (by decide) (fun _ => ?_) (fun hq => absurd (nI_le (by omega) (by decide)) hq)
      refine r_aload_n dX8_kind_11 rfl ?_
      refine r_getE (0) kX8 (k := 11) (by decide) rfl fl_X8_85 (lay_ok hL rfl) dX8_kind_12 (by rw [s6, bool01 b7 c6]; rfl) ?_
      refine r_if_eq 21 dX8_kind_15 (by decide) (fun _ => ?_) (fun hq => absurd (by decide) hq)
      refine r_aload_n dX8_kind_21 rfl ?_
      refine r_getF kX8 (k := 0) (by decide) rfl fl_X8_12 (lay_ok hL rfl) (lay_r hL rfl) dX8_kind_22 ?_
      refine r_getE (nI (gs g 3)) kX1 (k := 7) (by decide) rfl fl_X8_116 (lay_ok hL rfl) dX8_kind_25 s3 ?_
      refine r_istore_n _ dX8_kind_28 (by decide) rfl ?_
      refine r_aload_n dX8_kind_29 rfl ?_
      refine r_getF kX8 (k := 0) (by decide) rfl fl_X8_12 (lay_ok hL rfl) (lay_r hL rfl) dX8_kind_30 ?_
      refine r_iload_n dX8_kind_33 rfl ?_
      refine r_putI kX1 (k := 7) (by decide) rfl (Or.inl rfl) fl_X8_116 (lay_ok hL rfl) ⟨rfl, rfl⟩ dX8_kind_34 ?_
      refine r_lay (lay_wI hL _ _ _) (fun hL => ?_)
      refine r_aload_n dX8_kind_37 rfl ?_
      refine r_iconst (0) dX8_kind_38 (by decide) ?_
      refine r_putI kX8 (k := 10) (by decide) rfl (Or.inl rfl) fl_X8_81 (lay_ok hL rfl) (by decide) dX8_kind_39 ?_
      refine r_lay (lay_wI hL _ _ _) (fun hL => ?_)
      refine r_iload_n dX8_kind_42 rfl ?_
      exact r_iret (Or.inl rfl) dX8_kind_43 ⟨by rw [hk], by rw [hk]; exact hq2, hL, ((am_gr.wI 7 (nI j) (by decide)).tr (am_gr.wI 10 0 (by decide)))⟩
set_option maxHeartbeats 4000000 in
set_option maxRecDepth 100000 in
theorem k_X8_every {l : Launch} {X : Nat × (Nat → Int32)} {M : am_M} (hL : Lay M) {g : tG} {c0 : Nat} (hX : absX M g) (hI : gI c0 g) {x : Int32} : am_C l yX8_every cX8_every 3 (some .int) 0 0 0 X [.ref 1, .int x] M (fun v M' => v = some (.int (k_every x g).1) ∧ absX M' (k_every x g).2 ∧ Lay M' ∧ am_gr (fun x => x ≤ 92) M M') := by
  refine am_C.of (by decide) (by simp [Value.category, va_rf]) (Nat.le_of_ble_eq_true rfl) ?_
  have hB := hI.1
  obtain ⟨b0, b1, b2, b3, b4, b5, b6, b7, b8, b9, bV, bA, bN, bl, bn, bh⟩ := id hB
  obtain ⟨s0, s1, s2, s3, s4, s5, s6, s7, s8, s9⟩ := hX.1
  have hL0 := hL
  rcases inN_cases x (k := 51) (by decide) with ⟨e, c⟩ | ⟨j, hj, rfl, e⟩
  · have hk : k_every x g = (-1, g) := by simp only [k_every, e]
    rcases c with c | c
    · skip
      refine r_iload_n dX8_every_0 rfl ?_
      refine r_if_lt 10 dX8_every_1 (by decide) (fun _ => ?_) (fun hq => absurd c hq)
      refine r_iconst (-1) dX8_every_10 (by decide) ?_
      exact r_iret (Or.inl rfl) dX8_every_11 ⟨by rw [hk], by rw [hk]; exact hX, hL0, am_gr.rf⟩
    · skip
      refine r_iload_n dX8_every_0 rfl ?_
      refine r_if_lt 10 dX8_every_1 (by decide) (fun hq => absurd hq c.1) (fun _ => ?_)
      refine r_iload_n dX8_every_4 rfl ?_
      refine r_bipush (50) dX8_every_5 (by decide) ?_
      refine r_icmp_le 12 dX8_every_7 (by decide) (fun hq => absurd hq (le_50 c.2)) (fun _ => ?_)
      refine r_iconst (-1) dX8_every_10 (by decide) ?_
      exact r_iret (Or.inl rfl) dX8_every_11 ⟨by rw [hk], by rw [hk]; exact hX, hL0, am_gr.rf⟩
  · by_cases c6 : gs g 6 = 1
    · have hk : k_every (nI j) g = (-2, g) := by simp only [k_every, e, if_pos c6]
      refine r_iload_n dX8_every_0 rfl ?_
      refine r_if_lt 10 dX8_every_1 (by decide) (fun hq => absurd hq (nI_pos (by omega))) (fun _ => ?_)
      refine r_iload_n dX8_every_4 rfl ?_
      refine r_bipush (nI 50) dX8_every_5 (by decide) ?_
      refine r_icmp_le 12 dX8_every_7 (by decide) (fun _ => ?_) (fun hq => absurd (nI_le (by omega) (by decide)) hq)
      refine r_aload_n dX8_every_12 rfl ?_
      refine r_getE (1) kX8 (k := 11) (by decide) rfl fl_X8_85 (lay_ok hL rfl) dX8_every_13 (by rw [s6, c6]; rfl) ?_
      refine r_if_eq 22 dX8_every_16 (by decide) (fun hq => absurd hq (by decide)) (fun _ => ?_)
      refine r_bipush (-2) dX8_every_19 (by decide) ?_
      exact r_iret (Or.inl rfl) dX8_every_21 ⟨by rw [hk], by rw [hk]; exact hX, hL0, am_gr.rf⟩
    · have hk : k_every (nI j) g = (nI (gs g 5), us g 5 j) := by simp only [k_every, e, if_neg c6]
      have hq := absX_s5 hL0.1 hX j
      refine r_iload_n dX8_every_0 rfl ?_
      refine r_if_lt 10 dX8_every_1 (by decide) (fun hq => absurd hq (nI_pos (by omega))) (fun _ => ?_)
      refine r_iload_n dX8_every_4 rfl ?_
      refine r_bipush (nI 50) dX8_every_5 (by decide) ?_
      refine r_icmp_le 12 dX8_every_7 (by decide) (fun _ => ?_) (fun hq => absurd (nI_le (by omega) (by decide)) hq)
      refine r_aload_n dX8_every_12 rfl ?_
      refine r_getE (0) kX8 (k := 11) (by decide) rfl fl_X8_85 (lay_ok hL rfl) dX8_every_13 (by rw [s6, bool01 b7 c6]; rfl) ?_
      refine r_if_eq 22 dX8_every_16 (by decide) (fun _ => ?_) (fun hq => absurd (by decide) hq)
      refine r_aload_n dX8_every_22 rfl ?_
      refine r_getE (nI (gs g 5)) kX8 (k := 9) (by decide) rfl fl_X8_78 (lay_ok hL rfl) dX8_every_23 s5 ?_
      refine r_istore_n _ dX8_every_26 (by decide) rfl ?_
      refine r_aload_n dX8_every_27 rfl ?_
      refine r_iload_n dX8_every_28 rfl ?_
      refine r_putI kX8 (k := 9) (by decide) rfl (Or.inl rfl) fl_X8_78 (lay_ok hL rfl) ⟨rfl, rfl⟩ dX8_every_29 ?_
      refine r_lay (lay_wI hL _ _ _) (fun hL => ?_)
      refine r_iload_n dX8_every_32 rfl ?_
      exact r_iret (Or.inl rfl) dX8_every_33 ⟨by rw [hk], by rw [hk]; exact hq, hL, (am_gr.wI 9 (nI j) (by decide))⟩
set_option maxHeartbeats 4000000 in
set_option maxRecDepth 100000 in
theorem k_X8_joined {l : Launch} {X : Nat × (Nat → Int32)} {M : am_M} (hL : Lay M) {g : tG} {c0 : Nat} (hX : absX M g) (hI : gI c0 g) {b : Nat} (hb : b ≤ 1) : am_C l yX8_joined cX8_joined 3 (some .int) 0 0 0 X [.ref 1, .int (nI b)] M (fun v M' => v = some (.int (k_joined b g).1) ∧ absX M' (k_joined b g).2 ∧ Lay M' ∧ am_gr (fun x => x ≤ 92) M M') := by
  refine am_C.of (by decide) (by simp [Value.category, va_rf]) (Nat.le_of_ble_eq_true rfl) ?_
  have hB := hI.1
  obtain ⟨b0, b1, b2, b3, b4, b5, b6, b7, b8, b9, bV, bA, bN, bl, bn, bh⟩ := id hB
  obtain ⟨s0, s1, s2, s3, s4, s5, s6, s7, s8, s9⟩ := hX.1
  have hL0 := hL
  have hq := fun b => absX_s4 hL0.1 hX b
  by_cases c3 : gs g 3 = 3
  · rcases (show b = 0 ∨ b = 1 by omega) with rfl | rfl
    · have hk : k_joined 0 g = (nI (gs g 4), us g 4 0) := if_neg (by omega)
      rcases (show gs g 4 = 0 ∨ gs g 4 = 1 by omega) with c4 | c4
      · rw [c4] at hk
        refine r_iload_n dX8_joined_0 rfl ?_
        refine r_if_eq 18 dX8_joined_1 (by decide) (fun _ => ?_) (fun hq => absurd (by decide) hq)
        refine r_aload_n dX8_joined_18 rfl ?_
        refine r_getE (0) kX8 (k := 10) (by decide) rfl fl_X8_81 (lay_ok hL rfl) dX8_joined_19 (by rw [s4, c4]; rfl) ?_
        refine r_if_eq 29 dX8_joined_22 (by decide) (fun _ => ?_) (fun hq => absurd (by decide) hq)
        refine r_iconst (0) dX8_joined_29 (by decide) ?_
        refine r_istore_n _ dX8_joined_30 (by decide) rfl ?_
        refine r_aload_n dX8_joined_31 rfl ?_
        refine r_iload_n dX8_joined_32 rfl ?_
        refine r_putI kX8 (k := 10) (by decide) rfl (Or.inl rfl) fl_X8_81 (lay_ok hL rfl) (by decide) dX8_joined_33 ?_
        refine r_lay (lay_wI hL _ _ _) (fun hL => ?_)
        refine r_iload_n dX8_joined_36 rfl ?_
        exact r_iret (Or.inl rfl) dX8_joined_37 ⟨(congrArg (fun q : Int32 × tG => some (Value.int q.1)) hk).symm, by rw [hk]; exact hq 0, hL, (am_gr.wI 10 (nI 0) (by decide))⟩
      · rw [c4] at hk
        refine r_iload_n dX8_joined_0 rfl ?_
        refine r_if_eq 18 dX8_joined_1 (by decide) (fun _ => ?_) (fun hq => absurd (by decide) hq)
        refine r_aload_n dX8_joined_18 rfl ?_
        refine r_getE (1) kX8 (k := 10) (by decide) rfl fl_X8_81 (lay_ok hL rfl) dX8_joined_19 (by rw [s4, c4]; rfl) ?_
        refine r_if_eq 29 dX8_joined_22 (by decide) (fun hq => absurd hq (by decide)) (fun _ => ?_)
        refine r_iconst (1) dX8_joined_25 (by decide) ?_
        refine r_goto 30 dX8_joined_26 (by decide) ?_
        refine r_istore_n _ dX8_joined_30 (by decide) rfl ?_
        refine r_aload_n dX8_joined_31 rfl ?_
        refine r_iload_n dX8_joined_32 rfl ?_
        refine r_putI kX8 (k := 10) (by decide) rfl (Or.inl rfl) fl_X8_81 (lay_ok hL rfl) (by decide) dX8_joined_33 ?_
        refine r_lay (lay_wI hL _ _ _) (fun hL => ?_)
        refine r_iload_n dX8_joined_36 rfl ?_
        exact r_iret (Or.inl rfl) dX8_joined_37 ⟨(congrArg (fun q : Int32 × tG => some (Value.int q.1)) hk).symm, by rw [hk]; exact hq 0, hL, (am_gr.wI 10 (nI 0) (by decide))⟩
    · have hk : k_joined 1 g = (-2, g) := if_pos ⟨rfl, c3⟩
      refine r_iload_n dX8_joined_0 rfl ?_
      refine r_if_eq 18 dX8_joined_1 (by decide) (fun hq => absurd hq (by decide)) (fun _ => ?_)
      refine r_aload_n dX8_joined_4 rfl ?_
      refine r_getF kX8 (k := 0) (by decide) rfl fl_X8_12 (lay_ok hL rfl) (lay_r hL rfl) dX8_joined_5 ?_
      refine r_getE (nI (gs g 3)) kX1 (k := 7) (by decide) rfl fl_X8_116 (lay_ok hL rfl) dX8_joined_8 s3 ?_
      refine r_iconst (nI 3) dX8_joined_11 (by decide) ?_
      refine r_icmp_ne 18 dX8_joined_12 (by decide) (fun hq => absurd (by rw [c3]) hq) (fun _ => ?_)
      refine r_bipush (-2) dX8_joined_15 (by decide) ?_
      exact r_iret (Or.inl rfl) dX8_joined_17 ⟨by rw [hk], by rw [hk]; exact hX, hL0, am_gr.rf⟩
  · rcases (show b = 0 ∨ b = 1 by omega) with rfl | rfl
    · have hk : k_joined 0 g = (nI (gs g 4), us g 4 0) := if_neg (by omega)
      rcases (show gs g 4 = 0 ∨ gs g 4 = 1 by omega) with c4 | c4
      · rw [c4] at hk
        refine r_iload_n dX8_joined_0 rfl ?_
        refine r_if_eq 18 dX8_joined_1 (by decide) (fun _ => ?_) (fun hq => absurd (by decide) hq)
        refine r_aload_n dX8_joined_18 rfl ?_
        refine r_getE (0) kX8 (k := 10) (by decide) rfl fl_X8_81 (lay_ok hL rfl) dX8_joined_19 (by rw [s4, c4]; rfl) ?_
        refine r_if_eq 29 dX8_joined_22 (by decide) (fun _ => ?_) (fun hq => absurd (by decide) hq)
        refine r_iconst (0) dX8_joined_29 (by decide) ?_
        refine r_istore_n _ dX8_joined_30 (by decide) rfl ?_
        refine r_aload_n dX8_joined_31 rfl ?_
        refine r_iload_n dX8_joined_32 rfl ?_
        refine r_putI kX8 (k := 10) (by decide) rfl (Or.inl rfl) fl_X8_81 (lay_ok hL rfl) (by decide) dX8_joined_33 ?_
        refine r_lay (lay_wI hL _ _ _) (fun hL => ?_)
        refine r_iload_n dX8_joined_36 rfl ?_
        exact r_iret (Or.inl rfl) dX8_joined_37 ⟨(congrArg (fun q : Int32 × tG => some (Value.int q.1)) hk).symm, by rw [hk]; exact hq 0, hL, (am_gr.wI 10 (nI 0) (by decide))⟩
      · rw [c4] at hk
        refine r_iload_n dX8_joined_0 rfl ?_
        refine r_if_eq 18 dX8_joined_1 (by decide) (fun _ => ?_) (fun hq => absurd (by decide) hq)
        refine r_aload_n dX8_joined_18 rfl ?_
        refine r_getE (1) kX8 (k := 10) (by decide) rfl fl_X8_81 (lay_ok hL rfl) dX8_joined_19 (by rw [s4, c4]; rfl) ?_
        refine r_if_eq 29 dX8_joined_22 (by decide) (fun hq => absurd hq (by decide)) (fun _ => ?_)
        refine r_iconst (1) dX8_joined_25 (by decide) ?_
        refine r_goto 30 dX8_joined_26 (by decide) ?_
        refine r_istore_n _ dX8_joined_30 (by decide) rfl ?_
        refine r_aload_n dX8_joined_31 rfl ?_
        refine r_iload_n dX8_joined_32 rfl ?_
        refine r_putI kX8 (k := 10) (by decide) rfl (Or.inl rfl) fl_X8_81 (lay_ok hL rfl) (by decide) dX8_joined_33 ?_
        refine r_lay (lay_wI hL _ _ _) (fun hL => ?_)
        refine r_iload_n dX8_joined_36 rfl ?_
        exact r_iret (Or.inl rfl) dX8_joined_37 ⟨(congrArg (fun q : Int32 × tG => some (Value.int q.1)) hk).symm, by rw [hk]; exact hq 0, hL, (am_gr.wI 10 (nI 0) (by decide))⟩
    · have hk : k_joined 1 g = (nI (gs g 4), us g 4 1) := if_neg (by omega)
      rcases (show gs g 4 = 0 ∨ gs g 4 = 1 by omega) with c4 | c4
      · rw [c4] at hk
        refine r_iload_n dX8_joined_0 rfl ?_
        refine r_if_eq 18 dX8_joined_1 (by decide) (fun hq => absurd hq (by decide)) (fun _ => ?_)
        refine r_aload_n dX8_joined_4 rfl ?_
        refine r_getF kX8 (k := 0) (by decide) rfl fl_X8_12 (lay_ok hL rfl) (lay_r hL rfl) dX8_joined_5 ?_
        refine r_getE (nI (gs g 3)) kX1 (k := 7) (by decide) rfl fl_X8_116 (lay_ok hL rfl) dX8_joined_8 s3 ?_
        refine r_iconst (nI 3) dX8_joined_11 (by decide) ?_
        refine r_icmp_ne 18 dX8_joined_12 (by decide) (fun _ => ?_) (fun hq => absurd hq (fun z => c3 ((nI_eq (by omega) (by decide)).mp z)))
        refine r_aload_n dX8_joined_18 rfl ?_
        refine r_getE (0) kX8 (k := 10) (by decide) rfl fl_X8_81 (lay_ok hL rfl) dX8_joined_19 (by rw [s4, c4]; rfl) ?_
        refine r_if_eq 29 dX8_joined_22 (by decide) (fun _ => ?_) (fun hq => absurd (by decide) hq)
        refine r_iconst (0) dX8_joined_29 (by decide) ?_
        refine r_istore_n _ dX8_joined_30 (by decide) rfl ?_
        refine r_aload_n dX8_joined_31 rfl ?_
        refine r_iload_n dX8_joined_32 rfl ?_
        refine r_putI kX8 (k := 10) (by decide) rfl (Or.inl rfl) fl_X8_81 (lay_ok hL rfl) (by decide) dX8_joined_33 ?_
        refine r_lay (lay_wI hL _ _ _) (fun hL => ?_)
        refine r_iload_n dX8_joined_36 rfl ?_
        exact r_iret (Or.inl rfl) dX8_joined_37 ⟨(congrArg (fun q : Int32 × tG => some (Value.int q.1)) hk).symm, by rw [hk]; exact hq 1, hL, (am_gr.wI 10 (nI 1) (by decide))⟩
      · rw [c4] at hk
        refine r_iload_n dX8_joined_0 rfl ?_
        refine r_if_eq 18 dX8_joined_1 (by decide) (fun hq => absurd hq (by decide)) (fun _ => ?_)
        refine r_aload_n dX8_joined_4 rfl ?_
        refine r_getF kX8 (k := 0) (by decide) rfl fl_X8_12 (lay_ok hL rfl) (lay_r hL rfl) dX8_joined_5 ?_
        refine r_getE (nI (gs g 3)) kX1 (k := 7) (by decide) rfl fl_X8_116 (lay_ok hL rfl) dX8_joined_8 s3 ?_
        refine r_iconst (nI 3) dX8_joined_11 (by decide) ?_
        refine r_icmp_ne 18 dX8_joined_12 (by decide) (fun _ => ?_) (fun hq => absurd hq (fun z => c3 ((nI_eq (by omega) (by decide)).mp z)))
        refine r_aload_n dX8_joined_18 rfl ?_
        refine r_getE (1) kX8 (k := 10) (by decide) rfl fl_X8_81 (lay_ok hL rfl) dX8_joined_19 (by rw [s4, c4]; rfl) ?_
        refine r_if_eq 29 dX8_joined_22 (by decide) (fun hq => absurd hq (by decide)) (fun _ => ?_)
        refine r_iconst (1) dX8_joined_25 (by decide) ?_
        refine r_goto 30 dX8_joined_26 (by decide) ?_
        refine r_istore_n _ dX8_joined_30 (by decide) rfl ?_
        refine r_aload_n dX8_joined_31 rfl ?_
        refine r_iload_n dX8_joined_32 rfl ?_
        refine r_putI kX8 (k := 10) (by decide) rfl (Or.inl rfl) fl_X8_81 (lay_ok hL rfl) (by decide) dX8_joined_33 ?_
        refine r_lay (lay_wI hL _ _ _) (fun hL => ?_)
        refine r_iload_n dX8_joined_36 rfl ?_
        exact r_iret (Or.inl rfl) dX8_joined_37 ⟨(congrArg (fun q : Int32 × tG => some (Value.int q.1)) hk).symm, by rw [hk]; exact hq 1, hL, (am_gr.wI 10 (nI 1) (by decide))⟩
set_option maxHeartbeats 4000000 in
set_option maxRecDepth 100000 in
theorem k_X8_letter {l : Launch} {X : Nat × (Nat → Int32)} {M : am_M} (hL : Lay M) {g : tG} {c0 : Nat} (hX : absX M g) (hI : gI c0 g) {x y : Int32} : am_F l yX8_letter cX8_letter 4 (some .int) 1 0 0 X [.ref 1, .int x, .int y] M (some (.int (k_letter x y g))) M := by
  refine am_C.of (by decide) (by simp [Value.category, va_rf]) (Nat.le_of_ble_eq_true rfl) ?_
  have hB := hI.1
  obtain ⟨b0, b1, b2, b3, b4, b5, b6, b7, b8, b9, bV, bA, bN, bl, bn, bh⟩ := id hB
  obtain ⟨s0, s1, s2, s3, s4, s5, s6, s7, s8, s9⟩ := hX.1
  have hL0 := hL
  rcases inN_cases x (k := (gn g).length) (by omega) with ⟨e, c⟩ | ⟨i, hi, rfl, e⟩
  · have hk : k_letter x y g = -1 := by simp only [k_letter, e]
    refine r_aload_n dX8_letter_0 rfl ?_
    refine r_getF kX8 (k := 5) (by decide) rfl fl_X8_45 (lay_ok hL rfl) (lay_r hL rfl) dX8_letter_1 ?_
    refine r_iload_n dX8_letter_4 rfl ?_
    refine r_cV ca_yX5_at ml_X8_125 im_yX5_at se_yX5_at (by decide) rfl (lay_ok hL rfl) (c_X5_at hL hX.2.2.2.2.1.1 hX.2.2.2.2.1.2.1) ⟨by decide, by decide⟩ (by first | decide | omega) (by first | decide | omega) rfl (Nat.le_of_ble_eq_true rfl) dX8_letter_5 ?_
    rw [show (if x < 0 then none else if nI (gn g).length ≤ x then none else mR M 25 x.toNatClampNeg) = (none : Option Nat) from inN_no c]
    refine r_astore_nq _ dX8_letter_8 (by decide) rfl ?_
    refine r_aload_nq dX8_letter_9 rfl ?_
    refine r_ifnonnull (r := none) 15 dX8_letter_10 (by decide) (fun _ hq => by cases hq) (fun _ => ?_)
    refine r_iconst (-1) dX8_letter_13 (by decide) ?_
    exact r_iret (Or.inl rfl) dX8_letter_14 ⟨by rw [hk], rfl⟩
  · obtain ⟨t, ht⟩ : ∃ t, (gn g)[i]? = some t := ⟨_, List.getElem?_eq_getElem hi⟩
    obtain ⟨a, ha, hl⟩ := hX.2.2.2.2.1.2.2 i t ht
    obtain ⟨l1, l2, l3, l4, l5, l6, l7, p, q, r, m1, m2, m3, o1, o2, o3, p1, p2, p3, l8⟩ := id hl
    have tk := bn t (List.mem_of_getElem? ht)
    have hk : k_letter (nI i) y g = t_says t y := by simp only [k_letter, e, ht]
    rw [hk]
    refine r_aload_n dX8_letter_0 rfl ?_
    refine r_getF kX8 (k := 5) (by decide) rfl fl_X8_45 (lay_ok hL rfl) (lay_r hL rfl) dX8_letter_1 ?_
    refine r_iload_n dX8_letter_4 rfl ?_
    refine r_cV ca_yX5_at ml_X8_125 im_yX5_at se_yX5_at (by decide) rfl (lay_ok hL rfl) (c_X5_at hL hX.2.2.2.2.1.1 hX.2.2.2.2.1.2.1) ⟨by decide, by decide⟩ (by first | decide | omega) (by first | decide | omega) rfl (Nat.le_of_ble_eq_true rfl) dX8_letter_5 ?_
    rw [show (if nI i < 0 then none else if nI (gn g).length ≤ nI i then none else mR M 25 (nI i).toNatClampNeg) = some a from (inN_yes hi (by omega)).trans (by rw [nI_clamp (by omega)]; exact ha)]
    refine r_astore_n _ dX8_letter_8 (by decide) rfl ?_
    refine r_aload_n dX8_letter_9 rfl ?_
    refine r_ifnonnull (r := some a) 15 dX8_letter_10 (by decide) (fun _ _ => ?_) (fun hq => by cases hq)
    refine r_iload_n dX8_letter_15 rfl ?_
    by_cases w0 : y = 0
    · subst w0
      refine r_tableIn 56 dX8_letter_16 (by decide) (by decide) (off := 40) (by decide) (by decide) ?_
      refine r_aload_n dX8_letter_56 rfl ?_
      refine r_getE (nI t.2.2.1) kX3 (k := 2) (by decide) rfl fl_X8_129 l1 dX8_letter_57 l5 ?_
      exact r_iret (Or.inl rfl) dX8_letter_60 ⟨rfl, rfl⟩
    by_cases w1 : y = 1
    · subst w1
      refine r_tableIn 61 dX8_letter_16 (by decide) (by decide) (off := 45) (by decide) (by decide) ?_
      refine r_aload_n dX8_letter_61 rfl ?_
      refine r_getE (nI t.2.2.2.1) kX3 (k := 3) (by decide) rfl fl_X8_134 l1 dX8_letter_62 l6 ?_
      exact r_iret (Or.inl rfl) dX8_letter_65 ⟨rfl, rfl⟩
    by_cases w2 : y = 2
    · subst w2
      refine r_tableIn 66 dX8_letter_16 (by decide) (by decide) (off := 50) (by decide) (by decide) ?_
      refine r_aload_n dX8_letter_66 rfl ?_
      refine r_getE (nI t.2.1) kX3 (k := 1) (by decide) rfl fl_X8_137 l1 dX8_letter_67 l4 ?_
      exact r_iret (Or.inl rfl) dX8_letter_70 ⟨rfl, rfl⟩
    by_cases w3 : y = 3
    · subst w3
      refine r_tableIn 71 dX8_letter_16 (by decide) (by decide) (off := 55) (by decide) (by decide) ?_
      refine r_aload_n dX8_letter_71 rfl ?_
      refine r_getE (nI t.1) kX3 (k := 0) (by decide) rfl fl_X8_140 l1 dX8_letter_72 l3 ?_
      exact r_iret (Or.inl rfl) dX8_letter_75 ⟨rfl, rfl⟩
    by_cases w4 : y = 4
    · subst w4
      refine r_tableIn 76 dX8_letter_16 (by decide) (by decide) (off := 60) (by decide) (by decide) ?_
      refine r_aload_n dX8_letter_76 rfl ?_
      refine r_getF (r := p) kX3 (k := 5) (by decide) rfl fl_X8_141 l1 m1 dX8_letter_77 ?_
      refine r_alen (Or.inl rfl) o1 dX8_letter_80 ?_
      exact r_iret (Or.inl rfl) dX8_letter_81 ⟨rfl, rfl⟩
    by_cases w5 : y = 5
    · subst w5
      refine r_tableIn 82 dX8_letter_16 (by decide) (by decide) (off := 66) (by decide) (by decide) ?_
      refine r_aload_n dX8_letter_82 rfl ?_
      refine r_getE (nI t.2.2.2.2.1) kX3 (k := 4) (by decide) rfl fl_X8_144 l1 dX8_letter_83 l7 ?_
      exact r_iret (Or.inl rfl) dX8_letter_86 ⟨rfl, rfl⟩
    refine r_tableOut 87 dX8_letter_16 (by have t0 := lv_neT (a := 0) w0 rfl; have t1 := lv_neT (a := 1) w1 rfl; have t2 := lv_neT (a := 2) w2 rfl; have t3 := lv_neT (a := 3) w3 rfl; have t4 := lv_neT (a := 4) w4 rfl; have t5 := lv_neT (a := 5) w5 rfl; omega) (by decide) ?_
    refine r_iconst (-1) dX8_letter_87 (by decide) ?_
    exact r_iret (Or.inl rfl) dX8_letter_88 ⟨by simp only [t_says, if_neg w0, if_neg w1, if_neg w2, if_neg w3, if_neg w4, if_neg w5], rfl⟩
set_option maxHeartbeats 4000000 in
set_option maxRecDepth 100000 in
theorem k_X8_entry {l : Launch} {X : Nat × (Nat → Int32)} {M : am_M} (hL : Lay M) {g : tG} {c0 : Nat} (hX : absX M g) (hI : gI c0 g) {x y z : Int32} : am_F l yX8_entry cX8_entry 5 (some .long) 1 0 0 X [.ref 1, .int x, .int y, .int z] M (some (.long (k_entry x y z g))) M := by
  refine am_C.of (by decide) (by simp [Value.category, va_rf]) (Nat.le_of_ble_eq_true rfl) ?_
  have hB := hI.1
  obtain ⟨b0, b1, b2, b3, b4, b5, b6, b7, b8, b9, bV, bA, bN, bl, bn, bh⟩ := id hB
  obtain ⟨s0, s1, s2, s3, s4, s5, s6, s7, s8, s9⟩ := hX.1
  have hL0 := hL
  rcases inN_cases x (k := (gn g).length) (by omega) with ⟨e, c⟩ | ⟨i, hi, rfl, e⟩
  · have hk : k_entry x y z g = k_NONE := by simp only [k_entry, e]
    refine r_aload_n dX8_entry_0 rfl ?_
    refine r_getF kX8 (k := 5) (by decide) rfl fl_X8_45 (lay_ok hL rfl) (lay_r hL rfl) dX8_entry_1 ?_
    refine r_iload_n dX8_entry_4 rfl ?_
    refine r_cV ca_yX5_at ml_X8_125 im_yX5_at se_yX5_at (by decide) rfl (lay_ok hL rfl) (c_X5_at hL hX.2.2.2.2.1.1 hX.2.2.2.2.1.2.1) ⟨by decide, by decide⟩ (by first | decide | omega) (by first | decide | omega) rfl (Nat.le_of_ble_eq_true rfl) dX8_entry_5 ?_
    rw [show (if x < 0 then none else if nI (gn g).length ≤ x then none else mR M 25 x.toNatClampNeg) = (none : Option Nat) from inN_no c]
    refine r_astoreq _ dX8_entry_8 (by decide) rfl ?_
    refine r_aloadq dX8_entry_10 rfl ?_
    refine r_ifnull (r := none) 29 dX8_entry_12 (by decide) (fun _ => ?_) (fun _ hq => by cases hq)
    refine r_ldc2 _ dX8_entry_29 kl_X8_147 ?_
    exact r_lret rfl dX8_entry_32 ⟨(congrArg (fun q : Int64 => some (Value.long q)) hk).symm, rfl⟩
  · obtain ⟨t, ht⟩ : ∃ t, (gn g)[i]? = some t := ⟨_, List.getElem?_eq_getElem hi⟩
    obtain ⟨a, ha, hl⟩ := hX.2.2.2.2.1.2.2 i t ht
    obtain ⟨l1, l2, l3, l4, l5, l6, l7, p, q, r, m1, m2, m3, o1, o2, o3, p1, p2, p3, l8⟩ := id hl
    have tk := bn t (List.mem_of_getElem? ht)
    have tk7 := tk.2.2.2.2.2.2.1
    rcases inN_cases y (k := t.2.2.2.2.2.length) (by omega) with ⟨f, c⟩ | ⟨j, hj, rfl, f⟩
    · have hk : k_entry (nI i) y z g = k_NONE := by simp only [k_entry, e, ht, f]
      rcases c with c | c
      · skip
        refine r_aload_n dX8_entry_0 rfl ?_
        refine r_getF kX8 (k := 5) (by decide) rfl fl_X8_45 (lay_ok hL rfl) (lay_r hL rfl) dX8_entry_1 ?_
        refine r_iload_n dX8_entry_4 rfl ?_
        refine r_cV ca_yX5_at ml_X8_125 im_yX5_at se_yX5_at (by decide) rfl (lay_ok hL rfl) (c_X5_at hL hX.2.2.2.2.1.1 hX.2.2.2.2.1.2.1) ⟨by decide, by decide⟩ (by first | decide | omega) (by first | decide | omega) rfl (Nat.le_of_ble_eq_true rfl) dX8_entry_5 ?_
        rw [show (if nI i < 0 then none else if nI (gn g).length ≤ nI i then none else mR M 25 (nI i).toNatClampNeg) = some a from (inN_yes hi (by omega)).trans (by rw [nI_clamp (by omega)]; exact ha)]
        refine r_astore _ dX8_entry_8 (by decide) rfl ?_
        refine r_aload dX8_entry_10 rfl ?_
        refine r_ifnull (r := some a) 29 dX8_entry_12 (by decide) (fun hq => by cases hq) (fun _ _ => ?_)
        refine r_iload_n dX8_entry_15 rfl ?_
        refine r_if_lt 29 dX8_entry_16 (by decide) (fun _ => ?_) (fun hq => absurd c hq)
        refine r_ldc2 _ dX8_entry_29 kl_X8_147 ?_
        exact r_lret rfl dX8_entry_32 ⟨(congrArg (fun q : Int64 => some (Value.long q)) hk).symm, rfl⟩
      · skip
        refine r_aload_n dX8_entry_0 rfl ?_
        refine r_getF kX8 (k := 5) (by decide) rfl fl_X8_45 (lay_ok hL rfl) (lay_r hL rfl) dX8_entry_1 ?_
        refine r_iload_n dX8_entry_4 rfl ?_
        refine r_cV ca_yX5_at ml_X8_125 im_yX5_at se_yX5_at (by decide) rfl (lay_ok hL rfl) (c_X5_at hL hX.2.2.2.2.1.1 hX.2.2.2.2.1.2.1) ⟨by decide, by decide⟩ (by first | decide | omega) (by first | decide | omega) rfl (Nat.le_of_ble_eq_true rfl) dX8_entry_5 ?_
        rw [show (if nI i < 0 then none else if nI (gn g).length ≤ nI i then none else mR M 25 (nI i).toNatClampNeg) = some a from (inN_yes hi (by omega)).trans (by rw [nI_clamp (by omega)]; exact ha)]
        refine r_astore _ dX8_entry_8 (by decide) rfl ?_
        refine r_aload dX8_entry_10 rfl ?_
        refine r_ifnull (r := some a) 29 dX8_entry_12 (by decide) (fun hq => by cases hq) (fun _ _ => ?_)
        refine r_iload_n dX8_entry_15 rfl ?_
        refine r_if_lt 29 dX8_entry_16 (by decide) (fun hq => absurd hq c.1) (fun _ => ?_)
        refine r_iload_n dX8_entry_19 rfl ?_
        refine r_aload dX8_entry_20 rfl ?_
        refine r_getF (r := p) kX3 (k := 5) (by decide) rfl fl_X8_141 l1 m1 dX8_entry_22 ?_
        refine r_alen (Or.inl rfl) o1 dX8_entry_25 ?_
        refine r_icmp_lt 33 dX8_entry_26 (by decide) (fun hq => absurd hq (fun z => Int32.lt_irrefl (Int32.lt_of_lt_of_le z c.2))) (fun _ => ?_)
        refine r_ldc2 _ dX8_entry_29 kl_X8_147 ?_
        exact r_lret rfl dX8_entry_32 ⟨(congrArg (fun q : Int64 => some (Value.long q)) hk).symm, rfl⟩
    · obtain ⟨en, hen⟩ : ∃ en, t.2.2.2.2.2[j]? = some en := ⟨_, List.getElem?_eq_getElem hj⟩
      obtain ⟨z1, z2, z3⟩ := l8 j en hen
      have hk : k_entry (nI i) (nI j) z g = if z = 0 then (nI en.1).toInt64 else if z = 1 then en.2.1.toInt64 else k_NONE := by simp only [k_entry, e, ht, f, hen]
      rw [hk]
      refine r_aload_n dX8_entry_0 rfl ?_
      refine r_getF kX8 (k := 5) (by decide) rfl fl_X8_45 (lay_ok hL rfl) (lay_r hL rfl) dX8_entry_1 ?_
      refine r_iload_n dX8_entry_4 rfl ?_
      refine r_cV ca_yX5_at ml_X8_125 im_yX5_at se_yX5_at (by decide) rfl (lay_ok hL rfl) (c_X5_at hL hX.2.2.2.2.1.1 hX.2.2.2.2.1.2.1) ⟨by decide, by decide⟩ (by first | decide | omega) (by first | decide | omega) rfl (Nat.le_of_ble_eq_true rfl) dX8_entry_5 ?_
      rw [show (if nI i < 0 then none else if nI (gn g).length ≤ nI i then none else mR M 25 (nI i).toNatClampNeg) = some a from (inN_yes hi (by omega)).trans (by rw [nI_clamp (by omega)]; exact ha)]
      refine r_astore _ dX8_entry_8 (by decide) rfl ?_
      refine r_aload dX8_entry_10 rfl ?_
      refine r_ifnull (r := some a) 29 dX8_entry_12 (by decide) (fun hq => by cases hq) (fun _ _ => ?_)
      refine r_iload_n dX8_entry_15 rfl ?_
      refine r_if_lt 29 dX8_entry_16 (by decide) (fun hq => absurd hq (nI_pos (by omega))) (fun _ => ?_)
      refine r_iload_n dX8_entry_19 rfl ?_
      refine r_aload dX8_entry_20 rfl ?_
      refine r_getF (r := p) kX3 (k := 5) (by decide) rfl fl_X8_141 l1 m1 dX8_entry_22 ?_
      refine r_alen (Or.inl rfl) o1 dX8_entry_25 ?_
      refine r_icmp_lt 33 dX8_entry_26 (by decide) (fun _ => ?_) (fun hq => absurd (nI_lt hj (by omega)) hq)
      refine r_iload_n dX8_entry_33 rfl ?_
      by_cases w0 : z = 0
      · subst w0
        refine r_lookup 60 dX8_entry_34 (by decide) (off := 26) (by decide) (by decide) ?_
        refine r_aload dX8_entry_60 rfl ?_
        refine r_getF (r := p) kX3 (k := 5) (by decide) rfl fl_X8_141 l1 m1 dX8_entry_62 ?_
        refine r_iload_n dX8_entry_65 rfl ?_
        refine r_ialdE (nI en.1) o1 hj (by omega) dX8_entry_66 z1 ?_
        refine r_i2l dX8_entry_67 ?_
        exact r_lret rfl dX8_entry_68 ⟨rfl, rfl⟩
      by_cases w1 : z = 1
      · subst w1
        refine r_lookup 69 dX8_entry_34 (by decide) (off := 35) (by decide) (by decide) ?_
        refine r_aload dX8_entry_69 rfl ?_
        refine r_getF (r := q) kX3 (k := 6) (by decide) rfl fl_X8_149 l1 m2 dX8_entry_71 ?_
        refine r_iload_n dX8_entry_74 rfl ?_
        refine r_ialdE (en.2.1) o2 hj (by omega) dX8_entry_75 z2 ?_
        refine r_i2l dX8_entry_76 ?_
        exact r_lret rfl dX8_entry_77 ⟨rfl, rfl⟩
      refine r_lookup 78 dX8_entry_34 (by decide) (off := 44) ((lv_osw w0 rfl).trans ((lv_osw w1 rfl))) (by decide) ?_
      refine r_ldc2 _ dX8_entry_78 kl_X8_147 ?_
      exact r_lret rfl dX8_entry_81 ⟨by simp only [if_neg w0, if_neg w1]; rfl, rfl⟩
set_option maxHeartbeats 4000000 in
set_option maxRecDepth 100000 in
theorem k_X8_lose {l : Launch} {X : Nat × (Nat → Int32)} {M : am_M} (hL : Lay M) {g : tG} {c0 : Nat} (hX : absX M g) (hI : gI c0 g) {x : Int32} : am_C l yX8_lose cX8_lose 2 (some .int) 1 0 0 X [.ref 1, .int x] M (fun v M' => v = some (.int (k_lose x g).1) ∧ absX M' (k_lose x g).2 ∧ Lay M' ∧ am_gr (fun x => x ≤ 92) M M') := by
  refine am_C.of (by decide) (by simp [Value.category, va_rf]) (Nat.le_of_ble_eq_true rfl) ?_
  have hB := hI.1
  obtain ⟨b0, b1, b2, b3, b4, b5, b6, b7, b8, b9, bV, bA, bN, bl, bn, bh⟩ := id hB
  obtain ⟨s0, s1, s2, s3, s4, s5, s6, s7, s8, s9⟩ := hX.1
  have hL0 := hL
  rcases inN_cases x (k := (gn g).length) (by omega) with ⟨e, c⟩ | ⟨i, hi, rfl, e⟩
  · have hk : k_lose x g = (-1, g) := by simp only [k_lose, e]
    refine r_aload_n dX8_lose_0 rfl ?_
    refine r_getF kX8 (k := 5) (by decide) rfl fl_X8_45 (lay_ok hL rfl) (lay_r hL rfl) dX8_lose_1 ?_
    refine r_iload_n dX8_lose_4 rfl ?_
    refine r_cV ca_yX5_at ml_X8_125 im_yX5_at se_yX5_at (by decide) rfl (lay_ok hL rfl) (c_X5_at hL hX.2.2.2.2.1.1 hX.2.2.2.2.1.2.1) ⟨by decide, by decide⟩ (by first | decide | omega) (by first | decide | omega) rfl (Nat.le_of_ble_eq_true rfl) dX8_lose_5 ?_
    rw [show (if x < 0 then none else if nI (gn g).length ≤ x then none else mR M 25 x.toNatClampNeg) = (none : Option Nat) from inN_no c]
    refine r_ifnonnull (r := none) 13 dX8_lose_8 (by decide) (fun _ hq => by cases hq) (fun _ => ?_)
    refine r_iconst (-1) dX8_lose_11 (by decide) ?_
    exact r_iret (Or.inl rfl) dX8_lose_12 ⟨by rw [hk], by rw [hk]; exact hX, hL0, am_gr.rf⟩
  · obtain ⟨t, ht⟩ : ∃ t, (gn g)[i]? = some t := ⟨_, List.getElem?_eq_getElem hi⟩
    obtain ⟨a, ha, hl⟩ := hX.2.2.2.2.1.2.2 i t ht
    obtain ⟨l1, l2, l3, l4, l5, l6, l7, p, q, r, m1, m2, m3, o1, o2, o3, p1, p2, p3, l8⟩ := id hl
    have tk := bn t (List.mem_of_getElem? ht)
    have hk : k_lose (nI i) g = (nI ((gn g).length - 1), g_out i g) := by simp only [k_lose, e]
    have hle : (gn (g_out i g)).length = (gn g).length - 1 := by show ((gn g).eraseIdx i).length = _; rw [List.length_eraseIdx, if_pos hi]
    refine r_aload_n dX8_lose_0 rfl ?_
    refine r_getF kX8 (k := 5) (by decide) rfl fl_X8_45 (lay_ok hL rfl) (lay_r hL rfl) dX8_lose_1 ?_
    refine r_iload_n dX8_lose_4 rfl ?_
    refine r_cV ca_yX5_at ml_X8_125 im_yX5_at se_yX5_at (by decide) rfl (lay_ok hL rfl) (c_X5_at hL hX.2.2.2.2.1.1 hX.2.2.2.2.1.2.1) ⟨by decide, by decide⟩ (by first | decide | omega) (by first | decide | omega) rfl (Nat.le_of_ble_eq_true rfl) dX8_lose_5 ?_
    rw [show (if nI i < 0 then none else if nI (gn g).length ≤ nI i then none else mR M 25 (nI i).toNatClampNeg) = some a from (inN_yes hi (by omega)).trans (by rw [nI_clamp (by omega)]; exact ha)]
    refine r_ifnonnull (r := some a) 13 dX8_lose_8 (by decide) (fun _ _ => ?_) (fun hq => by cases hq)
    refine r_aload_n dX8_lose_13 rfl ?_
    refine r_getF kX8 (k := 5) (by decide) rfl fl_X8_45 (lay_ok hL rfl) (lay_r hL rfl) dX8_lose_14 ?_
    refine r_iload_n dX8_lose_17 rfl ?_
    refine r_cV ca_yX5_remove ml_X8_152 im_yX5_remove se_yX5_remove (by decide) rfl (lay_ok hL rfl) (c_X5_remove hL hX.2.2.2.2.1.1 hX.2.2.2.2.1.2.1 hi (fun u hu => by obtain ⟨a2, e1, e2⟩ := hX.2.2.2.2.1.2.2 u _ (List.getElem?_eq_getElem hu); exact ⟨a2, e1, e2.1⟩)) ⟨by decide, by decide⟩ (by first | decide | omega) (by first | decide | omega) rfl (Nat.le_of_ble_eq_true rfl) dX8_lose_18 ?_
    obtain ⟨hq, hg⟩ := absX_out hL0.1 hX hi
    have hL := lay_wR (lay_wI (lay_wQ hL0 (a := 25) (sft (mR M 25) i (gn g).length) (fun _ => rfl)) 24 1 (nI ((gn g).length - 1))) (a := 25) (k := (gn g).length - 1) none rfl
    generalize wR (wI (wQ M 25 (sft (mR M 25) i (gn g).length)) 24 1 (nI ((gn g).length - 1))) 25 ((gn g).length - 1) none = M1 at hq hg hL
    refine r_aload_n dX8_lose_21 rfl ?_
    refine r_getF kX8 (k := 5) (by decide) rfl fl_X8_45 (lay_ok hL rfl) (lay_r hL rfl) dX8_lose_22 ?_
    refine r_getE (nI ((gn g).length - 1)) kX5 (k := 1) (by decide) rfl fl_X8_122 (lay_ok hL rfl) dX8_lose_25 (by rw [hq.2.2.2.2.1.1, hle]) ?_
    exact r_iret (Or.inl rfl) dX8_lose_28 ⟨by rw [hk], by rw [hk]; exact hq, hL, hg.wd (fun x _ h => by show x ≤ 92; rcases h with h | h <;> omega)⟩
set_option maxHeartbeats 4000000 in
set_option maxRecDepth 100000 in
theorem k_X8_copy {l : Launch} {X : Nat × (Nat → Int32)} {M : am_M} (hL : Lay M) {g : tG} {c0 : Nat} (hX : absX M g) (hI : gI c0 g) {x : Int32} : am_C l yX8_copy cX8_copy 3 (some .int) 1 0 0 X [.ref 1, .int x] M (fun v M' => v = some (.int (k_copy x g).1) ∧ absX M' (k_copy x g).2 ∧ Lay M' ∧ am_gr (fun x => x ≤ 92) M M') := by
  refine am_C.of (by decide) (by simp [Value.category, va_rf]) (Nat.le_of_ble_eq_true rfl) ?_
  have hB := hI.1
  obtain ⟨b0, b1, b2, b3, b4, b5, b6, b7, b8, b9, bV, bA, bN, bl, bn, bh⟩ := id hB
  obtain ⟨s0, s1, s2, s3, s4, s5, s6, s7, s8, s9⟩ := hX.1
  have hL0 := hL
  rcases inN_cases x (k := (gn g).length) (by omega) with ⟨e, c⟩ | ⟨i, hi, rfl, e⟩
  · have hk : k_copy x g = (-1, g) := by simp only [k_copy, e]
    refine r_aload_n dX8_copy_0 rfl ?_
    refine r_getF kX8 (k := 5) (by decide) rfl fl_X8_45 (lay_ok hL rfl) (lay_r hL rfl) dX8_copy_1 ?_
    refine r_iload_n dX8_copy_4 rfl ?_
    refine r_cV ca_yX5_at ml_X8_125 im_yX5_at se_yX5_at (by decide) rfl (lay_ok hL rfl) (c_X5_at hL hX.2.2.2.2.1.1 hX.2.2.2.2.1.2.1) ⟨by decide, by decide⟩ (by first | decide | omega) (by first | decide | omega) rfl (Nat.le_of_ble_eq_true rfl) dX8_copy_5 ?_
    rw [show (if x < 0 then none else if nI (gn g).length ≤ x then none else mR M 25 x.toNatClampNeg) = (none : Option Nat) from inN_no c]
    refine r_astore_nq _ dX8_copy_8 (by decide) rfl ?_
    refine r_aload_nq dX8_copy_9 rfl ?_
    refine r_ifnonnull (r := none) 15 dX8_copy_10 (by decide) (fun _ hq => by cases hq) (fun _ => ?_)
    refine r_iconst (-1) dX8_copy_13 (by decide) ?_
    exact r_iret (Or.inl rfl) dX8_copy_14 ⟨by rw [hk], by rw [hk]; exact hX, hL0, am_gr.rf⟩
  · obtain ⟨t, ht⟩ : ∃ t, (gn g)[i]? = some t := ⟨_, List.getElem?_eq_getElem hi⟩
    obtain ⟨a, ha, hl⟩ := hX.2.2.2.2.1.2.2 i t ht
    obtain ⟨l1, l2, l3, l4, l5, l6, l7, p, q, r, m1, m2, m3, o1, o2, o3, p1, p2, p3, l8⟩ := id hl
    have tk := bn t (List.mem_of_getElem? ht)
    by_cases c7 : (gn g).length < 60
    · have hk : k_copy (nI i) g = (nI ((gn g).length + 1), un g (gn g ++ [t])) := by simp only [k_copy, e, ht, if_pos c7]
      have hq := absX_net hL0.1 hX hl c7
      have hg : am_gr (fun x => x = 24 ∨ x = 25) M (wI (wR M 25 (gn g).length (some a)) 24 1 (nI ((gn g).length + 1))) := (am_gr.wR _ _ (Or.inr rfl)).tr (am_gr.wI _ _ (Or.inl rfl))
      refine r_aload_n dX8_copy_0 rfl ?_
      refine r_getF kX8 (k := 5) (by decide) rfl fl_X8_45 (lay_ok hL rfl) (lay_r hL rfl) dX8_copy_1 ?_
      refine r_iload_n dX8_copy_4 rfl ?_
      refine r_cV ca_yX5_at ml_X8_125 im_yX5_at se_yX5_at (by decide) rfl (lay_ok hL rfl) (c_X5_at hL hX.2.2.2.2.1.1 hX.2.2.2.2.1.2.1) ⟨by decide, by decide⟩ (by first | decide | omega) (by first | decide | omega) rfl (Nat.le_of_ble_eq_true rfl) dX8_copy_5 ?_
      rw [show (if nI i < 0 then none else if nI (gn g).length ≤ nI i then none else mR M 25 (nI i).toNatClampNeg) = some a from (inN_yes hi (by omega)).trans (by rw [nI_clamp (by omega)]; exact ha)]
      refine r_astore_n _ dX8_copy_8 (by decide) rfl ?_
      refine r_aload_n dX8_copy_9 rfl ?_
      refine r_ifnonnull (r := some a) 15 dX8_copy_10 (by decide) (fun _ _ => ?_) (fun hq => by cases hq)
      refine r_aload_n dX8_copy_15 rfl ?_
      refine r_getF kX8 (k := 5) (by decide) rfl fl_X8_45 (lay_ok hL rfl) (lay_r hL rfl) dX8_copy_16 ?_
      refine r_aload_n dX8_copy_19 rfl ?_
      refine r_cV ca_yX5_add ml_X8_171 im_yX5_add se_yX5_add (by decide) rfl (lay_ok hL rfl) (c_X5_add hL l1 hX.2.2.2.2.1.1 hX.2.2.2.2.1.2.1) ⟨by decide, by decide⟩ (by first | decide | omega) (by first | decide | omega) rfl (Nat.le_of_ble_eq_true rfl) dX8_copy_20 ?_
      rw [if_pos c7, if_pos c7]
      have hL : Lay (wI (wR M 25 (gn g).length (some a)) 24 1 (nI ((gn g).length + 1))) := lay_wI (lay_wR hL0 _ rfl) _ _ _
      refine r_if_eq 36 dX8_copy_23 (by decide) (fun hq => absurd hq (by decide)) (fun _ => ?_)
      refine r_aload_n dX8_copy_26 rfl ?_
      refine r_getF kX8 (k := 5) (by decide) rfl fl_X8_45 (lay_ok hL rfl) (lay_r hL rfl) dX8_copy_27 ?_
      refine r_getE (nI ((gn g).length + 1)) kX5 (k := 1) (by decide) rfl fl_X8_122 (lay_ok hL rfl) dX8_copy_30 (by rw [mI_wI_s, va_up_self]) ?_
      refine r_goto 38 dX8_copy_33 (by decide) ?_
      exact r_iret (Or.inl rfl) dX8_copy_38 ⟨by rw [hk], by rw [hk]; exact hq, hL, hg.wd (fun x _ h => by show x ≤ 92; rcases h with h | h <;> omega)⟩
    · have hk : k_copy (nI i) g = (-3, g) := by simp only [k_copy, e, ht, if_neg c7]
      refine r_aload_n dX8_copy_0 rfl ?_
      refine r_getF kX8 (k := 5) (by decide) rfl fl_X8_45 (lay_ok hL rfl) (lay_r hL rfl) dX8_copy_1 ?_
      refine r_iload_n dX8_copy_4 rfl ?_
      refine r_cV ca_yX5_at ml_X8_125 im_yX5_at se_yX5_at (by decide) rfl (lay_ok hL rfl) (c_X5_at hL hX.2.2.2.2.1.1 hX.2.2.2.2.1.2.1) ⟨by decide, by decide⟩ (by first | decide | omega) (by first | decide | omega) rfl (Nat.le_of_ble_eq_true rfl) dX8_copy_5 ?_
      rw [show (if nI i < 0 then none else if nI (gn g).length ≤ nI i then none else mR M 25 (nI i).toNatClampNeg) = some a from (inN_yes hi (by omega)).trans (by rw [nI_clamp (by omega)]; exact ha)]
      refine r_astore_n _ dX8_copy_8 (by decide) rfl ?_
      refine r_aload_n dX8_copy_9 rfl ?_
      refine r_ifnonnull (r := some a) 15 dX8_copy_10 (by decide) (fun _ _ => ?_) (fun hq => by cases hq)
      refine r_aload_n dX8_copy_15 rfl ?_
      refine r_getF kX8 (k := 5) (by decide) rfl fl_X8_45 (lay_ok hL rfl) (lay_r hL rfl) dX8_copy_16 ?_
      refine r_aload_n dX8_copy_19 rfl ?_
      refine r_cV ca_yX5_add ml_X8_171 im_yX5_add se_yX5_add (by decide) rfl (lay_ok hL rfl) (c_X5_add hL l1 hX.2.2.2.2.1.1 hX.2.2.2.2.1.2.1) ⟨by decide, by decide⟩ (by first | decide | omega) (by first | decide | omega) rfl (Nat.le_of_ble_eq_true rfl) dX8_copy_20 ?_
      rw [if_neg c7, if_neg c7]
      refine r_if_eq 36 dX8_copy_23 (by decide) (fun _ => ?_) (fun hq => absurd (by decide) hq)
      refine r_bipush (-3) dX8_copy_36 (by decide) ?_
      exact r_iret (Or.inl rfl) dX8_copy_38 ⟨by rw [hk], by rw [hk]; exact hX, hL0, am_gr.rf⟩
set_option maxHeartbeats 4000000 in
set_option maxRecDepth 100000 in
theorem k_X8_crash {l : Launch} {X : Nat × (Nat → Int32)} {M : am_M} (hL : Lay M) {g : tG} {c0 : Nat} (hX : absX M g) (hI : gI c0 g) {x : Int32} : am_C l yX8_crash cX8_crash 2 (some .int) 2 0 0 X [.ref 1, .int x] M (fun v M' => v = some (.int (k_crash x g).1) ∧ absX M' (k_crash x g).2 ∧ Lay M' ∧ am_gr (fun x => x ≤ 92) M M') := by
  refine am_C.of (by decide) (by simp [Value.category, va_rf]) (Nat.le_of_ble_eq_true rfl) ?_
  have hB := hI.1
  obtain ⟨b0, b1, b2, b3, b4, b5, b6, b7, b8, b9, bV, bA, bN, bl, bn, bh⟩ := id hB
  obtain ⟨s0, s1, s2, s3, s4, s5, s6, s7, s8, s9⟩ := hX.1
  have hL0 := hL
  rcases inN_cases x (k := gs g 0) (by omega) with ⟨e, c⟩ | ⟨j, hj, rfl, e⟩
  · have hk : k_crash x g = (-1, g) := by simp only [k_crash, e]
    refine r_aload_n dX8_crash_0 rfl ?_
    refine r_iload_n dX8_crash_1 rfl ?_
    refine r_cV ca_yX8_isNode ml_X8_94 im_yX8_isNode se_yX8_isNode (by decide) rfl (lay_ok hL rfl) (c_X8_isNode hL) ⟨by decide, by decide⟩ (by first | decide | omega) (by first | decide | omega) rfl (Nat.le_of_ble_eq_true rfl) dX8_crash_2 ?_
    refine r_top 0 (by rw [s0]; exact inN_no c) ?_
    refine r_if_ne 10 dX8_crash_5 (by decide) (fun hq => absurd (by decide) hq) (fun _ => ?_)
    refine r_iconst (-1) dX8_crash_8 (by decide) ?_
    exact r_iret (Or.inl rfl) dX8_crash_9 ⟨by rw [hk], by rw [hk]; exact hX, hL0, am_gr.rf⟩
  · have hn : j < 5 := by omega
    obtain ⟨x4, x5, x6⟩ := hX.2.2.2.1 j hn
    obtain ⟨y4, y5, y6⟩ := bN j hn
    by_cases c6 : gs g 6 = 1
    · by_cases d6 : ga g 6 j = 1
      · have hk : k_crash (nI j) g = (-2, g) := by simp only [k_crash, e, if_pos (show gs g 6 = 0 ∨ ga g 6 j = 1 from Or.inr d6)]
        refine r_aload_n dX8_crash_0 rfl ?_
        refine r_iload_n dX8_crash_1 rfl ?_
        refine r_cV ca_yX8_isNode ml_X8_94 im_yX8_isNode se_yX8_isNode (by decide) rfl (lay_ok hL rfl) (c_X8_isNode hL) ⟨by decide, by decide⟩ (by first | decide | omega) (by first | decide | omega) rfl (Nat.le_of_ble_eq_true rfl) dX8_crash_2 ?_
        refine r_top 1 (by rw [s0]; exact inN_yes hj (by omega)) ?_
        refine r_if_ne 10 dX8_crash_5 (by decide) (fun _ => ?_) (fun hq => absurd hq (by decide))
        refine r_aload_n dX8_crash_10 rfl ?_
        refine r_getE (1) kX8 (k := 11) (by decide) rfl fl_X8_85 (lay_ok hL rfl) dX8_crash_11 (by rw [s6, c6]; rfl) ?_
        refine r_if_eq 29 dX8_crash_14 (by decide) (fun hq => absurd hq (by decide)) (fun _ => ?_)
        refine r_aload_n dX8_crash_17 rfl ?_
        refine r_getF kX8 (k := 6) (by decide) rfl fl_X8_51 (lay_ok hL rfl) (lay_r hL rfl) dX8_crash_18 ?_
        refine r_iload_n dX8_crash_21 rfl ?_
        refine r_aaldF (Or.inr rfl) (lay_ok hL rfl) (by omega) (by decide) (lay_r hL (rf_row hn)) dX8_crash_22 ?_
        refine r_getE (1) kX6 (k := 6) (by decide) rfl fl_X8_175 (lay_ok hL (sh_n0 hn)) dX8_crash_23 (by rw [x6, d6]; rfl) ?_
        refine r_if_eq 32 dX8_crash_26 (by decide) (fun hq => absurd hq (by decide)) (fun _ => ?_)
        refine r_bipush (-2) dX8_crash_29 (by decide) ?_
        exact r_iret (Or.inl rfl) dX8_crash_31 ⟨by rw [hk], by rw [hk]; exact hX, hL0, am_gr.rf⟩
      · have hk : k_crash (nI j) g = (1, g_crash j g) := by simp only [k_crash, e, if_neg (show ¬ (gs g 6 = 0 ∨ ga g 6 j = 1) by omega)]
        have hf := absX_forget hL0.1 hX hn
        have hL1 : Lay (wQ (wQ M (28 + 13 * j + 1) (fl (mR M (28 + 13 * j + 1)) 10 none)) (28 + 13 * j + 2) (fl (mR M (28 + 13 * j + 2)) 10 none)) := lay_wQ (lay_wQ hL0 _ (rf_nl hn).1) _ (rf_nl hn).2
        have hq := absX_node (absX_lay (lay_wI hL1 (28 + 13 * j) 5 (nI 0))) (absX_node (absX_lay hL1) hf.1 hn 5 0 (by decide)) hn 6 1 (by decide)
        refine r_aload_n dX8_crash_0 rfl ?_
        refine r_iload_n dX8_crash_1 rfl ?_
        refine r_cV ca_yX8_isNode ml_X8_94 im_yX8_isNode se_yX8_isNode (by decide) rfl (lay_ok hL rfl) (c_X8_isNode hL) ⟨by decide, by decide⟩ (by first | decide | omega) (by first | decide | omega) rfl (Nat.le_of_ble_eq_true rfl) dX8_crash_2 ?_
        refine r_top 1 (by rw [s0]; exact inN_yes hj (by omega)) ?_
        refine r_if_ne 10 dX8_crash_5 (by decide) (fun _ => ?_) (fun hq => absurd hq (by decide))
        refine r_aload_n dX8_crash_10 rfl ?_
        refine r_getE (1) kX8 (k := 11) (by decide) rfl fl_X8_85 (lay_ok hL rfl) dX8_crash_11 (by rw [s6, c6]; rfl) ?_
        refine r_if_eq 29 dX8_crash_14 (by decide) (fun hq => absurd hq (by decide)) (fun _ => ?_)
        refine r_aload_n dX8_crash_17 rfl ?_
        refine r_getF kX8 (k := 6) (by decide) rfl fl_X8_51 (lay_ok hL rfl) (lay_r hL rfl) dX8_crash_18 ?_
        refine r_iload_n dX8_crash_21 rfl ?_
        refine r_aaldF (Or.inr rfl) (lay_ok hL rfl) (by omega) (by decide) (lay_r hL (rf_row hn)) dX8_crash_22 ?_
        refine r_getE (0) kX6 (k := 6) (by decide) rfl fl_X8_175 (lay_ok hL (sh_n0 hn)) dX8_crash_23 (by rw [x6, bool01 y6 d6]; rfl) ?_
        refine r_if_eq 32 dX8_crash_26 (by decide) (fun _ => ?_) (fun hq => absurd (by decide) hq)
        refine r_aload_n dX8_crash_32 rfl ?_
        refine r_getF kX8 (k := 6) (by decide) rfl fl_X8_51 (lay_ok hL rfl) (lay_r hL rfl) dX8_crash_33 ?_
        refine r_iload_n dX8_crash_36 rfl ?_
        refine r_aaldF (Or.inr rfl) (lay_ok hL rfl) (by omega) (by decide) (lay_r hL (rf_row hn)) dX8_crash_37 ?_
        refine r_cV ca_yX6_fail ml_X8_183 im_yX6_fail se_yX6_fail (by decide) rfl (lay_ok hL (sh_n0 hn)) (c_X6_fail hL hn) ⟨by decide, by decide⟩ (by first | decide | omega) (by first | decide | omega) rfl (Nat.le_of_ble_eq_true rfl) dX8_crash_38 ?_
        refine r_lay (lay_wI (lay_wI hL1 _ _ _) _ _ _) (fun hL => ?_)
        refine r_iconst (1) dX8_crash_41 (by decide) ?_
        exact r_iret (Or.inl rfl) dX8_crash_42 ⟨by rw [hk], by rw [hk]; exact hq, hL, ((hf.2.wd (fun x _ h => by show x ≤ 92; omega)).tr ((am_gr.wI 5 0 (by show _ ≤ 92; omega)).tr (am_gr.wI 6 1 (by show _ ≤ 92; omega))))⟩
    · have hk : k_crash (nI j) g = (-2, g) := by simp only [k_crash, e, if_pos (show gs g 6 = 0 ∨ ga g 6 j = 1 from Or.inl (bool01 b7 c6))]
      refine r_aload_n dX8_crash_0 rfl ?_
      refine r_iload_n dX8_crash_1 rfl ?_
      refine r_cV ca_yX8_isNode ml_X8_94 im_yX8_isNode se_yX8_isNode (by decide) rfl (lay_ok hL rfl) (c_X8_isNode hL) ⟨by decide, by decide⟩ (by first | decide | omega) (by first | decide | omega) rfl (Nat.le_of_ble_eq_true rfl) dX8_crash_2 ?_
      refine r_top 1 (by rw [s0]; exact inN_yes hj (by omega)) ?_
      refine r_if_ne 10 dX8_crash_5 (by decide) (fun _ => ?_) (fun hq => absurd hq (by decide))
      refine r_aload_n dX8_crash_10 rfl ?_
      refine r_getE (0) kX8 (k := 11) (by decide) rfl fl_X8_85 (lay_ok hL rfl) dX8_crash_11 (by rw [s6, bool01 b7 c6]; rfl) ?_
      refine r_if_eq 29 dX8_crash_14 (by decide) (fun _ => ?_) (fun hq => absurd (by decide) hq)
      refine r_bipush (-2) dX8_crash_29 (by decide) ?_
      exact r_iret (Or.inl rfl) dX8_crash_31 ⟨by rw [hk], by rw [hk]; exact hX, hL0, am_gr.rf⟩
set_option maxHeartbeats 4000000 in
set_option maxRecDepth 100000 in
theorem k_X8_of {l : Launch} {X : Nat × (Nat → Int32)} {M : am_M} (hL : Lay M) {g : tG} {c0 : Nat} (hX : absX M g) (hI : gI c0 g) {x y : Int32} : am_F l yX8_of cX8_of 4 (some .long) 1 0 0 X [.ref 1, .int x, .int y] M (some (.long (k_of x y g))) M := by
  refine am_C.of (by decide) (by simp [Value.category, va_rf]) (Nat.le_of_ble_eq_true rfl) ?_
  have hB := hI.1
  obtain ⟨b0, b1, b2, b3, b4, b5, b6, b7, b8, b9, bV, bA, bN, bl, bn, bh⟩ := id hB
  obtain ⟨s0, s1, s2, s3, s4, s5, s6, s7, s8, s9⟩ := hX.1
  have hL0 := hL
  rcases inN_cases x (k := gs g 1) (by omega) with ⟨e, c⟩ | ⟨j, hj, rfl, e⟩
  · have hk : k_of x y g = k_NONE := by simp only [k_of, e]
    refine r_aload_n dX8_of_0 rfl ?_
    refine r_iload_n dX8_of_1 rfl ?_
    refine r_cV ca_yX8_isVertex ml_X8_106 im_yX8_isVertex se_yX8_isVertex (by decide) rfl (lay_ok hL rfl) (c_X8_isVertex hL) ⟨by decide, by decide⟩ (by first | decide | omega) (by first | decide | omega) rfl (Nat.le_of_ble_eq_true rfl) dX8_of_2 ?_
    refine r_top 0 (by rw [s1]; exact inN_no c) ?_
    refine r_if_ne 12 dX8_of_5 (by decide) (fun hq => absurd (by decide) hq) (fun _ => ?_)
    refine r_ldc2 _ dX8_of_8 kl_X8_147 ?_
    exact r_lret rfl dX8_of_11 ⟨(congrArg (fun q : Int64 => some (Value.long q)) hk).symm, rfl⟩
  · obtain ⟨v1, v2, v3, v4, v5⟩ := hX.2.1 j hj
    obtain ⟨u1, u2⟩ := bV j hj
    have hn : ga g 0 j < 5 := by omega
    obtain ⟨x4, x5, x6⟩ := hX.2.2.2.1 _ hn
    obtain ⟨y4, y5, y6⟩ := bN _ hn
    by_cases c3 : y = 3
    · have hk : k_of (nI j) y g = (nI (ga g 0 j)).toInt64 := by simp only [k_of, e, if_pos c3]
      refine r_aload_n dX8_of_0 rfl ?_
      refine r_iload_n dX8_of_1 rfl ?_
      refine r_cV ca_yX8_isVertex ml_X8_106 im_yX8_isVertex se_yX8_isVertex (by decide) rfl (lay_ok hL rfl) (c_X8_isVertex hL) ⟨by decide, by decide⟩ (by first | decide | omega) (by first | decide | omega) rfl (Nat.le_of_ble_eq_true rfl) dX8_of_2 ?_
      refine r_top 1 (by rw [s1]; exact inN_yes hj (by omega)) ?_
      refine r_if_ne 12 dX8_of_5 (by decide) (fun _ => ?_) (fun hq => absurd hq (by decide))
      refine r_aload_n dX8_of_12 rfl ?_
      refine r_getF kX8 (k := 0) (by decide) rfl fl_X8_12 (lay_ok hL rfl) (lay_r hL rfl) dX8_of_13 ?_
      refine r_getF kX1 (k := 0) (by decide) rfl fl_X8_214 (lay_ok hL rfl) (lay_r hL rfl) dX8_of_16 ?_
      refine r_iload_n dX8_of_19 rfl ?_
      refine r_ialdE (nI (ga g 0 j)) (lay_ok hL rfl) (by omega) (by omega) dX8_of_20 v1 ?_
      refine r_istore_n _ dX8_of_21 (by decide) rfl ?_
      refine r_iload_n dX8_of_22 rfl ?_
      refine r_iconst (3) dX8_of_23 (by decide) ?_
      refine r_icmp_ne 30 dX8_of_24 (by decide) (fun hq => absurd c3 hq) (fun _ => ?_)
      refine r_iload_n dX8_of_27 rfl ?_
      refine r_i2l dX8_of_28 ?_
      exact r_lret rfl dX8_of_29 ⟨by rw [hk], rfl⟩
    · by_cases d6 : ga g 6 (ga g 0 j) = 1
      · have hk : k_of (nI j) y g = k_NONE := by simp only [k_of, e, if_neg c3, if_pos d6]
        refine r_aload_n dX8_of_0 rfl ?_
        refine r_iload_n dX8_of_1 rfl ?_
        refine r_cV ca_yX8_isVertex ml_X8_106 im_yX8_isVertex se_yX8_isVertex (by decide) rfl (lay_ok hL rfl) (c_X8_isVertex hL) ⟨by decide, by decide⟩ (by first | decide | omega) (by first | decide | omega) rfl (Nat.le_of_ble_eq_true rfl) dX8_of_2 ?_
        refine r_top 1 (by rw [s1]; exact inN_yes hj (by omega)) ?_
        refine r_if_ne 12 dX8_of_5 (by decide) (fun _ => ?_) (fun hq => absurd hq (by decide))
        refine r_aload_n dX8_of_12 rfl ?_
        refine r_getF kX8 (k := 0) (by decide) rfl fl_X8_12 (lay_ok hL rfl) (lay_r hL rfl) dX8_of_13 ?_
        refine r_getF kX1 (k := 0) (by decide) rfl fl_X8_214 (lay_ok hL rfl) (lay_r hL rfl) dX8_of_16 ?_
        refine r_iload_n dX8_of_19 rfl ?_
        refine r_ialdE (nI (ga g 0 j)) (lay_ok hL rfl) (by omega) (by omega) dX8_of_20 v1 ?_
        refine r_istore_n _ dX8_of_21 (by decide) rfl ?_
        refine r_iload_n dX8_of_22 rfl ?_
        refine r_iconst (3) dX8_of_23 (by decide) ?_
        refine r_icmp_ne 30 dX8_of_24 (by decide) (fun _ => ?_) (fun hq => absurd hq c3)
        refine r_aload_n dX8_of_30 rfl ?_
        refine r_getF kX8 (k := 6) (by decide) rfl fl_X8_51 (lay_ok hL rfl) (lay_r hL rfl) dX8_of_31 ?_
        refine r_iload_n dX8_of_34 rfl ?_
        refine r_aaldF (Or.inr rfl) (lay_ok hL rfl) (by omega) (by decide) (lay_r hL (rf_row hn)) dX8_of_35 ?_
        refine r_getE (1) kX6 (k := 6) (by decide) rfl fl_X8_175 (lay_ok hL (sh_n0 hn)) dX8_of_36 (by rw [x6, d6]; rfl) ?_
        refine r_if_eq 48 dX8_of_39 (by decide) (fun hq => absurd hq (by decide)) (fun _ => ?_)
        refine r_ldc2 _ dX8_of_42 kl_X8_147 ?_
        refine r_goto 57 dX8_of_45 (by decide) ?_
        exact r_lret rfl dX8_of_57 ⟨(congrArg (fun q : Int64 => some (Value.long q)) hk).symm, rfl⟩
      · have hk : k_of (nI j) y g = t_tell g j y := by simp only [k_of, e, if_neg c3, if_neg d6]
        refine r_aload_n dX8_of_0 rfl ?_
        refine r_iload_n dX8_of_1 rfl ?_
        refine r_cV ca_yX8_isVertex ml_X8_106 im_yX8_isVertex se_yX8_isVertex (by decide) rfl (lay_ok hL rfl) (c_X8_isVertex hL) ⟨by decide, by decide⟩ (by first | decide | omega) (by first | decide | omega) rfl (Nat.le_of_ble_eq_true rfl) dX8_of_2 ?_
        refine r_top 1 (by rw [s1]; exact inN_yes hj (by omega)) ?_
        refine r_if_ne 12 dX8_of_5 (by decide) (fun _ => ?_) (fun hq => absurd hq (by decide))
        refine r_aload_n dX8_of_12 rfl ?_
        refine r_getF kX8 (k := 0) (by decide) rfl fl_X8_12 (lay_ok hL rfl) (lay_r hL rfl) dX8_of_13 ?_
        refine r_getF kX1 (k := 0) (by decide) rfl fl_X8_214 (lay_ok hL rfl) (lay_r hL rfl) dX8_of_16 ?_
        refine r_iload_n dX8_of_19 rfl ?_
        refine r_ialdE (nI (ga g 0 j)) (lay_ok hL rfl) (by omega) (by omega) dX8_of_20 v1 ?_
        refine r_istore_n _ dX8_of_21 (by decide) rfl ?_
        refine r_iload_n dX8_of_22 rfl ?_
        refine r_iconst (3) dX8_of_23 (by decide) ?_
        refine r_icmp_ne 30 dX8_of_24 (by decide) (fun _ => ?_) (fun hq => absurd hq c3)
        refine r_aload_n dX8_of_30 rfl ?_
        refine r_getF kX8 (k := 6) (by decide) rfl fl_X8_51 (lay_ok hL rfl) (lay_r hL rfl) dX8_of_31 ?_
        refine r_iload_n dX8_of_34 rfl ?_
        refine r_aaldF (Or.inr rfl) (lay_ok hL rfl) (by omega) (by decide) (lay_r hL (rf_row hn)) dX8_of_35 ?_
        refine r_getE (0) kX6 (k := 6) (by decide) rfl fl_X8_175 (lay_ok hL (sh_n0 hn)) dX8_of_36 (by rw [x6, bool01 y6 d6]; rfl) ?_
        refine r_if_eq 48 dX8_of_39 (by decide) (fun _ => ?_) (fun hq => absurd (by decide) hq)
        refine r_aload_n dX8_of_48 rfl ?_
        refine r_getF kX8 (k := 1) (by decide) rfl fl_X8_21 (lay_ok hL rfl) (lay_r hL rfl) dX8_of_49 ?_
        refine r_iload_n dX8_of_52 rfl ?_
        refine r_iload_n dX8_of_53 rfl ?_
        refine r_cV ca_yX7_tell ml_X8_226 im_yX7_tell se_yX7_tell (by decide) rfl (lay_ok hL rfl) (c_X7_tell hL (va := 8) (p := 9) (q := 10) (r := 11) (lay_ok hL rfl) (lay_r hL rfl) (lay_r hL rfl) (lay_r hL rfl) (lay_ok hL rfl) (lay_ok hL rfl) (lay_ok hL rfl) (v := j) (by omega)) ⟨by decide, by decide⟩ (by first | decide | omega) (by first | decide | omega) rfl (Nat.le_of_ble_eq_true rfl) dX8_of_54 ?_
        exact r_lret rfl dX8_of_57 ⟨by rw [hk, tell_eq v3 v4 v5 u2], rfl⟩
set_option maxHeartbeats 4000000 in
set_option maxRecDepth 100000 in
theorem k_X8_node {l : Launch} {X : Nat × (Nat → Int32)} {M : am_M} (hL : Lay M) {g : tG} {c0 : Nat} (hX : absX M g) (hI : gI c0 g) {x y : Int32} : am_F l yX8_node cX8_node 4 (some .int) 3 0 0 X [.ref 1, .int x, .int y] M (some (.int (k_node x y g))) M := by
  refine am_C.of (by decide) (by simp [Value.category, va_rf]) (Nat.le_of_ble_eq_true rfl) ?_
  have hB := hI.1
  obtain ⟨b0, b1, b2, b3, b4, b5, b6, b7, b8, b9, bV, bA, bN, bl, bn, bh⟩ := id hB
  obtain ⟨s0, s1, s2, s3, s4, s5, s6, s7, s8, s9⟩ := hX.1
  have hL0 := hL
  rcases inN_cases x (k := gs g 0) (by omega) with ⟨e, c⟩ | ⟨j, hj, rfl, e⟩
  · have hk : k_node x y g = -1 := by simp only [k_node, e]
    refine r_aload_n dX8_node_0 rfl ?_
    refine r_iload_n dX8_node_1 rfl ?_
    refine r_cV ca_yX8_isNode ml_X8_94 im_yX8_isNode se_yX8_isNode (by decide) rfl (lay_ok hL rfl) (c_X8_isNode hL) ⟨by decide, by decide⟩ (by first | decide | omega) (by first | decide | omega) rfl (Nat.le_of_ble_eq_true rfl) dX8_node_2 ?_
    refine r_top 0 (by rw [s0]; exact inN_no c) ?_
    refine r_if_ne 10 dX8_node_5 (by decide) (fun hq => absurd (by decide) hq) (fun _ => ?_)
    refine r_iconst (-1) dX8_node_8 (by decide) ?_
    exact r_iret (Or.inl rfl) dX8_node_9 ⟨by rw [hk], rfl⟩
  · have hn : j < 5 := by omega
    obtain ⟨x4, x5, x6⟩ := hX.2.2.2.1 j hn
    obtain ⟨y4, y5, y6⟩ := bN j hn
    obtain ⟨p, q, e2, e3, e4, e5, e6⟩ := hX.2.2.2.2.2.2.1 j hn
    have pp : p = 28 + 13 * j + 3 ∨ p = 28 + 13 * j + 8 := by omega
    have pf := mk_facts hL hn pp
    have hp4 : mI M (28 + 13 * j) 4 &&& 1 = nI (ga g 4 j % 2) := by rw [x4]; exact and1 (by omega)
    have hh := held5 (M := M) (g := g) (n := j) (c := 28 + 13 * j + 1) (p := ga g 4 j % 2) (fun o ho => (hX.2.2.2.2.2.1 j o 0 hn ho (by omega)).1) b1 (gI_O hI j)
    have hk : k_node (nI j) y g = if y = 0 then nI (ga g 4 j) else if y = 1 then nI (ga g 5 j) else if y = 2 then nI (ga g 6 j) else if y = 3 then nI (t_held g j) else if y = 4 then nI (t_ats g j) else if y = 5 then mkI (gm g j 1) else -1 := by simp only [k_node, e]
    rw [hk]
    refine r_aload_n dX8_node_0 rfl ?_
    refine r_iload_n dX8_node_1 rfl ?_
    refine r_cV ca_yX8_isNode ml_X8_94 im_yX8_isNode se_yX8_isNode (by decide) rfl (lay_ok hL rfl) (c_X8_isNode hL) ⟨by decide, by decide⟩ (by first | decide | omega) (by first | decide | omega) rfl (Nat.le_of_ble_eq_true rfl) dX8_node_2 ?_
    refine r_top 1 (by rw [s0]; exact inN_yes hj (by omega)) ?_
    refine r_if_ne 10 dX8_node_5 (by decide) (fun _ => ?_) (fun hq => absurd hq (by decide))
    refine r_aload_n dX8_node_10 rfl ?_
    refine r_getF kX8 (k := 6) (by decide) rfl fl_X8_51 (lay_ok hL rfl) (lay_r hL rfl) dX8_node_11 ?_
    refine r_iload_n dX8_node_14 rfl ?_
    refine r_aaldF (Or.inr rfl) (lay_ok hL rfl) (by omega) (by decide) (lay_r hL (rf_row hn)) dX8_node_15 ?_
    refine r_astore_n _ dX8_node_16 (by decide) rfl ?_
    refine r_iload_n dX8_node_17 rfl ?_
    by_cases w0 : y = 0
    · subst w0
      refine r_tableIn 56 dX8_node_18 (by decide) (by decide) (off := 38) (by decide) (by decide) ?_
      refine r_aload_n dX8_node_56 rfl ?_
      refine r_getE (nI (ga g 4 j)) kX6 (k := 4) (by decide) rfl fl_X8_178 (lay_ok hL (sh_n0 hn)) dX8_node_57 x4 ?_
      exact r_iret (Or.inl rfl) dX8_node_60 ⟨rfl, rfl⟩
    by_cases w1 : y = 1
    · subst w1
      refine r_tableIn 61 dX8_node_18 (by decide) (by decide) (off := 43) (by decide) (by decide) ?_
      refine r_aload_n dX8_node_61 rfl ?_
      refine r_getE (nI (ga g 5 j)) kX6 (k := 5) (by decide) rfl fl_X8_236 (lay_ok hL (sh_n0 hn)) dX8_node_62 x5 ?_
      refine r_if_eq 72 dX8_node_65 (by decide) (fun c65 => ?_) (fun c65 => ?_)
      · refine r_iconst (0) dX8_node_72 (by decide) ?_
        exact r_iret (Or.inl rfl) dX8_node_73 ⟨by simp only [if_neg (show ¬ (1 : Int32) = 0 by decide), if_true]; first | (rw [bool01 y5 (fun z => by rw [z] at c65; exact absurd c65 (by decide))]; rfl) | (rw [show ga g 5 j = 1 from Nat.le_antisymm y5 (Nat.pos_of_ne_zero (fun z => c65 (by rw [z]; rfl)))]; rfl), rfl⟩
      · refine r_iconst (1) dX8_node_68 (by decide) ?_
        refine r_goto 73 dX8_node_69 (by decide) ?_
        exact r_iret (Or.inl rfl) dX8_node_73 ⟨by simp only [if_neg (show ¬ (1 : Int32) = 0 by decide), if_true]; first | (rw [bool01 y5 (fun z => by rw [z] at c65; exact absurd c65 (by decide))]; rfl) | (rw [show ga g 5 j = 1 from Nat.le_antisymm y5 (Nat.pos_of_ne_zero (fun z => c65 (by rw [z]; rfl)))]; rfl), rfl⟩
    by_cases w2 : y = 2
    · subst w2
      refine r_tableIn 74 dX8_node_18 (by decide) (by decide) (off := 56) (by decide) (by decide) ?_
      refine r_aload_n dX8_node_74 rfl ?_
      refine r_getE (nI (ga g 6 j)) kX6 (k := 6) (by decide) rfl fl_X8_175 (lay_ok hL (sh_n0 hn)) dX8_node_75 x6 ?_
      refine r_if_eq 85 dX8_node_78 (by decide) (fun c78 => ?_) (fun c78 => ?_)
      · refine r_iconst (0) dX8_node_85 (by decide) ?_
        exact r_iret (Or.inl rfl) dX8_node_86 ⟨by simp only [if_neg (show ¬ (2 : Int32) = 0 by decide), if_neg (show ¬ (2 : Int32) = 1 by decide), if_true]; first | (rw [bool01 y6 (fun z => by rw [z] at c78; exact absurd c78 (by decide))]; rfl) | (rw [show ga g 6 j = 1 from Nat.le_antisymm y6 (Nat.pos_of_ne_zero (fun z => c78 (by rw [z]; rfl)))]; rfl), rfl⟩
      · refine r_iconst (1) dX8_node_81 (by decide) ?_
        refine r_goto 86 dX8_node_82 (by decide) ?_
        exact r_iret (Or.inl rfl) dX8_node_86 ⟨by simp only [if_neg (show ¬ (2 : Int32) = 0 by decide), if_neg (show ¬ (2 : Int32) = 1 by decide), if_true]; first | (rw [bool01 y6 (fun z => by rw [z] at c78; exact absurd c78 (by decide))]; rfl) | (rw [show ga g 6 j = 1 from Nat.le_antisymm y6 (Nat.pos_of_ne_zero (fun z => c78 (by rw [z]; rfl)))]; rfl), rfl⟩
    by_cases w3 : y = 3
    · subst w3
      refine r_tableIn 87 dX8_node_18 (by decide) (by decide) (off := 69) (by decide) (by decide) ?_
      refine r_aload_n dX8_node_87 rfl ?_
      refine r_cV ca_yX6_lettersHeld ml_X8_239 im_yX6_lettersHeld se_yX6_lettersHeld (by decide) rfl (lay_ok hL (sh_n0 hn)) (c_X6_lettersHeld hL hn hp4 (by omega)) ⟨by decide, by decide⟩ (by first | decide | omega) (by first | decide | omega) rfl (Nat.le_of_ble_eq_true rfl) dX8_node_88 ?_
      refine r_top (nI (t_held g j)) (by rw [hh]) ?_
      exact r_iret (Or.inl rfl) dX8_node_91 ⟨rfl, rfl⟩
    by_cases w4 : y = 4
    · subst w4
      refine r_tableIn 92 dX8_node_18 (by decide) (by decide) (off := 74) (by decide) (by decide) ?_
      refine r_aload_n dX8_node_92 rfl ?_
      refine r_getF kX8 (k := 0) (by decide) rfl fl_X8_12 (lay_ok hL rfl) (lay_r hL rfl) dX8_node_93 ?_
      refine r_iload_n dX8_node_96 rfl ?_
      refine r_cV ca_yX1_verticesAt ml_X8_242 im_yX1_verticesAt se_yX1_verticesAt (by decide) rfl (lay_ok hL rfl) (c_X1_verticesAt hL (hm := ga g 0) s1 b2 (fun v hv => ⟨(hX.2.1 v hv).1, by have := (bV v hv).1; omega⟩) hn) ⟨by decide, by decide⟩ (by first | decide | omega) (by first | decide | omega) rfl (Nat.le_of_ble_eq_true rfl) dX8_node_97 ?_
      exact r_iret (Or.inl rfl) dX8_node_100 ⟨rfl, rfl⟩
    by_cases w5 : y = 5
    · subst w5
      refine r_tableIn 101 dX8_node_18 (by decide) (by decide) (off := 83) (by decide) (by decide) ?_
      refine r_aload_n dX8_node_101 rfl ?_
      refine r_getF (r := p) kX6 (k := 2) (by decide) rfl fl_X8_197 (lay_ok hL (sh_n0 hn)) e2 dX8_node_102 ?_
      refine r_getE (mkI (gm g j 1)) kX4 (k := 1) (by decide) rfl fl_X8_246 pf.1 dX8_node_105 e5.1 ?_
      exact r_iret (Or.inl rfl) dX8_node_108 ⟨rfl, rfl⟩
    refine r_tableOut 109 dX8_node_18 (by have t0 := lv_neT (a := 0) w0 rfl; have t1 := lv_neT (a := 1) w1 rfl; have t2 := lv_neT (a := 2) w2 rfl; have t3 := lv_neT (a := 3) w3 rfl; have t4 := lv_neT (a := 4) w4 rfl; have t5 := lv_neT (a := 5) w5 rfl; omega) (by decide) ?_
    refine r_iconst (-1) dX8_node_109 (by decide) ?_
    exact r_iret (Or.inl rfl) dX8_node_110 ⟨by simp only [if_neg w0, if_neg w1, if_neg w2, if_neg w3, if_neg w4, if_neg w5], rfl⟩
set_option maxHeartbeats 4000000 in
set_option maxRecDepth 100000 in
theorem k_X8_told {l : Launch} {X : Nat × (Nat → Int32)} {M : am_M} (hL : Lay M) {g : tG} {c0 : Nat} (hX : absX M g) (hI : gI c0 g) {x : Int32} : am_F l yX8_told cX8_told 2 (some .int) 0 0 0 X [.ref 1, .int x] M (some (.int (k_told x g))) M := by
  refine am_C.of (by decide) (by simp [Value.category, va_rf]) (Nat.le_of_ble_eq_true rfl) ?_
  have hB := hI.1
  obtain ⟨b0, b1, b2, b3, b4, b5, b6, b7, b8, b9, bV, bA, bN, bl, bn, bh⟩ := id hB
  obtain ⟨s0, s1, s2, s3, s4, s5, s6, s7, s8, s9⟩ := hX.1
  have hL0 := hL
  refine r_iload_n dX8_told_0 rfl ?_
  by_cases w0 : x = 0
  · subst w0
    refine r_tableIn 64 dX8_told_1 (by decide) (by decide) (off := 63) (by decide) (by decide) ?_
    refine r_aload_n dX8_told_64 rfl ?_
    refine r_getF kX8 (k := 0) (by decide) rfl fl_X8_12 (lay_ok hL rfl) (lay_r hL rfl) dX8_told_65 ?_
    refine r_getE (nI (gs g 1)) kX1 (k := 5) (by decide) rfl fl_X8_64 (lay_ok hL rfl) dX8_told_68 s1 ?_
    exact r_iret (Or.inl rfl) dX8_told_71 ⟨rfl, rfl⟩
  by_cases w1 : x = 1
  · subst w1
    refine r_tableIn 72 dX8_told_1 (by decide) (by decide) (off := 71) (by decide) (by decide) ?_
    refine r_aload_n dX8_told_72 rfl ?_
    refine r_getF kX8 (k := 0) (by decide) rfl fl_X8_12 (lay_ok hL rfl) (lay_r hL rfl) dX8_told_73 ?_
    refine r_getE (nI (gs g 2)) kX1 (k := 6) (by decide) rfl fl_X8_109 (lay_ok hL rfl) dX8_told_76 s2 ?_
    exact r_iret (Or.inl rfl) dX8_told_79 ⟨rfl, rfl⟩
  by_cases w2 : x = 2
  · subst w2
    refine r_tableIn 80 dX8_told_1 (by decide) (by decide) (off := 79) (by decide) (by decide) ?_
    refine r_aload_n dX8_told_80 rfl ?_
    refine r_getE (nI (gs g 0)) kX8 (k := 8) (by decide) rfl fl_X8_60 (lay_ok hL rfl) dX8_told_81 s0 ?_
    exact r_iret (Or.inl rfl) dX8_told_84 ⟨rfl, rfl⟩
  by_cases w3 : x = 3
  · subst w3
    refine r_tableIn 85 dX8_told_1 (by decide) (by decide) (off := 84) (by decide) (by decide) ?_
    refine r_aload_n dX8_told_85 rfl ?_
    refine r_getF kX8 (k := 0) (by decide) rfl fl_X8_12 (lay_ok hL rfl) (lay_r hL rfl) dX8_told_86 ?_
    refine r_getE (nI (gs g 3)) kX1 (k := 7) (by decide) rfl fl_X8_116 (lay_ok hL rfl) dX8_told_89 s3 ?_
    exact r_iret (Or.inl rfl) dX8_told_92 ⟨rfl, rfl⟩
  by_cases w4 : x = 4
  · subst w4
    refine r_tableIn 93 dX8_told_1 (by decide) (by decide) (off := 92) (by decide) (by decide) ?_
    refine r_aload_n dX8_told_93 rfl ?_
    refine r_getF kX8 (k := 5) (by decide) rfl fl_X8_45 (lay_ok hL rfl) (lay_r hL rfl) dX8_told_94 ?_
    refine r_getE (nI (gn g).length) kX5 (k := 1) (by decide) rfl fl_X8_122 (lay_ok hL rfl) dX8_told_97 hX.2.2.2.2.1.1 ?_
    exact r_iret (Or.inl rfl) dX8_told_100 ⟨rfl, rfl⟩
  by_cases w5 : x = 5
  · subst w5
    refine r_tableIn 101 dX8_told_1 (by decide) (by decide) (off := 100) (by decide) (by decide) ?_
    refine r_aload_n dX8_told_101 rfl ?_
    refine r_getE (nI (gs g 8)) kX8 (k := 13) (by decide) rfl fl_X8_91 (lay_ok hL rfl) dX8_told_102 s8 ?_
    exact r_iret (Or.inl rfl) dX8_told_105 ⟨rfl, rfl⟩
  by_cases w6 : x = 6
  · subst w6
    refine r_tableIn 106 dX8_told_1 (by decide) (by decide) (off := 105) (by decide) (by decide) ?_
    refine r_aload_n dX8_told_106 rfl ?_
    refine r_getF kX8 (k := 7) (by decide) rfl fl_X8_55 (lay_ok hL rfl) (lay_r hL rfl) dX8_told_107 ?_
    refine r_iconst (nI 0) dX8_told_110 (by decide) ?_
    refine r_ialdE (nI (gs g 9)) (lay_ok hL rfl) (by decide) (by omega) dX8_told_111 (s9 0 (by decide)) ?_
    exact r_iret (Or.inl rfl) dX8_told_112 ⟨rfl, rfl⟩
  by_cases w7 : x = 7
  · subst w7
    refine r_tableIn 113 dX8_told_1 (by decide) (by decide) (off := 112) (by decide) (by decide) ?_
    refine r_aload_n dX8_told_113 rfl ?_
    refine r_getF kX8 (k := 7) (by decide) rfl fl_X8_55 (lay_ok hL rfl) (lay_r hL rfl) dX8_told_114 ?_
    refine r_iconst (nI 1) dX8_told_117 (by decide) ?_
    refine r_ialdE (nI (gs g 10)) (lay_ok hL rfl) (by decide) (by omega) dX8_told_118 (s9 1 (by decide)) ?_
    exact r_iret (Or.inl rfl) dX8_told_119 ⟨rfl, rfl⟩
  by_cases w8 : x = 8
  · subst w8
    refine r_tableIn 120 dX8_told_1 (by decide) (by decide) (off := 119) (by decide) (by decide) ?_
    refine r_aload_n dX8_told_120 rfl ?_
    refine r_getF kX8 (k := 7) (by decide) rfl fl_X8_55 (lay_ok hL rfl) (lay_r hL rfl) dX8_told_121 ?_
    refine r_iconst (nI 2) dX8_told_124 (by decide) ?_
    refine r_ialdE (nI (gs g 11)) (lay_ok hL rfl) (by decide) (by omega) dX8_told_125 (s9 2 (by decide)) ?_
    exact r_iret (Or.inl rfl) dX8_told_126 ⟨rfl, rfl⟩
  by_cases w9 : x = 9
  · subst w9
    refine r_tableIn 127 dX8_told_1 (by decide) (by decide) (off := 126) (by decide) (by decide) ?_
    refine r_aload_n dX8_told_127 rfl ?_
    refine r_getF kX8 (k := 7) (by decide) rfl fl_X8_55 (lay_ok hL rfl) (lay_r hL rfl) dX8_told_128 ?_
    refine r_iconst (nI 3) dX8_told_131 (by decide) ?_
    refine r_ialdE (nI (gs g 12)) (lay_ok hL rfl) (by decide) (by omega) dX8_told_132 (s9 3 (by decide)) ?_
    exact r_iret (Or.inl rfl) dX8_told_133 ⟨rfl, rfl⟩
  by_cases w10 : x = 10
  · subst w10
    refine r_tableIn 134 dX8_told_1 (by decide) (by decide) (off := 133) (by decide) (by decide) ?_
    refine r_aload_n dX8_told_134 rfl ?_
    refine r_getE (nI (gs g 7)) kX8 (k := 12) (by decide) rfl fl_X8_88 (lay_ok hL rfl) dX8_told_135 s7 ?_
    exact r_iret (Or.inl rfl) dX8_told_138 ⟨rfl, rfl⟩
  by_cases w11 : x = 11
  · subst w11
    refine r_tableIn 139 dX8_told_1 (by decide) (by decide) (off := 138) (by decide) (by decide) ?_
    refine r_aload_n dX8_told_139 rfl ?_
    refine r_getE (nI (gs g 5)) kX8 (k := 9) (by decide) rfl fl_X8_78 (lay_ok hL rfl) dX8_told_140 s5 ?_
    exact r_iret (Or.inl rfl) dX8_told_143 ⟨rfl, rfl⟩
  refine r_tableOut 144 dX8_told_1 (by have t0 := lv_neT (a := 0) w0 rfl; have t1 := lv_neT (a := 1) w1 rfl; have t2 := lv_neT (a := 2) w2 rfl; have t3 := lv_neT (a := 3) w3 rfl; have t4 := lv_neT (a := 4) w4 rfl; have t5 := lv_neT (a := 5) w5 rfl; have t6 := lv_neT (a := 6) w6 rfl; have t7 := lv_neT (a := 7) w7 rfl; have t8 := lv_neT (a := 8) w8 rfl; have t9 := lv_neT (a := 9) w9 rfl; have t10 := lv_neT (a := 10) w10 rfl; have t11 := lv_neT (a := 11) w11 rfl; omega) (by decide) ?_
  refine r_iconst (-1) dX8_told_144 (by decide) ?_
  exact r_iret (Or.inl rfl) dX8_told_145 ⟨by simp only [k_told, if_neg w0, if_neg w1, if_neg w2, if_neg w3, if_neg w4, if_neg w5, if_neg w6, if_neg w7, if_neg w8, if_neg w9, if_neg w10, if_neg w11], rfl⟩
