set_option maxHeartbeats 4000000 in
set_option maxRecDepth 100000 in
theorem c_X8_isNode {l : Launch} {X : Nat × (Nat → Int32)} {M : am_M} (hL : Lay M) {n : Int32}  : am_F l yX8_isNode cX8_isNode 2 (some .boolean) 0 0 0 X [.ref 1, .int n] M (some (.int (if n < 0 then 0 else if mI M 1 8 ≤ n then 0 else 1))) (M) := by
  refine am_C.of (by decide) (by simp [Value.category, va_rf]) (Nat.le_of_ble_eq_true rfl) ?_
  refine r_iload_n dX8_isNode_0 rfl ?_
  refine r_if_lt 16 dX8_isNode_1 (by decide) (fun c1 => ?_) (fun c1 => ?_)
  · refine r_iconst (0) dX8_isNode_16 (by decide) ?_
    exact r_iret (Or.inr ⟨rfl, by first | exact Or.inl rfl | exact Or.inr rfl⟩) dX8_isNode_17 ⟨by simp [*], rfl⟩
  · refine r_iload_n dX8_isNode_4 rfl ?_
    refine r_aload_n dX8_isNode_5 rfl ?_
    refine r_getI kX8 (k := 8) (by decide) rfl fl_X8_60 (lay_ok hL rfl) dX8_isNode_6 ?_
    refine r_icmp_ge 16 dX8_isNode_9 (by decide) (fun c9 => ?_) (fun c9 => ?_)
    · refine r_iconst (0) dX8_isNode_16 (by decide) ?_
      exact r_iret (Or.inr ⟨rfl, by first | exact Or.inl rfl | exact Or.inr rfl⟩) dX8_isNode_17 ⟨by simp [*], rfl⟩
    · refine r_iconst (1) dX8_isNode_12 (by decide) ?_
      refine r_goto 17 dX8_isNode_13 (by decide) ?_
      exact r_iret (Or.inr ⟨rfl, by first | exact Or.inl rfl | exact Or.inr rfl⟩) dX8_isNode_17 ⟨by simp [*], rfl⟩
set_option maxHeartbeats 4000000 in
set_option maxRecDepth 100000 in
theorem c_X8_isVertex {l : Launch} {X : Nat × (Nat → Int32)} {M : am_M} (hL : Lay M) {n : Int32}  : am_F l yX8_isVertex cX8_isVertex 2 (some .boolean) 0 0 0 X [.ref 1, .int n] M (some (.int (if n < 0 then 0 else if mI M 2 5 ≤ n then 0 else 1))) (M) := by
  refine am_C.of (by decide) (by simp [Value.category, va_rf]) (Nat.le_of_ble_eq_true rfl) ?_
  refine r_iload_n dX8_isVertex_0 rfl ?_
  refine r_if_lt 19 dX8_isVertex_1 (by decide) (fun c1 => ?_) (fun c1 => ?_)
  · refine r_iconst (0) dX8_isVertex_19 (by decide) ?_
    exact r_iret (Or.inr ⟨rfl, by first | exact Or.inl rfl | exact Or.inr rfl⟩) dX8_isVertex_20 ⟨by simp [*], rfl⟩
  · refine r_iload_n dX8_isVertex_4 rfl ?_
    refine r_aload_n dX8_isVertex_5 rfl ?_
    refine r_getF kX8 (k := 0) (by decide) rfl fl_X8_12 (lay_ok hL rfl) (lay_r hL rfl) dX8_isVertex_6 ?_
    refine r_getI kX1 (k := 5) (by decide) rfl fl_X8_64 (lay_ok hL rfl) dX8_isVertex_9 ?_
    refine r_icmp_ge 19 dX8_isVertex_12 (by decide) (fun c12 => ?_) (fun c12 => ?_)
    · refine r_iconst (0) dX8_isVertex_19 (by decide) ?_
      exact r_iret (Or.inr ⟨rfl, by first | exact Or.inl rfl | exact Or.inr rfl⟩) dX8_isVertex_20 ⟨by simp [*], rfl⟩
    · refine r_iconst (1) dX8_isVertex_15 (by decide) ?_
      refine r_goto 20 dX8_isVertex_16 (by decide) ?_
      exact r_iret (Or.inr ⟨rfl, by first | exact Or.inl rfl | exact Or.inr rfl⟩) dX8_isVertex_20 ⟨by simp [*], rfl⟩
set_option maxHeartbeats 4000000 in
set_option maxRecDepth 100000 in
theorem c_X1_clear {l : Launch} {X : Nat × (Nat → Int32)} {M : am_M} (hL : Lay M)  : am_F l yX1_clear cX1_clear 1 (none) 0 0 0 X [.ref 2] M (none) (wI (wI (wI M 2 5 0) 2 6 0) 2 7 0) := by
  refine am_C.of (by decide) (by simp [Value.category, va_rf]) (Nat.le_of_ble_eq_true rfl) ?_
  refine r_aload_n dX1_clear_0 rfl ?_
  refine r_iconst (0) dX1_clear_1 (by decide) ?_
  refine r_putI kX1 (k := 5) (by decide) rfl (Or.inl rfl) fl_X1_27 (lay_ok hL rfl) ⟨rfl, rfl⟩ dX1_clear_2 ?_
  refine r_lay (lay_wI hL _ _ _) (fun hL => ?_)
  refine r_aload_n dX1_clear_5 rfl ?_
  refine r_iconst (0) dX1_clear_6 (by decide) ?_
  refine r_putI kX1 (k := 6) (by decide) rfl (Or.inl rfl) fl_X1_31 (lay_ok hL rfl) ⟨rfl, rfl⟩ dX1_clear_7 ?_
  refine r_lay (lay_wI hL _ _ _) (fun hL => ?_)
  refine r_aload_n dX1_clear_10 rfl ?_
  refine r_iconst (0) dX1_clear_11 (by decide) ?_
  refine r_putI kX1 (k := 7) (by decide) rfl (Or.inl rfl) fl_X1_34 (lay_ok hL rfl) ⟨rfl, rfl⟩ dX1_clear_12 ?_
  refine r_lay (lay_wI hL _ _ _) (fun hL => ?_)
  exact r_vret rfl dX1_clear_15 ⟨rfl, rfl⟩
theorem co_min : Cond.code Lib.Math.min.name Lib.Math.min.code 2 (some .int) ∈ am_gw := (show Cond.code yJ9_min_7cf53 cJ9_min_7cf53 2 (some .int) = Cond.code Lib.Math.min.name Lib.Math.min.code 2 (some .int) by decide +kernel) ▸ ca_yJ9_min_7cf53.1
theorem co_max : Cond.code Lib.Math.max.name Lib.Math.max.code 2 (some .int) ∈ am_gw := (show Cond.code yJ9_max_7cf53 cJ9_max_7cf53 2 (some .int) = Cond.code Lib.Math.max.name Lib.Math.max.code 2 (some .int) by decide +kernel) ▸ ca_yJ9_max_7cf53.1
theorem lt4 {k : Nat} (h : k ≤ 3) : k = 0 ∨ k = 1 ∨ k = 2 ∨ k = 3 := by omega
set_option maxHeartbeats 4000000 in
set_option maxRecDepth 100000 in
theorem c_X8_fold {l : Launch} {X : Nat × (Nat → Int32)} {M : am_M} (hL : Lay M) {k : Nat} {a b : Int32} (hk : k ≤ 3) : am_F l yX8_fold cX8_fold 3 (some .int) 1 0 0 X [.int (nI k), .int a, .int b] M (some (.int (t_fold k a b))) (M) := by
  refine am_C.of (by decide) (by simp [Value.category, va_rf]) (Nat.le_of_ble_eq_true rfl) ?_
  refine r_iload_n dX8_fold_0 rfl ?_
  rcases (lt4 hk) with rfl | rfl | rfl | rfl
  · refine r_lookup 28 dX8_fold_1 (by decide) (off := 27) (by decide) (by decide) ?_
    refine r_iload_n dX8_fold_28 rfl ?_
    refine r_iload_n dX8_fold_29 rfl ?_
    refine r_mmin ml_X8_322 sm_yJ9_min_7cf53 ini_J9 co_min ⟨by decide, by decide⟩ dX8_fold_30 ?_
    exact r_iret (Or.inl rfl) dX8_fold_33 ⟨rfl, rfl⟩
  · refine r_lookup 34 dX8_fold_1 (by decide) (off := 33) (by decide) (by decide) ?_
    refine r_iload_n dX8_fold_34 rfl ?_
    refine r_iload_n dX8_fold_35 rfl ?_
    refine r_mmax ml_X8_327 sm_yJ9_max_7cf53 ini_J9 co_max ⟨by decide, by decide⟩ dX8_fold_36 ?_
    exact r_iret (Or.inl rfl) dX8_fold_39 ⟨rfl, rfl⟩
  · refine r_lookup 40 dX8_fold_1 (by decide) (off := 39) (by decide) (by decide) ?_
    refine r_iload_n dX8_fold_40 rfl ?_
    refine r_iload_n dX8_fold_41 rfl ?_
    refine r_iadd dX8_fold_42 ?_
    exact r_iret (Or.inl rfl) dX8_fold_43 ⟨rfl, rfl⟩
  · refine r_lookup 40 dX8_fold_1 (by decide) (off := 39) (by decide) (by decide) ?_
    refine r_iload_n dX8_fold_40 rfl ?_
    refine r_iload_n dX8_fold_41 rfl ?_
    refine r_iadd dX8_fold_42 ?_
    exact r_iret (Or.inl rfl) dX8_fold_43 ⟨rfl, rfl⟩
set_option maxHeartbeats 4000000 in
set_option maxRecDepth 100000 in
theorem c_X1_addVertex {l : Launch} {X : Nat × (Nat → Int32)} {M : am_M} (hL : Lay M) {nv : Nat} {a b : Int32} (hv : mI M 2 5 = nI nv) (h : nv < 16) : am_F l yX1_addVertex cX1_addVertex 3 (some .int) 0 0 0 X [.ref 2, .int a, .int b] M (some (.int (nI nv))) (wI (wI (wI M 3 nv a) 4 nv b) 2 5 (nI (nv + 1))) := by
  refine am_C.of (by decide) (by simp [Value.category, va_rf]) (Nat.le_of_ble_eq_true rfl) ?_
  refine r_aload_n dX1_addVertex_0 rfl ?_
  refine r_getF kX1 (k := 0) (by decide) rfl fl_X1_9 (lay_ok hL rfl) (lay_r hL rfl) dX1_addVertex_1 ?_
  refine r_aload_n dX1_addVertex_4 rfl ?_
  refine r_getE (nI nv) kX1 (k := 5) (by decide) rfl fl_X1_27 (lay_ok hL rfl) dX1_addVertex_5 (by simp [mI_wI, hv]) ?_
  refine r_iload_n dX1_addVertex_8 rfl ?_
  refine r_iastN (lay_ok hL rfl) (by omega) (by decide) dX1_addVertex_9 ?_
  refine r_lay (lay_wI hL _ _ _) (fun hL => ?_)
  refine r_aload_n dX1_addVertex_10 rfl ?_
  refine r_getF kX1 (k := 1) (by decide) rfl fl_X1_15 (lay_ok hL rfl) (lay_r hL rfl) dX1_addVertex_11 ?_
  refine r_aload_n dX1_addVertex_14 rfl ?_
  refine r_getE (nI nv) kX1 (k := 5) (by decide) rfl fl_X1_27 (lay_ok hL rfl) dX1_addVertex_15 (by simp [mI_wI, hv]) ?_
  refine r_iload_n dX1_addVertex_18 rfl ?_
  refine r_iastN (lay_ok hL rfl) (by omega) (by decide) dX1_addVertex_19 ?_
  refine r_lay (lay_wI hL _ _ _) (fun hL => ?_)
  refine r_aload_n dX1_addVertex_20 rfl ?_
  refine r_dup dX1_addVertex_21 rfl ?_
  refine r_getE (nI nv) kX1 (k := 5) (by decide) rfl fl_X1_27 (lay_ok hL rfl) dX1_addVertex_22 (by simp [mI_wI, hv]) ?_
  refine r_dup_x1 dX1_addVertex_25 rfl rfl ?_
  refine r_iconst (1) dX1_addVertex_26 (by decide) ?_
  refine r_iadd dX1_addVertex_27 ?_
  refine r_top (nI (nv + 1)) (nI_1 nv) ?_
  refine r_putI kX1 (k := 5) (by decide) rfl (Or.inl rfl) fl_X1_27 (lay_ok hL rfl) ⟨rfl, rfl⟩ dX1_addVertex_28 ?_
  refine r_lay (lay_wI hL _ _ _) (fun hL => ?_)
  exact r_iret (Or.inl rfl) dX1_addVertex_31 ⟨rfl, rfl⟩
set_option maxHeartbeats 4000000 in
set_option maxRecDepth 100000 in
theorem c_X1_addArc {l : Launch} {X : Nat × (Nat → Int32)} {M : am_M} (hL : Lay M) {na : Nat} {a b w : Int32} (hv : mI M 2 6 = nI na) (h : na < 40) : am_F l yX1_addArc cX1_addArc 4 (some .int) 0 0 0 X [.ref 2, .int a, .int b, .int w] M (some (.int (nI na))) (wI (wI (wI (wI M 5 na a) 6 na b) 7 na w) 2 6 (nI (na + 1))) := by
  refine am_C.of (by decide) (by simp [Value.category, va_rf]) (Nat.le_of_ble_eq_true rfl) ?_
  refine r_aload_n dX1_addArc_0 rfl ?_
  refine r_getF kX1 (k := 2) (by decide) rfl fl_X1_18 (lay_ok hL rfl) (lay_r hL rfl) dX1_addArc_1 ?_
  refine r_aload_n dX1_addArc_4 rfl ?_
  refine r_getE (nI na) kX1 (k := 6) (by decide) rfl fl_X1_31 (lay_ok hL rfl) dX1_addArc_5 (by simp [mI_wI, hv]) ?_
  refine r_iload_n dX1_addArc_8 rfl ?_
  refine r_iastN (lay_ok hL rfl) (by omega) (by decide) dX1_addArc_9 ?_
  refine r_lay (lay_wI hL _ _ _) (fun hL => ?_)
  refine r_aload_n dX1_addArc_10 rfl ?_
  refine r_getF kX1 (k := 3) (by decide) rfl fl_X1_21 (lay_ok hL rfl) (lay_r hL rfl) dX1_addArc_11 ?_
  refine r_aload_n dX1_addArc_14 rfl ?_
  refine r_getE (nI na) kX1 (k := 6) (by decide) rfl fl_X1_31 (lay_ok hL rfl) dX1_addArc_15 (by simp [mI_wI, hv]) ?_
  refine r_iload_n dX1_addArc_18 rfl ?_
  refine r_iastN (lay_ok hL rfl) (by omega) (by decide) dX1_addArc_19 ?_
  refine r_lay (lay_wI hL _ _ _) (fun hL => ?_)
  refine r_aload_n dX1_addArc_20 rfl ?_
  refine r_getF kX1 (k := 4) (by decide) rfl fl_X1_24 (lay_ok hL rfl) (lay_r hL rfl) dX1_addArc_21 ?_
  refine r_aload_n dX1_addArc_24 rfl ?_
  refine r_getE (nI na) kX1 (k := 6) (by decide) rfl fl_X1_31 (lay_ok hL rfl) dX1_addArc_25 (by simp [mI_wI, hv]) ?_
  refine r_iload_n dX1_addArc_28 rfl ?_
  refine r_iastN (lay_ok hL rfl) (by omega) (by decide) dX1_addArc_29 ?_
  refine r_lay (lay_wI hL _ _ _) (fun hL => ?_)
  refine r_aload_n dX1_addArc_30 rfl ?_
  refine r_dup dX1_addArc_31 rfl ?_
  refine r_getE (nI na) kX1 (k := 6) (by decide) rfl fl_X1_31 (lay_ok hL rfl) dX1_addArc_32 (by simp [mI_wI, hv]) ?_
  refine r_dup_x1 dX1_addArc_35 rfl rfl ?_
  refine r_iconst (1) dX1_addArc_36 (by decide) ?_
  refine r_iadd dX1_addArc_37 ?_
  refine r_top (nI (na + 1)) (nI_1 na) ?_
  refine r_putI kX1 (k := 6) (by decide) rfl (Or.inl rfl) fl_X1_31 (lay_ok hL rfl) ⟨rfl, rfl⟩ dX1_addArc_38 ?_
  refine r_lay (lay_wI hL _ _ _) (fun hL => ?_)
  exact r_iret (Or.inl rfl) dX1_addArc_41 ⟨rfl, rfl⟩
set_option maxHeartbeats 4000000 in
set_option maxRecDepth 100000 in
theorem c_X1_leads {l : Launch} {X : Nat × (Nat → Int32)} {M : am_M} (hL : Lay M) {a n o t h : Nat} (ha : a < 40) (ht : mI M 5 a = nI t) (ht2 : t < 16) (hh : mI M 6 a = nI h) (hh2 : h < 16) : am_F l yX1_leads cX1_leads 4 (some .boolean) 0 0 0 X [.ref 2, .int (nI a), .int (nI n), .int (nI o)] M (some (.int (if mI M 3 t ≠ nI n then 0 else if mI M 3 h ≠ nI o then 0 else 1))) (M) := by
  refine am_C.of (by decide) (by simp [Value.category, va_rf]) (Nat.le_of_ble_eq_true rfl) ?_
  refine r_aload_n dX1_leads_0 rfl ?_
  refine r_getF kX1 (k := 0) (by decide) rfl fl_X1_9 (lay_ok hL rfl) (lay_r hL rfl) dX1_leads_1 ?_
  refine r_aload_n dX1_leads_4 rfl ?_
  refine r_getF kX1 (k := 2) (by decide) rfl fl_X1_18 (lay_ok hL rfl) (lay_r hL rfl) dX1_leads_5 ?_
  refine r_iload_n dX1_leads_8 rfl ?_
  refine r_ialdE (nI t) (lay_ok hL rfl) (by omega) (by decide) dX1_leads_9 ht ?_
  refine r_ialdN (lay_ok hL rfl) (by omega) (by decide) dX1_leads_10 ?_
  refine r_iload_n dX1_leads_11 rfl ?_
  refine r_icmp_ne 34 dX1_leads_12 (by decide) (fun c12 => ?_) (fun c12 => ?_)
  · refine r_iconst (0) dX1_leads_34 (by decide) ?_
    exact r_iret (Or.inr ⟨rfl, by first | exact Or.inl rfl | exact Or.inr rfl⟩) dX1_leads_35 ⟨by simp [*], rfl⟩
  · refine r_aload_n dX1_leads_15 rfl ?_
    refine r_getF kX1 (k := 0) (by decide) rfl fl_X1_9 (lay_ok hL rfl) (lay_r hL rfl) dX1_leads_16 ?_
    refine r_aload_n dX1_leads_19 rfl ?_
    refine r_getF kX1 (k := 3) (by decide) rfl fl_X1_21 (lay_ok hL rfl) (lay_r hL rfl) dX1_leads_20 ?_
    refine r_iload_n dX1_leads_23 rfl ?_
    refine r_ialdE (nI h) (lay_ok hL rfl) (by omega) (by decide) dX1_leads_24 hh ?_
    refine r_ialdN (lay_ok hL rfl) (by omega) (by decide) dX1_leads_25 ?_
    refine r_iload_n dX1_leads_26 rfl ?_
    refine r_icmp_ne 34 dX1_leads_27 (by decide) (fun c27 => ?_) (fun c27 => ?_)
    · refine r_iconst (0) dX1_leads_34 (by decide) ?_
      exact r_iret (Or.inr ⟨rfl, by first | exact Or.inl rfl | exact Or.inr rfl⟩) dX1_leads_35 ⟨by simp [*], rfl⟩
    · refine r_iconst (1) dX1_leads_30 (by decide) ?_
      refine r_goto 35 dX1_leads_31 (by decide) ?_
      exact r_iret (Or.inr ⟨rfl, by first | exact Or.inl rfl | exact Or.inr rfl⟩) dX1_leads_35 ⟨by simp [*], rfl⟩
set_option maxHeartbeats 4000000 in
set_option maxRecDepth 100000 in
theorem c_X1_message {l : Launch} {X : Nat × (Nat → Int32)} {M : am_M} (hL : Lay M) {a t k va p q r : Nat} (hva : am_ok M va 7 0) (hp : mR M va 0 = some p) (hq : mR M va 1 = some q) (hr : mR M va 2 = some r) (hpo : am_ok M p 10 16) (hqo : am_ok M q 10 16) (hro : am_ok M r 11 16) (ha : a < 40) (ht : mI M 5 a = nI t) (ht2 : t < 16) (hk0 : mI M 2 7 = nI k) (hk : k ≤ 3) : am_F l yX1_message cX1_message 5 (some .int) 1 0 0 X [.ref 2, .int (nI a), .ref va] M (some (.int (t_msg k (mI M p t) (mI M 7 a)))) (M) := by
  refine am_C.of (by decide) (by simp [Value.category, va_rf]) (Nat.le_of_ble_eq_true rfl) ?_
  refine r_aload_n dX1_message_0 rfl ?_
  refine r_getF kX7 (k := 0) (by decide) rfl fl_X1_37 hva hp dX1_message_1 ?_
  refine r_aload_n dX1_message_4 rfl ?_
  refine r_getF kX1 (k := 2) (by decide) rfl fl_X1_18 (lay_ok hL rfl) (lay_r hL rfl) dX1_message_5 ?_
  refine r_iload_n dX1_message_8 rfl ?_
  refine r_ialdE (nI t) (lay_ok hL rfl) (by omega) (by decide) dX1_message_9 ht ?_
  refine r_ialdN hpo (by omega) (by decide) dX1_message_10 ?_
  refine r_istore_n _ dX1_message_11 (by decide) rfl ?_
  refine r_aload_n dX1_message_12 rfl ?_
  refine r_getF kX1 (k := 4) (by decide) rfl fl_X1_24 (lay_ok hL rfl) (lay_r hL rfl) dX1_message_13 ?_
  refine r_iload_n dX1_message_16 rfl ?_
  refine r_ialdN (lay_ok hL rfl) (by omega) (by decide) dX1_message_17 ?_
  refine r_istore _ dX1_message_18 (by decide) rfl ?_
  refine r_aload_n dX1_message_20 rfl ?_
  refine r_getE (nI k) kX1 (k := 7) (by decide) rfl fl_X1_34 (lay_ok hL rfl) dX1_message_21 hk0 ?_
  rcases (lt4 hk) with rfl | rfl | rfl | rfl
  · refine r_lookup 64 dX1_message_24 (by decide) (off := 40) (by decide) (by decide) ?_
    refine r_iload_n dX1_message_64 rfl ?_
    refine r_iload dX1_message_65 rfl ?_
    refine r_iadd dX1_message_67 ?_
    exact r_iret (Or.inl rfl) dX1_message_68 ⟨rfl, rfl⟩
  · refine r_lookup 52 dX1_message_24 (by decide) (off := 28) (by decide) (by decide) ?_
    refine r_iload_n dX1_message_52 rfl ?_
    refine r_iload dX1_message_53 rfl ?_
    refine r_mmin ml_X1_42 sm_yJ9_min_7cf53 ini_J9 co_min ⟨by decide, by decide⟩ dX1_message_55 ?_
    exact r_iret (Or.inl rfl) dX1_message_58 ⟨rfl, rfl⟩
  · refine r_lookup 59 dX1_message_24 (by decide) (off := 35) (by decide) (by decide) ?_
    refine r_iload_n dX1_message_59 rfl ?_
    refine r_iload dX1_message_60 rfl ?_
    refine r_imul dX1_message_62 ?_
    exact r_iret (Or.inl rfl) dX1_message_63 ⟨rfl, rfl⟩
  · refine r_lookup 64 dX1_message_24 (by decide) (off := 40) (by decide) (by decide) ?_
    refine r_iload_n dX1_message_64 rfl ?_
    refine r_iload dX1_message_65 rfl ?_
    refine r_iadd dX1_message_67 ?_
    exact r_iret (Or.inl rfl) dX1_message_68 ⟨rfl, rfl⟩
set_option maxHeartbeats 4000000 in
set_option maxRecDepth 100000 in
theorem c_X7_begin {l : Launch} {X : Nat × (Nat → Int32)} {M : am_M} (hL : Lay M) {va p q r v : Nat} {x : Int32} (hva : am_ok M va 7 0) (hp : mR M va 0 = some p) (hq : mR M va 1 = some q) (hr : mR M va 2 = some r) (hpo : am_ok M p 10 16) (hqo : am_ok M q 10 16) (hro : am_ok M r 11 16) (hv : v < 16) : am_F l yX7_begin cX7_begin 3 (none) 0 0 0 X [.ref va, .int (nI v), .int x] M (none) (wI (wI (wI M p v x) q v 0) r v 1) := by
  refine am_C.of (by decide) (by simp [Value.category, va_rf]) (Nat.le_of_ble_eq_true rfl) ?_
  refine r_aload_n dX7_begin_0 rfl ?_
  refine r_getF kX7 (k := 0) (by decide) rfl fl_X7_9 hva hp dX7_begin_1 ?_
  refine r_iload_n dX7_begin_4 rfl ?_
  refine r_iload_n dX7_begin_5 rfl ?_
  refine r_iastN hpo (by omega) (by decide) dX7_begin_6 ?_
  refine r_lay (lay_wI hL _ _ _) (fun hL => ?_)
  refine r_aload_n dX7_begin_7 rfl ?_
  refine r_getF kX7 (k := 1) (by decide) rfl fl_X7_15 hva hq dX7_begin_8 ?_
  refine r_iload_n dX7_begin_11 rfl ?_
  refine r_iconst (0) dX7_begin_12 (by decide) ?_
  refine r_iastN hqo (by omega) (by decide) dX7_begin_13 ?_
  refine r_lay (lay_wI hL _ _ _) (fun hL => ?_)
  refine r_aload_n dX7_begin_14 rfl ?_
  refine r_getF kX7 (k := 2) (by decide) rfl fl_X7_18 hva hr dX7_begin_15 ?_
  refine r_iload_n dX7_begin_18 rfl ?_
  refine r_iconst (1) dX7_begin_19 (by decide) ?_
  refine r_zastN hro (by omega) (by decide) (by decide) dX7_begin_20 ?_
  refine r_lay (lay_wI hL _ _ _) (fun hL => ?_)
  exact r_vret rfl dX7_begin_21 ⟨rfl, rfl⟩
set_option maxHeartbeats 4000000 in
set_option maxRecDepth 100000 in
theorem c_X7_copyVertex {l : Launch} {X : Nat × (Nat → Int32)} {M : am_M} (hL : Lay M) {va p q r vb p2 q2 r2 v : Nat} (hva : am_ok M va 7 0) (hp : mR M va 0 = some p) (hq : mR M va 1 = some q) (hr : mR M va 2 = some r) (hpo : am_ok M p 10 16) (hqo : am_ok M q 10 16) (hro : am_ok M r 11 16) (hvb : am_ok M vb 7 0) (hp2 : mR M vb 0 = some p2) (hq2 : mR M vb 1 = some q2) (hr2 : mR M vb 2 = some r2) (hpo2 : am_ok M p2 10 16) (hqo2 : am_ok M q2 10 16) (hro2 : am_ok M r2 11 16) (hv : v < 16) (h1 : q2 ≠ p) (h2 : r2 ≠ p) (h3 : r2 ≠ q) (h01 : mI M r2 v = 0 ∨ mI M r2 v = 1) : am_F l yX7_copyVertex cX7_copyVertex 3 (none) 0 0 0 X [.ref va, .int (nI v), .ref vb] M (none) (wI (wI (wI M p v (mI M p2 v)) q v (mI M q2 v)) r v (mI M r2 v)) := by
  refine am_C.of (by decide) (by simp [Value.category, va_rf]) (Nat.le_of_ble_eq_true rfl) ?_
  refine r_aload_n dX7_copyVertex_0 rfl ?_
  refine r_getF kX7 (k := 0) (by decide) rfl fl_X7_9 hva hp dX7_copyVertex_1 ?_
  refine r_iload_n dX7_copyVertex_4 rfl ?_
  refine r_aload_n dX7_copyVertex_5 rfl ?_
  refine r_getF kX7 (k := 0) (by decide) rfl fl_X7_9 hvb hp2 dX7_copyVertex_6 ?_
  refine r_iload_n dX7_copyVertex_9 rfl ?_
  refine r_ialdN hpo2 (by omega) (by decide) dX7_copyVertex_10 ?_
  refine r_iastN hpo (by omega) (by decide) dX7_copyVertex_11 ?_
  refine r_lay (lay_wI hL _ _ _) (fun hL => ?_)
  refine r_aload_n dX7_copyVertex_12 rfl ?_
  refine r_getF kX7 (k := 1) (by decide) rfl fl_X7_15 hva hq dX7_copyVertex_13 ?_
  refine r_iload_n dX7_copyVertex_16 rfl ?_
  refine r_aload_n dX7_copyVertex_17 rfl ?_
  refine r_getF kX7 (k := 1) (by decide) rfl fl_X7_15 hvb hq2 dX7_copyVertex_18 ?_
  refine r_iload_n dX7_copyVertex_21 rfl ?_
  refine r_ialdE (mI M q2 v) hqo2 (by omega) (by decide) dX7_copyVertex_22 (by rw [mI_wI_n _ _ _ h1]) ?_
  refine r_iastN hqo (by omega) (by decide) dX7_copyVertex_23 ?_
  refine r_lay (lay_wI hL _ _ _) (fun hL => ?_)
  refine r_aload_n dX7_copyVertex_24 rfl ?_
  refine r_getF kX7 (k := 2) (by decide) rfl fl_X7_18 hva hr dX7_copyVertex_25 ?_
  refine r_iload_n dX7_copyVertex_28 rfl ?_
  refine r_aload_n dX7_copyVertex_29 rfl ?_
  refine r_getF kX7 (k := 2) (by decide) rfl fl_X7_18 hvb hr2 dX7_copyVertex_30 ?_
  refine r_iload_n dX7_copyVertex_33 rfl ?_
  refine r_zaldE (mI M r2 v) hro2 (by omega) (by decide) dX7_copyVertex_34 (by rw [mI_wI_n _ _ _ h3, mI_wI_n _ _ _ h2]) ?_
  refine r_zastN hro (by omega) (by decide) h01 dX7_copyVertex_35 ?_
  refine r_lay (lay_wI hL _ _ _) (fun hL => ?_)
  exact r_vret rfl dX7_copyVertex_36 ⟨rfl, rfl⟩
set_option maxHeartbeats 4000000 in
set_option maxRecDepth 100000 in
theorem c_X7_tell {l : Launch} {X : Nat × (Nat → Int32)} {M : am_M} (hL : Lay M) {va p q r v : Nat} {what : Int32} (hva : am_ok M va 7 0) (hp : mR M va 0 = some p) (hq : mR M va 1 = some q) (hr : mR M va 2 = some r) (hpo : am_ok M p 10 16) (hqo : am_ok M q 10 16) (hro : am_ok M r 11 16) (hv : v < 16) : am_F l yX7_tell cX7_tell 3 (some .long) 0 0 0 X [.ref va, .int (nI v), .int what] M (some (.long (if what = 0 then (mI M p v).toInt64 else if what = 1 then (mI M q v).toInt64 else if what = 2 then (if mI M r v = 0 then 0 else 1) else (-9223372036854775808)))) (M) := by
  refine am_C.of (by decide) (by simp [Value.category, va_rf]) (Nat.le_of_ble_eq_true rfl) ?_
  refine r_iload_n dX7_tell_0 rfl ?_
  by_cases w0 : what = 0
  · subst w0
    refine r_tableIn 28 dX7_tell_1 (by decide) (by decide) (off := 27) (by decide) (by decide) ?_
    refine r_aload_n dX7_tell_28 rfl ?_
    refine r_getF kX7 (k := 0) (by decide) rfl fl_X7_9 hva hp dX7_tell_29 ?_
    refine r_iload_n dX7_tell_32 rfl ?_
    refine r_ialdN hpo (by omega) (by decide) dX7_tell_33 ?_
    refine r_i2l dX7_tell_34 ?_
    exact r_lret rfl dX7_tell_35 ⟨by simp [*], rfl⟩
  by_cases w1 : what = 1
  · subst w1
    refine r_tableIn 36 dX7_tell_1 (by decide) (by decide) (off := 35) (by decide) (by decide) ?_
    refine r_aload_n dX7_tell_36 rfl ?_
    refine r_getF kX7 (k := 1) (by decide) rfl fl_X7_15 hva hq dX7_tell_37 ?_
    refine r_iload_n dX7_tell_40 rfl ?_
    refine r_ialdN hqo (by omega) (by decide) dX7_tell_41 ?_
    refine r_i2l dX7_tell_42 ?_
    exact r_lret rfl dX7_tell_43 ⟨by simp [*], rfl⟩
  by_cases w2 : what = 2
  · subst w2
    refine r_tableIn 44 dX7_tell_1 (by decide) (by decide) (off := 43) (by decide) (by decide) ?_
    refine r_aload_n dX7_tell_44 rfl ?_
    refine r_getF kX7 (k := 2) (by decide) rfl fl_X7_18 hva hr dX7_tell_45 ?_
    refine r_iload_n dX7_tell_48 rfl ?_
    refine r_zaldN hro (by omega) (by decide) dX7_tell_49 ?_
    refine r_if_eq 57 dX7_tell_50 (by decide) (fun c50 => ?_) (fun c50 => ?_)
    · refine r_lconst (0) dX7_tell_57 (by decide) ?_
      exact r_lret rfl dX7_tell_58 ⟨by simp [*], rfl⟩
    · refine r_lconst (1) dX7_tell_53 (by decide) ?_
      refine r_goto 58 dX7_tell_54 (by decide) ?_
      exact r_lret rfl dX7_tell_58 ⟨by simp [*], rfl⟩
  refine r_tableOut 59 dX7_tell_1 (by have t0 := lv_neT (a := 0) w0 rfl; have t1 := lv_neT (a := 1) w1 rfl; have t2 := lv_neT (a := 2) w2 rfl; omega) (by decide) ?_
  refine r_ldc2 _ dX7_tell_59 kl_X7_22 ?_
  exact r_lret rfl dX7_tell_62 ⟨by simp [*], rfl⟩
