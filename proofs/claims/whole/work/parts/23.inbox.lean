/-! THE INBOX -/
def x_put (M : am_M) (k v : Nat) (m : Int32) (a : Nat) : am_M := if mI M 17 v = 0 ∨ (k = 3 ∧ mI M 19 v < nI a) then wI (wI (wI M 17 v 1) 18 v m) 19 v (nI a) else if k = 3 then M else wI M 18 v (t_fold k (mI M 18 v) m)
def x_after (M : am_M) (k v : Nat) (x : Int32) : Int32 := if mI M 17 v = 0 then (if k = 2 then 0 else x) else if k = 0 ∨ k = 1 then t_fold k x (mI M 18 v) else mI M 18 v
def x_settle (M : am_M) (k v p q r : Nat) : am_M := if k = 2 then wI (wI (wI M p v (x_after M k v (mI M p v))) q v (mI M q v + x_after M k v (mI M p v))) r v (if x_after M k v (mI M p v) = 0 then 0 else 1) else wI (wI M p v (x_after M k v (mI M p v))) r v (if x_after M k v (mI M p v) = mI M p v then 0 else 1)
set_option maxHeartbeats 4000000 in
set_option maxRecDepth 100000 in
theorem c_X2_put {l : Launch} {X : Nat × (Nat → Int32)} {M : am_M} (hL : Lay M) {k v a : Nat} {m : Int32} (hk : k ≤ 3) (hv : v < 16) : am_F l yX2_put cX2_put 5 (none) 2 0 0 X [.ref 16, .int (nI k), .int (nI v), .int m, .int (nI a)] M (none) (x_put M k v m a) := by
  refine am_C.of (by decide) (by simp [Value.category, va_rf]) (Nat.le_of_ble_eq_true rfl) ?_
  by_cases hk3 : k = 3
  · subst hk3
    refine r_aload_n dX2_put_0 rfl ?_
    refine r_getF kX2 (k := 0) (by decide) rfl fl_X2_9 (lay_ok hL rfl) (lay_r hL rfl) dX2_put_1 ?_
    refine r_iload_n dX2_put_4 rfl ?_
    refine r_zaldN (lay_ok hL rfl) (by omega) (by decide) dX2_put_5 ?_
    refine r_if_eq 25 dX2_put_6 (by decide) (fun c6 => ?_) (fun c6 => ?_)
    · refine r_aload_n dX2_put_25 rfl ?_
      refine r_getF kX2 (k := 0) (by decide) rfl fl_X2_9 (lay_ok hL rfl) (lay_r hL rfl) dX2_put_26 ?_
      refine r_iload_n dX2_put_29 rfl ?_
      refine r_iconst (1) dX2_put_30 (by decide) ?_
      refine r_zastN (lay_ok hL rfl) (by omega) (by decide) (by decide) dX2_put_31 ?_
      refine r_lay (lay_wI hL _ _ _) (fun hL => ?_)
      refine r_aload_n dX2_put_32 rfl ?_
      refine r_getF kX2 (k := 1) (by decide) rfl fl_X2_15 (lay_ok hL rfl) (lay_r hL rfl) dX2_put_33 ?_
      refine r_iload_n dX2_put_36 rfl ?_
      refine r_iload_n dX2_put_37 rfl ?_
      refine r_iastN (lay_ok hL rfl) (by omega) (by decide) dX2_put_38 ?_
      refine r_lay (lay_wI hL _ _ _) (fun hL => ?_)
      refine r_aload_n dX2_put_39 rfl ?_
      refine r_getF kX2 (k := 2) (by decide) rfl fl_X2_19 (lay_ok hL rfl) (lay_r hL rfl) dX2_put_40 ?_
      refine r_iload_n dX2_put_43 rfl ?_
      refine r_iload dX2_put_44 rfl ?_
      refine r_iastN (lay_ok hL rfl) (by omega) (by decide) dX2_put_46 ?_
      refine r_lay (lay_wI hL _ _ _) (fun hL => ?_)
      refine r_goto 72 dX2_put_47 (by decide) ?_
      exact r_vret rfl dX2_put_72 ⟨rfl, by simp [x_put, ← Int32.not_le, *]⟩
    · refine r_iload_n dX2_put_9 rfl ?_
      refine r_iconst (nI 3) dX2_put_10 (by decide) ?_
      refine r_icmp_ne 50 dX2_put_11 (by decide) (fun hq => absurd (by decide) hq) (fun _ => ?_)
      refine r_iload dX2_put_14 rfl ?_
      refine r_aload_n dX2_put_16 rfl ?_
      refine r_getF kX2 (k := 2) (by decide) rfl fl_X2_19 (lay_ok hL rfl) (lay_r hL rfl) dX2_put_17 ?_
      refine r_iload_n dX2_put_20 rfl ?_
      refine r_ialdN (lay_ok hL rfl) (by omega) (by decide) dX2_put_21 ?_
      refine r_icmp_le 50 dX2_put_22 (by decide) (fun c22 => ?_) (fun c22 => ?_)
      · refine r_iload_n dX2_put_50 rfl ?_
        refine r_iconst (nI 3) dX2_put_51 (by decide) ?_
        refine r_icmp_eq 72 dX2_put_52 (by decide) (fun _ => ?_) (fun hq => absurd (by decide) hq)
        exact r_vret rfl dX2_put_72 ⟨rfl, by simp [x_put, ← Int32.not_le, *]⟩
      · refine r_aload_n dX2_put_25 rfl ?_
        refine r_getF kX2 (k := 0) (by decide) rfl fl_X2_9 (lay_ok hL rfl) (lay_r hL rfl) dX2_put_26 ?_
        refine r_iload_n dX2_put_29 rfl ?_
        refine r_iconst (1) dX2_put_30 (by decide) ?_
        refine r_zastN (lay_ok hL rfl) (by omega) (by decide) (by decide) dX2_put_31 ?_
        refine r_lay (lay_wI hL _ _ _) (fun hL => ?_)
        refine r_aload_n dX2_put_32 rfl ?_
        refine r_getF kX2 (k := 1) (by decide) rfl fl_X2_15 (lay_ok hL rfl) (lay_r hL rfl) dX2_put_33 ?_
        refine r_iload_n dX2_put_36 rfl ?_
        refine r_iload_n dX2_put_37 rfl ?_
        refine r_iastN (lay_ok hL rfl) (by omega) (by decide) dX2_put_38 ?_
        refine r_lay (lay_wI hL _ _ _) (fun hL => ?_)
        refine r_aload_n dX2_put_39 rfl ?_
        refine r_getF kX2 (k := 2) (by decide) rfl fl_X2_19 (lay_ok hL rfl) (lay_r hL rfl) dX2_put_40 ?_
        refine r_iload_n dX2_put_43 rfl ?_
        refine r_iload dX2_put_44 rfl ?_
        refine r_iastN (lay_ok hL rfl) (by omega) (by decide) dX2_put_46 ?_
        refine r_lay (lay_wI hL _ _ _) (fun hL => ?_)
        refine r_goto 72 dX2_put_47 (by decide) ?_
        exact r_vret rfl dX2_put_72 ⟨rfl, by simp [x_put, ← Int32.not_le, *]⟩
  · have hk4 : ¬ nI k = nI 3 := fun h => hk3 ((nI_eq (by omega) (by omega)).mp h)
    refine r_aload_n dX2_put_0 rfl ?_
    refine r_getF kX2 (k := 0) (by decide) rfl fl_X2_9 (lay_ok hL rfl) (lay_r hL rfl) dX2_put_1 ?_
    refine r_iload_n dX2_put_4 rfl ?_
    refine r_zaldN (lay_ok hL rfl) (by omega) (by decide) dX2_put_5 ?_
    refine r_if_eq 25 dX2_put_6 (by decide) (fun c6 => ?_) (fun c6 => ?_)
    · refine r_aload_n dX2_put_25 rfl ?_
      refine r_getF kX2 (k := 0) (by decide) rfl fl_X2_9 (lay_ok hL rfl) (lay_r hL rfl) dX2_put_26 ?_
      refine r_iload_n dX2_put_29 rfl ?_
      refine r_iconst (1) dX2_put_30 (by decide) ?_
      refine r_zastN (lay_ok hL rfl) (by omega) (by decide) (by decide) dX2_put_31 ?_
      refine r_lay (lay_wI hL _ _ _) (fun hL => ?_)
      refine r_aload_n dX2_put_32 rfl ?_
      refine r_getF kX2 (k := 1) (by decide) rfl fl_X2_15 (lay_ok hL rfl) (lay_r hL rfl) dX2_put_33 ?_
      refine r_iload_n dX2_put_36 rfl ?_
      refine r_iload_n dX2_put_37 rfl ?_
      refine r_iastN (lay_ok hL rfl) (by omega) (by decide) dX2_put_38 ?_
      refine r_lay (lay_wI hL _ _ _) (fun hL => ?_)
      refine r_aload_n dX2_put_39 rfl ?_
      refine r_getF kX2 (k := 2) (by decide) rfl fl_X2_19 (lay_ok hL rfl) (lay_r hL rfl) dX2_put_40 ?_
      refine r_iload_n dX2_put_43 rfl ?_
      refine r_iload dX2_put_44 rfl ?_
      refine r_iastN (lay_ok hL rfl) (by omega) (by decide) dX2_put_46 ?_
      refine r_lay (lay_wI hL _ _ _) (fun hL => ?_)
      refine r_goto 72 dX2_put_47 (by decide) ?_
      exact r_vret rfl dX2_put_72 ⟨rfl, by simp [x_put, ← Int32.not_le, *]⟩
    · refine r_iload_n dX2_put_9 rfl ?_
      refine r_iconst (nI 3) dX2_put_10 (by decide) ?_
      refine r_icmp_ne 50 dX2_put_11 (by decide) (fun _ => ?_) (fun hq => absurd hq hk4)
      refine r_iload_n dX2_put_50 rfl ?_
      refine r_iconst (nI 3) dX2_put_51 (by decide) ?_
      refine r_icmp_eq 72 dX2_put_52 (by decide) (fun hq => absurd hq hk4) (fun _ => ?_)
      refine r_aload_n dX2_put_55 rfl ?_
      refine r_getF kX2 (k := 1) (by decide) rfl fl_X2_15 (lay_ok hL rfl) (lay_r hL rfl) dX2_put_56 ?_
      refine r_iload_n dX2_put_59 rfl ?_
      refine r_iload_n dX2_put_60 rfl ?_
      refine r_aload_n dX2_put_61 rfl ?_
      refine r_getF kX2 (k := 1) (by decide) rfl fl_X2_15 (lay_ok hL rfl) (lay_r hL rfl) dX2_put_62 ?_
      refine r_iload_n dX2_put_65 rfl ?_
      refine r_ialdN (lay_ok hL rfl) (by omega) (by decide) dX2_put_66 ?_
      refine r_iload_n dX2_put_67 rfl ?_
      refine r_cSN ca_yX8_fold nl_X2_22 sm_yX8_fold (c_X8_fold hL hk) ⟨by decide, by decide⟩ (by decide) (by decide) rfl (Nat.le_of_ble_eq_true rfl) dX2_put_68 ?_
      refine r_iastN (lay_ok hL rfl) (by omega) (by decide) dX2_put_71 ?_
      refine r_lay (lay_wI hL _ _ _) (fun hL => ?_)
      exact r_vret rfl dX2_put_72 ⟨rfl, by simp [x_put, ← Int32.not_le, *]⟩
set_option maxHeartbeats 4000000 in
set_option maxRecDepth 100000 in
theorem c_X2_valueAfter {l : Launch} {X : Nat × (Nat → Int32)} {M : am_M} (hL : Lay M) {k v : Nat} {x : Int32} (hk : k ≤ 3) (hv : v < 16) : am_F l yX2_valueAfter cX2_valueAfter 5 (some .int) 2 0 0 X [.ref 16, .int (nI k), .int (nI v), .int x] M (some (.int (x_after M k v x))) (M) := by
  refine am_C.of (by decide) (by simp [Value.category, va_rf]) (Nat.le_of_ble_eq_true rfl) ?_
  rcases lt4 hk with rfl | rfl | rfl | rfl
  · refine r_aload_n dX2_valueAfter_0 rfl ?_
    refine r_getF kX2 (k := 0) (by decide) rfl fl_X2_9 (lay_ok hL rfl) (lay_r hL rfl) dX2_valueAfter_1 ?_
    refine r_iload_n dX2_valueAfter_4 rfl ?_
    refine r_zaldN (lay_ok hL rfl) (by omega) (by decide) dX2_valueAfter_5 ?_
    refine r_if_ne 20 dX2_valueAfter_6 (by decide) (fun c6 => ?_) (fun c6 => ?_)
    · refine r_iload_n dX2_valueAfter_20 rfl ?_
      refine r_if_eq 29 dX2_valueAfter_21 (by decide) (fun _ => ?_) (fun hq => absurd (by decide) hq)
      refine r_iconst (1) dX2_valueAfter_29 (by decide) ?_
      refine r_goto 34 dX2_valueAfter_30 (by decide) ?_
      refine r_istore _ dX2_valueAfter_34 (by decide) rfl ?_
      refine r_iload dX2_valueAfter_36 rfl ?_
      refine r_if_eq 55 dX2_valueAfter_38 (by decide) (fun hq => absurd hq (by decide)) (fun _ => ?_)
      refine r_iload_n dX2_valueAfter_41 rfl ?_
      refine r_iload_n dX2_valueAfter_42 rfl ?_
      refine r_aload_n dX2_valueAfter_43 rfl ?_
      refine r_getF kX2 (k := 1) (by decide) rfl fl_X2_15 (lay_ok hL rfl) (lay_r hL rfl) dX2_valueAfter_44 ?_
      refine r_iload_n dX2_valueAfter_47 rfl ?_
      refine r_ialdN (lay_ok hL rfl) (by omega) (by decide) dX2_valueAfter_48 ?_
      refine r_cSN ca_yX8_fold nl_X2_22 sm_yX8_fold (c_X8_fold hL (k := 0) (by decide)) ⟨by decide, by decide⟩ (by decide) (by decide) rfl (Nat.le_of_ble_eq_true rfl) dX2_valueAfter_49 ?_
      refine r_goto 61 dX2_valueAfter_52 (by decide) ?_
      exact r_iret (Or.inl rfl) dX2_valueAfter_61 ⟨by simp [x_after, c6], rfl⟩
    · refine r_iload_n dX2_valueAfter_9 rfl ?_
      refine r_iconst (2) dX2_valueAfter_10 (by decide) ?_
      refine r_icmp_ne 18 dX2_valueAfter_11 (by decide) (fun _ => ?_) (fun hq => absurd hq (by decide))
      refine r_iload_n dX2_valueAfter_18 rfl ?_
      exact r_iret (Or.inl rfl) dX2_valueAfter_19 ⟨by simp [x_after, c6], rfl⟩
  · refine r_aload_n dX2_valueAfter_0 rfl ?_
    refine r_getF kX2 (k := 0) (by decide) rfl fl_X2_9 (lay_ok hL rfl) (lay_r hL rfl) dX2_valueAfter_1 ?_
    refine r_iload_n dX2_valueAfter_4 rfl ?_
    refine r_zaldN (lay_ok hL rfl) (by omega) (by decide) dX2_valueAfter_5 ?_
    refine r_if_ne 20 dX2_valueAfter_6 (by decide) (fun c6 => ?_) (fun c6 => ?_)
    · refine r_iload_n dX2_valueAfter_20 rfl ?_
      refine r_if_eq 29 dX2_valueAfter_21 (by decide) (fun hq => absurd hq (by decide)) (fun _ => ?_)
      refine r_iload_n dX2_valueAfter_24 rfl ?_
      refine r_iconst (1) dX2_valueAfter_25 (by decide) ?_
      refine r_icmp_ne 33 dX2_valueAfter_26 (by decide) (fun hq => absurd (by decide) hq) (fun _ => ?_)
      refine r_iconst (1) dX2_valueAfter_29 (by decide) ?_
      refine r_goto 34 dX2_valueAfter_30 (by decide) ?_
      refine r_istore _ dX2_valueAfter_34 (by decide) rfl ?_
      refine r_iload dX2_valueAfter_36 rfl ?_
      refine r_if_eq 55 dX2_valueAfter_38 (by decide) (fun hq => absurd hq (by decide)) (fun _ => ?_)
      refine r_iload_n dX2_valueAfter_41 rfl ?_
      refine r_iload_n dX2_valueAfter_42 rfl ?_
      refine r_aload_n dX2_valueAfter_43 rfl ?_
      refine r_getF kX2 (k := 1) (by decide) rfl fl_X2_15 (lay_ok hL rfl) (lay_r hL rfl) dX2_valueAfter_44 ?_
      refine r_iload_n dX2_valueAfter_47 rfl ?_
      refine r_ialdN (lay_ok hL rfl) (by omega) (by decide) dX2_valueAfter_48 ?_
      refine r_cSN ca_yX8_fold nl_X2_22 sm_yX8_fold (c_X8_fold hL (k := 1) (by decide)) ⟨by decide, by decide⟩ (by decide) (by decide) rfl (Nat.le_of_ble_eq_true rfl) dX2_valueAfter_49 ?_
      refine r_goto 61 dX2_valueAfter_52 (by decide) ?_
      exact r_iret (Or.inl rfl) dX2_valueAfter_61 ⟨by simp [x_after, c6], rfl⟩
    · refine r_iload_n dX2_valueAfter_9 rfl ?_
      refine r_iconst (2) dX2_valueAfter_10 (by decide) ?_
      refine r_icmp_ne 18 dX2_valueAfter_11 (by decide) (fun _ => ?_) (fun hq => absurd hq (by decide))
      refine r_iload_n dX2_valueAfter_18 rfl ?_
      exact r_iret (Or.inl rfl) dX2_valueAfter_19 ⟨by simp [x_after, c6], rfl⟩
  · refine r_aload_n dX2_valueAfter_0 rfl ?_
    refine r_getF kX2 (k := 0) (by decide) rfl fl_X2_9 (lay_ok hL rfl) (lay_r hL rfl) dX2_valueAfter_1 ?_
    refine r_iload_n dX2_valueAfter_4 rfl ?_
    refine r_zaldN (lay_ok hL rfl) (by omega) (by decide) dX2_valueAfter_5 ?_
    refine r_if_ne 20 dX2_valueAfter_6 (by decide) (fun c6 => ?_) (fun c6 => ?_)
    · refine r_iload_n dX2_valueAfter_20 rfl ?_
      refine r_if_eq 29 dX2_valueAfter_21 (by decide) (fun hq => absurd hq (by decide)) (fun _ => ?_)
      refine r_iload_n dX2_valueAfter_24 rfl ?_
      refine r_iconst (1) dX2_valueAfter_25 (by decide) ?_
      refine r_icmp_ne 33 dX2_valueAfter_26 (by decide) (fun _ => ?_) (fun hq => absurd hq (by decide))
      refine r_iconst (0) dX2_valueAfter_33 (by decide) ?_
      refine r_istore _ dX2_valueAfter_34 (by decide) rfl ?_
      refine r_iload dX2_valueAfter_36 rfl ?_
      refine r_if_eq 55 dX2_valueAfter_38 (by decide) (fun _ => ?_) (fun hq => absurd (by decide) hq)
      refine r_aload_n dX2_valueAfter_55 rfl ?_
      refine r_getF kX2 (k := 1) (by decide) rfl fl_X2_15 (lay_ok hL rfl) (lay_r hL rfl) dX2_valueAfter_56 ?_
      refine r_iload_n dX2_valueAfter_59 rfl ?_
      refine r_ialdN (lay_ok hL rfl) (by omega) (by decide) dX2_valueAfter_60 ?_
      exact r_iret (Or.inl rfl) dX2_valueAfter_61 ⟨by simp [x_after, c6], rfl⟩
    · refine r_iload_n dX2_valueAfter_9 rfl ?_
      refine r_iconst (2) dX2_valueAfter_10 (by decide) ?_
      refine r_icmp_ne 18 dX2_valueAfter_11 (by decide) (fun hq => absurd (by decide) hq) (fun _ => ?_)
      refine r_iconst (0) dX2_valueAfter_14 (by decide) ?_
      refine r_goto 19 dX2_valueAfter_15 (by decide) ?_
      exact r_iret (Or.inl rfl) dX2_valueAfter_19 ⟨by simp [x_after, c6], rfl⟩
  · refine r_aload_n dX2_valueAfter_0 rfl ?_
    refine r_getF kX2 (k := 0) (by decide) rfl fl_X2_9 (lay_ok hL rfl) (lay_r hL rfl) dX2_valueAfter_1 ?_
    refine r_iload_n dX2_valueAfter_4 rfl ?_
    refine r_zaldN (lay_ok hL rfl) (by omega) (by decide) dX2_valueAfter_5 ?_
    refine r_if_ne 20 dX2_valueAfter_6 (by decide) (fun c6 => ?_) (fun c6 => ?_)
    · refine r_iload_n dX2_valueAfter_20 rfl ?_
      refine r_if_eq 29 dX2_valueAfter_21 (by decide) (fun hq => absurd hq (by decide)) (fun _ => ?_)
      refine r_iload_n dX2_valueAfter_24 rfl ?_
      refine r_iconst (1) dX2_valueAfter_25 (by decide) ?_
      refine r_icmp_ne 33 dX2_valueAfter_26 (by decide) (fun _ => ?_) (fun hq => absurd hq (by decide))
      refine r_iconst (0) dX2_valueAfter_33 (by decide) ?_
      refine r_istore _ dX2_valueAfter_34 (by decide) rfl ?_
      refine r_iload dX2_valueAfter_36 rfl ?_
      refine r_if_eq 55 dX2_valueAfter_38 (by decide) (fun _ => ?_) (fun hq => absurd (by decide) hq)
      refine r_aload_n dX2_valueAfter_55 rfl ?_
      refine r_getF kX2 (k := 1) (by decide) rfl fl_X2_15 (lay_ok hL rfl) (lay_r hL rfl) dX2_valueAfter_56 ?_
      refine r_iload_n dX2_valueAfter_59 rfl ?_
      refine r_ialdN (lay_ok hL rfl) (by omega) (by decide) dX2_valueAfter_60 ?_
      exact r_iret (Or.inl rfl) dX2_valueAfter_61 ⟨by simp [x_after, c6], rfl⟩
    · refine r_iload_n dX2_valueAfter_9 rfl ?_
      refine r_iconst (2) dX2_valueAfter_10 (by decide) ?_
      refine r_icmp_ne 18 dX2_valueAfter_11 (by decide) (fun _ => ?_) (fun hq => absurd hq (by decide))
      refine r_iload_n dX2_valueAfter_18 rfl ?_
      exact r_iret (Or.inl rfl) dX2_valueAfter_19 ⟨by simp [x_after, c6], rfl⟩
set_option maxHeartbeats 4000000 in
set_option maxRecDepth 100000 in
theorem c_X2_settle {l : Launch} {X : Nat × (Nat → Int32)} {M : am_M} (hL : Lay M) {k v va p q r : Nat} (hva : am_ok M va 7 0) (hp : mR M va 0 = some p) (hq : mR M va 1 = some q) (hr : mR M va 2 = some r) (hpo : am_ok M p 10 16) (hqo : am_ok M q 10 16) (hro : am_ok M r 11 16) (hk : k ≤ 3) (hv : v < 16) (h1 : q ≠ p) : am_F l yX2_settle cX2_settle 6 (none) 3 0 0 X [.ref 16, .int (nI k), .int (nI v), .ref va] M (none) (x_settle M k v p q r) := by
  refine am_C.of (by decide) (by simp [Value.category, va_rf]) (Nat.le_of_ble_eq_true rfl) ?_
  rcases lt4 hk with rfl | rfl | rfl | rfl
  · refine r_aload_n dX2_settle_0 rfl ?_
    refine r_getF kX7 (k := 0) (by decide) rfl fl_X2_41 hva hp dX2_settle_1 ?_
    refine r_iload_n dX2_settle_4 rfl ?_
    refine r_ialdN hpo (by omega) (by decide) dX2_settle_5 ?_
    refine r_istore _ dX2_settle_6 (by decide) rfl ?_
    refine r_aload_n dX2_settle_8 rfl ?_
    refine r_iload_n dX2_settle_9 rfl ?_
    refine r_iload_n dX2_settle_10 rfl ?_
    refine r_iload dX2_settle_11 rfl ?_
    refine r_cV ca_yX2_valueAfter ml_X2_46 im_yX2_valueAfter se_yX2_valueAfter (by decide) rfl (lay_ok hL rfl) (c_X2_valueAfter hL (k := 0) (by decide) hv) ⟨by decide, by decide⟩ (by decide) (by decide) rfl (Nat.le_of_ble_eq_true rfl) dX2_settle_13 ?_
    refine r_istore _ dX2_settle_16 (by decide) rfl ?_
    refine r_aload_n dX2_settle_18 rfl ?_
    refine r_getF kX7 (k := 0) (by decide) rfl fl_X2_41 hva hp dX2_settle_19 ?_
    refine r_iload_n dX2_settle_22 rfl ?_
    refine r_iload dX2_settle_23 rfl ?_
    refine r_iastN hpo (by omega) (by decide) dX2_settle_25 ?_
    refine r_lay (lay_wI hL _ _ _) (fun hL => ?_)
    refine r_iload_n dX2_settle_26 rfl ?_
    refine r_iconst (2) dX2_settle_27 (by decide) ?_
    refine r_icmp_ne 61 dX2_settle_28 (by decide) (fun _ => ?_) (fun hq => absurd hq (by decide))
    refine r_aload_n dX2_settle_61 rfl ?_
    refine r_getF kX7 (k := 2) (by decide) rfl fl_X2_52 hva hr dX2_settle_62 ?_
    refine r_iload_n dX2_settle_65 rfl ?_
    refine r_iload dX2_settle_66 rfl ?_
    refine r_iload dX2_settle_68 rfl ?_
    refine r_icmp_eq 77 dX2_settle_70 (by decide) (fun c70 => ?_) (fun c70 => ?_)
    · refine r_iconst (0) dX2_settle_77 (by decide) ?_
      refine r_zastN hro (by omega) (by decide) (by decide) dX2_settle_78 ?_
      refine r_lay (lay_wI hL _ _ _) (fun hL => ?_)
      exact r_vret rfl dX2_settle_79 ⟨rfl, by simp [x_settle, *]⟩
    · refine r_iconst (1) dX2_settle_73 (by decide) ?_
      refine r_goto 78 dX2_settle_74 (by decide) ?_
      refine r_zastN hro (by omega) (by decide) (by decide) dX2_settle_78 ?_
      refine r_lay (lay_wI hL _ _ _) (fun hL => ?_)
      exact r_vret rfl dX2_settle_79 ⟨rfl, by simp [x_settle, *]⟩
  · refine r_aload_n dX2_settle_0 rfl ?_
    refine r_getF kX7 (k := 0) (by decide) rfl fl_X2_41 hva hp dX2_settle_1 ?_
    refine r_iload_n dX2_settle_4 rfl ?_
    refine r_ialdN hpo (by omega) (by decide) dX2_settle_5 ?_
    refine r_istore _ dX2_settle_6 (by decide) rfl ?_
    refine r_aload_n dX2_settle_8 rfl ?_
    refine r_iload_n dX2_settle_9 rfl ?_
    refine r_iload_n dX2_settle_10 rfl ?_
    refine r_iload dX2_settle_11 rfl ?_
    refine r_cV ca_yX2_valueAfter ml_X2_46 im_yX2_valueAfter se_yX2_valueAfter (by decide) rfl (lay_ok hL rfl) (c_X2_valueAfter hL (k := 1) (by decide) hv) ⟨by decide, by decide⟩ (by decide) (by decide) rfl (Nat.le_of_ble_eq_true rfl) dX2_settle_13 ?_
    refine r_istore _ dX2_settle_16 (by decide) rfl ?_
    refine r_aload_n dX2_settle_18 rfl ?_
    refine r_getF kX7 (k := 0) (by decide) rfl fl_X2_41 hva hp dX2_settle_19 ?_
    refine r_iload_n dX2_settle_22 rfl ?_
    refine r_iload dX2_settle_23 rfl ?_
    refine r_iastN hpo (by omega) (by decide) dX2_settle_25 ?_
    refine r_lay (lay_wI hL _ _ _) (fun hL => ?_)
    refine r_iload_n dX2_settle_26 rfl ?_
    refine r_iconst (2) dX2_settle_27 (by decide) ?_
    refine r_icmp_ne 61 dX2_settle_28 (by decide) (fun _ => ?_) (fun hq => absurd hq (by decide))
    refine r_aload_n dX2_settle_61 rfl ?_
    refine r_getF kX7 (k := 2) (by decide) rfl fl_X2_52 hva hr dX2_settle_62 ?_
    refine r_iload_n dX2_settle_65 rfl ?_
    refine r_iload dX2_settle_66 rfl ?_
    refine r_iload dX2_settle_68 rfl ?_
    refine r_icmp_eq 77 dX2_settle_70 (by decide) (fun c70 => ?_) (fun c70 => ?_)
    · refine r_iconst (0) dX2_settle_77 (by decide) ?_
      refine r_zastN hro (by omega) (by decide) (by decide) dX2_settle_78 ?_
      refine r_lay (lay_wI hL _ _ _) (fun hL => ?_)
      exact r_vret rfl dX2_settle_79 ⟨rfl, by simp [x_settle, *]⟩
    · refine r_iconst (1) dX2_settle_73 (by decide) ?_
      refine r_goto 78 dX2_settle_74 (by decide) ?_
      refine r_zastN hro (by omega) (by decide) (by decide) dX2_settle_78 ?_
      refine r_lay (lay_wI hL _ _ _) (fun hL => ?_)
      exact r_vret rfl dX2_settle_79 ⟨rfl, by simp [x_settle, *]⟩
  · refine r_aload_n dX2_settle_0 rfl ?_
    refine r_getF kX7 (k := 0) (by decide) rfl fl_X2_41 hva hp dX2_settle_1 ?_
    refine r_iload_n dX2_settle_4 rfl ?_
    refine r_ialdN hpo (by omega) (by decide) dX2_settle_5 ?_
    refine r_istore _ dX2_settle_6 (by decide) rfl ?_
    refine r_aload_n dX2_settle_8 rfl ?_
    refine r_iload_n dX2_settle_9 rfl ?_
    refine r_iload_n dX2_settle_10 rfl ?_
    refine r_iload dX2_settle_11 rfl ?_
    refine r_cV ca_yX2_valueAfter ml_X2_46 im_yX2_valueAfter se_yX2_valueAfter (by decide) rfl (lay_ok hL rfl) (c_X2_valueAfter hL (k := 2) (by decide) hv) ⟨by decide, by decide⟩ (by decide) (by decide) rfl (Nat.le_of_ble_eq_true rfl) dX2_settle_13 ?_
    refine r_istore _ dX2_settle_16 (by decide) rfl ?_
    refine r_aload_n dX2_settle_18 rfl ?_
    refine r_getF kX7 (k := 0) (by decide) rfl fl_X2_41 hva hp dX2_settle_19 ?_
    refine r_iload_n dX2_settle_22 rfl ?_
    refine r_iload dX2_settle_23 rfl ?_
    refine r_iastN hpo (by omega) (by decide) dX2_settle_25 ?_
    refine r_lay (lay_wI hL _ _ _) (fun hL => ?_)
    refine r_iload_n dX2_settle_26 rfl ?_
    refine r_iconst (2) dX2_settle_27 (by decide) ?_
    refine r_icmp_ne 61 dX2_settle_28 (by decide) (fun hq => absurd (by decide) hq) (fun _ => ?_)
    refine r_aload_n dX2_settle_31 rfl ?_
    refine r_getF kX7 (k := 1) (by decide) rfl fl_X2_49 hva hq dX2_settle_32 ?_
    refine r_iload_n dX2_settle_35 rfl ?_
    refine r_dup2 dX2_settle_36 rfl rfl ?_
    refine r_ialdE (mI M q v) hqo (by omega) (by omega) dX2_settle_37 (by rw [mI_wI_n _ _ _ h1]) ?_
    refine r_iload dX2_settle_38 rfl ?_
    refine r_iadd dX2_settle_40 ?_
    refine r_iastN hqo (by omega) (by decide) dX2_settle_41 ?_
    refine r_lay (lay_wI hL _ _ _) (fun hL => ?_)
    refine r_aload_n dX2_settle_42 rfl ?_
    refine r_getF kX7 (k := 2) (by decide) rfl fl_X2_52 hva hr dX2_settle_43 ?_
    refine r_iload_n dX2_settle_46 rfl ?_
    refine r_iload dX2_settle_47 rfl ?_
    refine r_if_eq 56 dX2_settle_49 (by decide) (fun c49 => ?_) (fun c49 => ?_)
    · refine r_iconst (0) dX2_settle_56 (by decide) ?_
      refine r_zastN hro (by omega) (by decide) (by decide) dX2_settle_57 ?_
      refine r_lay (lay_wI hL _ _ _) (fun hL => ?_)
      refine r_goto 79 dX2_settle_58 (by decide) ?_
      exact r_vret rfl dX2_settle_79 ⟨rfl, by simp [x_settle, *]⟩
    · refine r_iconst (1) dX2_settle_52 (by decide) ?_
      refine r_goto 57 dX2_settle_53 (by decide) ?_
      refine r_zastN hro (by omega) (by decide) (by decide) dX2_settle_57 ?_
      refine r_lay (lay_wI hL _ _ _) (fun hL => ?_)
      refine r_goto 79 dX2_settle_58 (by decide) ?_
      exact r_vret rfl dX2_settle_79 ⟨rfl, by simp [x_settle, *]⟩
  · refine r_aload_n dX2_settle_0 rfl ?_
    refine r_getF kX7 (k := 0) (by decide) rfl fl_X2_41 hva hp dX2_settle_1 ?_
    refine r_iload_n dX2_settle_4 rfl ?_
    refine r_ialdN hpo (by omega) (by decide) dX2_settle_5 ?_
    refine r_istore _ dX2_settle_6 (by decide) rfl ?_
    refine r_aload_n dX2_settle_8 rfl ?_
    refine r_iload_n dX2_settle_9 rfl ?_
    refine r_iload_n dX2_settle_10 rfl ?_
    refine r_iload dX2_settle_11 rfl ?_
    refine r_cV ca_yX2_valueAfter ml_X2_46 im_yX2_valueAfter se_yX2_valueAfter (by decide) rfl (lay_ok hL rfl) (c_X2_valueAfter hL (k := 3) (by decide) hv) ⟨by decide, by decide⟩ (by decide) (by decide) rfl (Nat.le_of_ble_eq_true rfl) dX2_settle_13 ?_
    refine r_istore _ dX2_settle_16 (by decide) rfl ?_
    refine r_aload_n dX2_settle_18 rfl ?_
    refine r_getF kX7 (k := 0) (by decide) rfl fl_X2_41 hva hp dX2_settle_19 ?_
    refine r_iload_n dX2_settle_22 rfl ?_
    refine r_iload dX2_settle_23 rfl ?_
    refine r_iastN hpo (by omega) (by decide) dX2_settle_25 ?_
    refine r_lay (lay_wI hL _ _ _) (fun hL => ?_)
    refine r_iload_n dX2_settle_26 rfl ?_
    refine r_iconst (2) dX2_settle_27 (by decide) ?_
    refine r_icmp_ne 61 dX2_settle_28 (by decide) (fun _ => ?_) (fun hq => absurd hq (by decide))
    refine r_aload_n dX2_settle_61 rfl ?_
    refine r_getF kX7 (k := 2) (by decide) rfl fl_X2_52 hva hr dX2_settle_62 ?_
    refine r_iload_n dX2_settle_65 rfl ?_
    refine r_iload dX2_settle_66 rfl ?_
    refine r_iload dX2_settle_68 rfl ?_
    refine r_icmp_eq 77 dX2_settle_70 (by decide) (fun c70 => ?_) (fun c70 => ?_)
    · refine r_iconst (0) dX2_settle_77 (by decide) ?_
      refine r_zastN hro (by omega) (by decide) (by decide) dX2_settle_78 ?_
      refine r_lay (lay_wI hL _ _ _) (fun hL => ?_)
      exact r_vret rfl dX2_settle_79 ⟨rfl, by simp [x_settle, *]⟩
    · refine r_iconst (1) dX2_settle_73 (by decide) ?_
      refine r_goto 78 dX2_settle_74 (by decide) ?_
      refine r_zastN hro (by omega) (by decide) (by decide) dX2_settle_78 ?_
      refine r_lay (lay_wI hL _ _ _) (fun hL => ?_)
      exact r_vret rfl dX2_settle_79 ⟨rfl, by simp [x_settle, *]⟩
theorem x_put_T (M : am_M) (k v : Nat) (m : Int32) (a : Nat) : mT (x_put M k v m a) = mT M ∧ mN (x_put M k v m a) = mN M ∧ mR (x_put M k v m a) = mR M := by
  unfold x_put
  split
  · exact ⟨rfl, rfl, rfl⟩
  · split <;> exact ⟨rfl, rfl, rfl⟩
theorem x_put_I (M : am_M) (k v : Nat) (m : Int32) (a : Nat) {x : Nat} (h : x ≠ 17 ∧ x ≠ 18 ∧ x ≠ 19) : mI (x_put M k v m a) x = mI M x := by
  unfold x_put
  split
  · rw [mI_wI_n _ _ _ h.2.2, mI_wI_n _ _ _ h.2.1, mI_wI_n _ _ _ h.1]
  · split
    · rfl
    · rw [mI_wI_n _ _ _ h.2.1]
/-- only ints of the cells of S may differ -/
def am_fr (S : Nat → Prop) (M M' : am_M) : Prop := mT M' = mT M ∧ mN M' = mN M ∧ mR M' = mR M ∧ ∀ x, ¬ S x → mI M' x = mI M x
theorem am_fr.rf {S : Nat → Prop} {M : am_M} : am_fr S M M := ⟨rfl, rfl, rfl, fun _ _ => rfl⟩
theorem am_fr.tr {S : Nat → Prop} {M M1 M2 : am_M} (h1 : am_fr S M M1) (h2 : am_fr S M1 M2) : am_fr S M M2 := ⟨h2.1.trans h1.1, h2.2.1.trans h1.2.1, h2.2.2.1.trans h1.2.2.1, fun x hx => (h2.2.2.2 x hx).trans (h1.2.2.2 x hx)⟩
theorem am_fr.wd {S S' : Nat → Prop} {M M1 : am_M} (h1 : am_fr S M M1) (h : ∀ x, S x → S' x) : am_fr S' M M1 := ⟨h1.1, h1.2.1, h1.2.2.1, fun x hx => h1.2.2.2 x (fun q => hx (h x q))⟩
theorem am_fr.lay {S : Nat → Prop} {M M1 : am_M} (h : am_fr S M M1) (hL : Lay M) : Lay M1 := by
  obtain ⟨h1, h2, h3, -⟩ := h
  exact ⟨by rw [h2]; exact hL.1, by rw [h1]; exact hL.2.1, by rw [h3]; exact hL.2.2⟩
theorem am_fr.ok {S : Nat → Prop} {M M1 : am_M} (h : am_fr S M M1) {a t n : Nat} (k : am_ok M a t n) : am_ok M1 a t n := by
  obtain ⟨h1, h2, h3, -⟩ := h
  exact ⟨k.1, by rw [h2]; exact k.2.1, by rw [h1]; exact k.2.2⟩
theorem am_fr.r {S : Nat → Prop} {M M1 : am_M} (h : am_fr S M M1) {a k : Nat} {r : Option Nat} (e : mR M a k = r) : mR M1 a k = r := by rw [h.2.2.1]; exact e
theorem am_fr.i {S : Nat → Prop} {M M1 : am_M} (h : am_fr S M M1) {a k : Nat} {r : Int32} (hs : ¬ S a) (e : mI M a k = r) : mI M1 a k = r := by rw [h.2.2.2 a hs]; exact e
theorem am_fr.itr {S : Nat → Prop} {M : am_M} {f : Nat → am_M → am_M} (h : ∀ i N, am_fr S N (f i N)) : ∀ n, am_fr S M (itr f n M)
  | 0 => am_fr.rf
  | n + 1 => (am_fr.itr h n).tr (h n _)
def s_box (x : Nat) : Prop := x = 17 ∨ x = 18 ∨ x = 19
theorem x_put_fr (M : am_M) (k v : Nat) (m : Int32) (a : Nat) : am_fr s_box M (x_put M k v m a) := ⟨(x_put_T M k v m a).1, (x_put_T M k v m a).2.1, (x_put_T M k v m a).2.2, fun x hx => x_put_I M k v m a ⟨fun h => hx (Or.inl h), fun h => hx (Or.inr (Or.inl h)), fun h => hx (Or.inr (Or.inr h))⟩⟩
set_option maxHeartbeats 4000000 in
set_option maxRecDepth 100000 in
theorem l_X2_putAll {l : Launch} {X : Nat × (Nat → Int32)} {M : am_M} (hL : Lay M) {a0 n0 p q r n k : Nat} (hla : am_ok M a0 3 n0) (hp : mR M a0 5 = some p) (hq : mR M a0 6 = some q) (hr : mR M a0 7 = some r) (hpo : am_ok M p 10 n) (hqo : am_ok M q 10 n) (hro : am_ok M r 10 n) (hP : 126 ≤ p) (hQ : 126 ≤ q) (hR : 126 ≤ r) (hn : n ≤ 40) (hk : k ≤ 3) {ev : Nat → Nat} {ea : Nat → Nat} (hE : ∀ j, j < n → mI M p j = nI (ev j) ∧ ev j < 16 ∧ mI M r j = nI (ea j) ∧ ea j < 40) : ∀ k' i : Nat, i + k' = n → am_V l yX2_putAll cX2_putAll 4 (none) (am_R 3 0 0) 0 0 X (fun v M' => v = none ∧ M' = itr (fun j N => x_put N k (ev j) (mI M q j) (ea j)) n M) 0 0 2 [some (.ref 16), some (.int (nI k)), some (.ref a0), some (.int (nI i))] [] (itr (fun j N => x_put N k (ev j) (mI M q j) (ea j)) i M) := by
  intro k'
  induction k' with
  | zero =>
    intro i hi
    obtain rfl : i = n := by omega
    have hf : am_fr s_box M (itr (fun j N => x_put N k (ev j) (mI M q j) (ea j)) i M) := am_fr.itr (fun j N => x_put_fr N _ _ _ _) i
    have nb : ∀ z, 126 ≤ z → ¬ s_box z := fun z hz h => by rcases h with h | h | h <;> omega
    have hL := hf.lay hL
    have hla := hf.ok hla
    have hp := hf.r hp
    have hq := hf.r hq
    have hr := hf.r hr
    have hpo := hf.ok hpo
    have hqo := hf.ok hqo
    have hro := hf.ok hro
    refine r_iload_n dX2_putAll_2 rfl ?_
    refine r_aload_n dX2_putAll_3 rfl ?_
    refine r_getF kX3 (k := 5) (by decide) rfl fl_X2_26 hla hp dX2_putAll_4 ?_
    refine r_alen (Or.inl rfl) hpo dX2_putAll_7 ?_
    refine r_icmp_ge 40 dX2_putAll_8 (by decide) (fun _ => ?_) (fun hq => absurd (nI_le (Nat.le_refl i) (by omega)) hq)
    exact r_vret rfl dX2_putAll_40 ⟨rfl, rfl⟩
  | succ k' ih =>
    intro i hi
    obtain ⟨e1, e2, e3, e4⟩ := hE i (by omega)
    have hf : am_fr s_box M (itr (fun j N => x_put N k (ev j) (mI M q j) (ea j)) i M) := am_fr.itr (fun j N => x_put_fr N _ _ _ _) i
    have nb : ∀ z, 126 ≤ z → ¬ s_box z := fun z hz h => by rcases h with h | h | h <;> omega
    have hL := hf.lay hL
    have hla := hf.ok hla
    have hp := hf.r hp
    have hq := hf.r hq
    have hr := hf.r hr
    have hpo := hf.ok hpo
    have hqo := hf.ok hqo
    have hro := hf.ok hro
    have e1 := hf.i (nb p hP) e1
    have e3 := hf.i (nb r hR) e3
    have e5 := hf.i (k := i) (nb q hQ) rfl
    refine r_iload_n dX2_putAll_2 rfl ?_
    refine r_aload_n dX2_putAll_3 rfl ?_
    refine r_getF kX3 (k := 5) (by decide) rfl fl_X2_26 hla hp dX2_putAll_4 ?_
    refine r_alen (Or.inl rfl) hpo dX2_putAll_7 ?_
    refine r_icmp_ge 40 dX2_putAll_8 (by decide) (fun hq => absurd hq (nI_ge (by omega) (by omega))) (fun _ => ?_)
    refine r_aload_n dX2_putAll_11 rfl ?_
    refine r_iload_n dX2_putAll_12 rfl ?_
    refine r_aload_n dX2_putAll_13 rfl ?_
    refine r_getF kX3 (k := 5) (by decide) rfl fl_X2_26 hla hp dX2_putAll_14 ?_
    refine r_iload_n dX2_putAll_17 rfl ?_
    refine r_ialdE (nI (ev i)) hpo (by omega) (by omega) dX2_putAll_18 e1 ?_
    refine r_aload_n dX2_putAll_19 rfl ?_
    refine r_getF kX3 (k := 6) (by decide) rfl fl_X2_31 hla hq dX2_putAll_20 ?_
    refine r_iload_n dX2_putAll_23 rfl ?_
    refine r_ialdE (mI M q i) hqo (by omega) (by omega) dX2_putAll_24 e5 ?_
    refine r_aload_n dX2_putAll_25 rfl ?_
    refine r_getF kX3 (k := 7) (by decide) rfl fl_X2_34 hla hr dX2_putAll_26 ?_
    refine r_iload_n dX2_putAll_29 rfl ?_
    refine r_ialdE (nI (ea i)) hro (by omega) (by omega) dX2_putAll_30 e3 ?_
    refine r_cV ca_yX2_put ml_X2_37 im_yX2_put se_yX2_put (by decide) rfl (lay_ok hL rfl) (c_X2_put hL hk e2) ⟨by decide, by decide⟩ (by decide) (by decide) rfl (Nat.le_of_ble_eq_true rfl) dX2_putAll_31 ?_
    refine r_iinc (nI (i + 1)) _ dX2_putAll_34 (by decide) rfl (nI_1 _) rfl ?_
    refine r_goto 2 dX2_putAll_37 (by decide) ?_
    exact ih (i + 1) (by omega)
set_option maxHeartbeats 4000000 in
set_option maxRecDepth 100000 in
theorem c_X2_putAll {l : Launch} {X : Nat × (Nat → Int32)} {M : am_M} (hL : Lay M) {a0 n0 p q r n k : Nat} (hla : am_ok M a0 3 n0) (hp : mR M a0 5 = some p) (hq : mR M a0 6 = some q) (hr : mR M a0 7 = some r) (hpo : am_ok M p 10 n) (hqo : am_ok M q 10 n) (hro : am_ok M r 10 n) (hP : 126 ≤ p) (hQ : 126 ≤ q) (hR : 126 ≤ r) (hn : n ≤ 40) (hk : k ≤ 3) {ev : Nat → Nat} {ea : Nat → Nat} (hE : ∀ j, j < n → mI M p j = nI (ev j) ∧ ev j < 16 ∧ mI M r j = nI (ea j) ∧ ea j < 40)  : am_F l yX2_putAll cX2_putAll 4 (none) 3 0 0 X [.ref 16, .int (nI k), .ref a0] M (none) (itr (fun j N => x_put N k (ev j) (mI M q j) (ea j)) n M) := by
  refine am_C.of (by decide) (by simp [Value.category, va_rf]) (Nat.le_of_ble_eq_true rfl) ?_
  refine r_iconst (nI 0) dX2_putAll_0 (by decide) ?_
  refine r_istore_n _ dX2_putAll_1 (by decide) rfl ?_
  exact l_X2_putAll hL hla hp hq hr hpo hqo hro hP hQ hR hn hk hE n 0 (by omega)
