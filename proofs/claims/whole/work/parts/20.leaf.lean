set_option maxHeartbeats 4000000 in
set_option maxRecDepth 100000 in
theorem c_X8_isNode {l : Launch} {X : Nat × (Nat → Int32)} {M : am_M} (hL : Lay M) {n : Int32}  : am_F l yX8_isNode cX8_isNode 2 (some .boolean) 0 0 0 X [.ref 1, .int n] M (some (.int (if n < 0 then 0 else if mI M 1 8 ≤ n then 0 else 1))) (M) := by
  refine am_C.of (by decide) (by simp [Value.category, va_rf]) (Nat.le_of_ble_eq_true rfl) ?_
  refine r_iload_n dX8_isNode_0 rfl ?_
  refine r_if_lt 16 dX8_isNode_1 (by decide) (fun c1 => ?_) (fun c1 => ?_)
  · refine r_iconst (0) dX8_isNode_16 (by decide) ?_
    exact r_iret (Or.inr ⟨rfl, by first | exact Or.inl rfl | exact Or.inr rfl⟩) dX8_isNode_17 ⟨by simp [*], rfl⟩
  · refine r_iload_n dX8_isNode_4 rfl ?_
    refine r_aload_n dX8_isNode_5 rfl ?_
    refine r_getI kX8 (k := 8) (by decide) rfl fl_X8_60 (lay_ok hL rfl) dX8_isNode_6 ?_
    refine r_icmp_ge 16 dX8_isNode_9 (by decide) (fun c9 => ?_) (fun c9 => ?_)
    · refine r_iconst (0) dX8_isNode_16 (by decide) ?_
      exact r_iret (Or.inr ⟨rfl, by first | exact Or.inl rfl | exact Or.inr rfl⟩) dX8_isNode_17 ⟨by simp [*], rfl⟩
    · refine r_iconst (1) dX8_isNode_12 (by decide) ?_
      refine r_goto 17 dX8_isNode_13 (by decide) ?_
      exact r_iret (Or.inr ⟨rfl, by first | exact Or.inl rfl | exact Or.inr rfl⟩) dX8_isNode_17 ⟨by simp [*], rfl⟩
set_option maxHeartbeats 4000000 in
set_option maxRecDepth 100000 in
theorem c_X8_isVertex {l : Launch} {X : Nat × (Nat → Int32)} {M : am_M} (hL : Lay M) {n : Int32}  : am_F l yX8_isVertex cX8_isVertex 2 (some .boolean) 0 0 0 X [.ref 1, .int n] M (some (.int (if n < 0 then 0 else if mI M 2 5 ≤ n then 0 else 1))) (M) := by
  refine am_C.of (by decide) (by simp [Value.category, va_rf]) (Nat.le_of_ble_eq_true rfl) ?_
  refine r_iload_n dX8_isVertex_0 rfl ?_
  refine r_if_lt 19 dX8_isVertex_1 (by decide) (fun c1 => ?_) (fun c1 => ?_)
  · refine r_iconst (0) dX8_isVertex_19 (by decide) ?_
    exact r_iret (Or.inr ⟨rfl, by first | exact Or.inl rfl | exact Or.inr rfl⟩) dX8_isVertex_20 ⟨by simp [*], rfl⟩
  · refine r_iload_n dX8_isVertex_4 rfl ?_
    refine r_aload_n dX8_isVertex_5 rfl ?_
    refine r_getF kX8 (k := 0) (by decide) rfl fl_X8_12 (lay_ok hL rfl) (lay_r hL rfl) dX8_isVertex_6 ?_
    refine r_getI kX1 (k := 5) (by decide) rfl fl_X8_64 (lay_ok hL rfl) dX8_isVertex_9 ?_
    refine r_icmp_ge 19 dX8_isVertex_12 (by decide) (fun c12 => ?_) (fun c12 => ?_)
    · refine r_iconst (0) dX8_isVertex_19 (by decide) ?_
      exact r_iret (Or.inr ⟨rfl, by first | exact Or.inl rfl | exact Or.inr rfl⟩) dX8_isVertex_20 ⟨by simp [*], rfl⟩
    · refine r_iconst (1) dX8_isVertex_15 (by decide) ?_
      refine r_goto 20 dX8_isVertex_16 (by decide) ?_
      exact r_iret (Or.inr ⟨rfl, by first | exact Or.inl rfl | exact Or.inr rfl⟩) dX8_isVertex_20 ⟨by simp [*], rfl⟩
set_option maxHeartbeats 4000000 in
set_option maxRecDepth 100000 in
theorem c_X1_clear {l : Launch} {X : Nat × (Nat → Int32)} {M : am_M} (hL : Lay M)  : am_F l yX1_clear cX1_clear 1 (none) 0 0 0 X [.ref 2] M (none) (wI (wI (wI M 2 5 0) 2 6 0) 2 7 0) := by
  refine am_C.of (by decide) (by simp [Value.category, va_rf]) (Nat.le_of_ble_eq_true rfl) ?_
  refine r_aload_n dX1_clear_0 rfl ?_
  refine r_iconst (0) dX1_clear_1 (by decide) ?_
  refine r_putI kX1 (k := 5) (by decide) rfl (Or.inl rfl) fl_X1_27 (lay_ok hL rfl) ⟨rfl, rfl⟩ dX1_clear_2 ?_
  refine r_aload_n dX1_clear_5 rfl ?_
  refine r_iconst (0) dX1_clear_6 (by decide) ?_
  refine r_putI kX1 (k := 6) (by decide) rfl (Or.inl rfl) fl_X1_31 (lay_ok hL rfl) ⟨rfl, rfl⟩ dX1_clear_7 ?_
  refine r_aload_n dX1_clear_10 rfl ?_
  refine r_iconst (0) dX1_clear_11 (by decide) ?_
  refine r_putI kX1 (k := 7) (by decide) rfl (Or.inl rfl) fl_X1_34 (lay_ok hL rfl) ⟨rfl, rfl⟩ dX1_clear_12 ?_
  exact r_vret rfl dX1_clear_15 ⟨rfl, rfl⟩
