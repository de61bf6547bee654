/-! THE REFERENCE: leaves -/
set_option maxHeartbeats 4000000 in
set_option maxRecDepth 100000 in
theorem c_X9_in {l : Launch} {X : Nat × (Nat → Int32)} {M : am_M} (hL : Lay M) {x a b : Int32}  : am_F l yX9_in cX9_in 3 (some .boolean) 0 0 0 X [.int x, .int a, .int b] M (some (.int (if x < a then 0 else if b < x then 0 else 1))) (M) := by
  refine am_C.of (by decide) (by simp [Value.category, va_rf]) (Nat.le_of_ble_eq_true rfl) ?_
  refine r_iload_n dX9_in_0 rfl ?_
  refine r_iload_n dX9_in_1 rfl ?_
  refine r_icmp_lt 14 dX9_in_2 (by decide) (fun c2 => ?_) (fun c2 => ?_)
  · refine r_iconst (0) dX9_in_14 (by decide) ?_
    exact r_iret (Or.inr ⟨rfl, by first | exact Or.inl rfl | exact Or.inr rfl⟩) dX9_in_15 ⟨by simp [*], rfl⟩
  · refine r_iload_n dX9_in_5 rfl ?_
    refine r_iload_n dX9_in_6 rfl ?_
    refine r_icmp_gt 14 dX9_in_7 (by decide) (fun c7 => ?_) (fun c7 => ?_)
    · refine r_iconst (0) dX9_in_14 (by decide) ?_
      exact r_iret (Or.inr ⟨rfl, by first | exact Or.inl rfl | exact Or.inr rfl⟩) dX9_in_15 ⟨by simp [*], rfl⟩
    · refine r_iconst (1) dX9_in_10 (by decide) ?_
      refine r_goto 15 dX9_in_11 (by decide) ?_
      exact r_iret (Or.inr ⟨rfl, by first | exact Or.inl rfl | exact Or.inr rfl⟩) dX9_in_15 ⟨by simp [*], rfl⟩
set_option maxHeartbeats 4000000 in
set_option maxRecDepth 100000 in
theorem c_X9_isNode {l : Launch} {X : Nat × (Nat → Int32)} {M : am_M} (hL : Lay M) {x : Int32} {k : Nat} (hk : mI M 93 0 = nI k) (hk2 : k < 2 ^ 31) : am_F l yX9_isNode cX9_isNode 2 (some .boolean) 1 0 0 X [.ref 93, .int x] M (some (.int (if x < 0 then 0 else if nI k ≤ x then 0 else 1))) (M) := by
  refine am_C.of (by decide) (by simp [Value.category, va_rf]) (Nat.le_of_ble_eq_true rfl) ?_
  refine r_iload_n dX9_isNode_0 rfl ?_
  refine r_iconst (0) dX9_isNode_1 (by decide) ?_
  refine r_aload_n dX9_isNode_2 rfl ?_
  refine r_getE (nI k) kX9 (k := 0) (by decide) rfl fl_X9_7 (lay_ok hL rfl) dX9_isNode_3 hk ?_
  refine r_iconst (1) dX9_isNode_6 (by decide) ?_
  refine r_isub dX9_isNode_7 ?_
  refine r_cS ca_yX9_in ml_X9_143 sm_yX9_in (c_X9_in hL) ⟨by decide, by decide⟩ (by first | decide | omega) (by first | decide | omega) rfl (Nat.le_of_ble_eq_true rfl) dX9_isNode_8 ?_
  refine r_top _ (in_sub1 hk2) ?_
  exact r_iret (Or.inr ⟨rfl, by split; exact Or.inl rfl; split; exact Or.inl rfl; exact Or.inr rfl⟩) dX9_isNode_11 ⟨rfl, rfl⟩
set_option maxHeartbeats 4000000 in
set_option maxRecDepth 100000 in
theorem c_X9_isVertex {l : Launch} {X : Nat × (Nat → Int32)} {M : am_M} (hL : Lay M) {x : Int32} {k : Nat} (hk : mI M 93 1 = nI k) (hk2 : k < 2 ^ 31) : am_F l yX9_isVertex cX9_isVertex 2 (some .boolean) 1 0 0 X [.ref 93, .int x] M (some (.int (if x < 0 then 0 else if nI k ≤ x then 0 else 1))) (M) := by
  refine am_C.of (by decide) (by simp [Value.category, va_rf]) (Nat.le_of_ble_eq_true rfl) ?_
  refine r_iload_n dX9_isVertex_0 rfl ?_
  refine r_iconst (0) dX9_isVertex_1 (by decide) ?_
  refine r_aload_n dX9_isVertex_2 rfl ?_
  refine r_getE (nI k) kX9 (k := 1) (by decide) rfl fl_X9_115 (lay_ok hL rfl) dX9_isVertex_3 hk ?_
  refine r_iconst (1) dX9_isVertex_6 (by decide) ?_
  refine r_isub dX9_isVertex_7 ?_
  refine r_cS ca_yX9_in ml_X9_143 sm_yX9_in (c_X9_in hL) ⟨by decide, by decide⟩ (by first | decide | omega) (by first | decide | omega) rfl (Nat.le_of_ble_eq_true rfl) dX9_isVertex_8 ?_
  refine r_top _ (in_sub1 hk2) ?_
  exact r_iret (Or.inr ⟨rfl, by split; exact Or.inl rfl; split; exact Or.inl rfl; exact Or.inr rfl⟩) dX9_isVertex_11 ⟨rfl, rfl⟩
set_option maxHeartbeats 4000000 in
set_option maxRecDepth 100000 in
theorem c_X9_isLetter {l : Launch} {X : Nat × (Nat → Int32)} {M : am_M} (hL : Lay M) {x : Int32} {k : Nat} (hk : mI M 93 18 = nI k) (hk2 : k < 2 ^ 31) : am_F l yX9_isLetter cX9_isLetter 2 (some .boolean) 1 0 0 X [.ref 93, .int x] M (some (.int (if x < 0 then 0 else if nI k ≤ x then 0 else 1))) (M) := by
  refine am_C.of (by decide) (by simp [Value.category, va_rf]) (Nat.le_of_ble_eq_true rfl) ?_
  refine r_iload_n dX9_isLetter_0 rfl ?_
  refine r_iconst (0) dX9_isLetter_1 (by decide) ?_
  refine r_aload_n dX9_isLetter_2 rfl ?_
  refine r_getE (nI k) kX9 (k := 18) (by decide) rfl fl_X9_134 (lay_ok hL rfl) dX9_isLetter_3 hk ?_
  refine r_iconst (1) dX9_isLetter_6 (by decide) ?_
  refine r_isub dX9_isLetter_7 ?_
  refine r_cS ca_yX9_in ml_X9_143 sm_yX9_in (c_X9_in hL) ⟨by decide, by decide⟩ (by first | decide | omega) (by first | decide | omega) rfl (Nat.le_of_ble_eq_true rfl) dX9_isLetter_8 ?_
  refine r_top _ (in_sub1 hk2) ?_
  exact r_iret (Or.inr ⟨rfl, by split; exact Or.inl rfl; split; exact Or.inl rfl; exact Or.inr rfl⟩) dX9_isLetter_11 ⟨rfl, rfl⟩
set_option maxHeartbeats 4000000 in
set_option maxRecDepth 100000 in
theorem c_X9_has {l : Launch} {X : Nat × (Nat → Int32)} {M : am_M} (hL : Lay M) {n w o : Nat}  : am_F l yX9_has cX9_has 4 (some .int) 0 0 0 X [.ref 93, .int (nI n), .int (nI w), .int (nI o)] M (some (.int (nI (110 + 10 * n + 5 * w + o)))) (M) := by
  refine am_C.of (by decide) (by simp [Value.category, va_rf]) (Nat.le_of_ble_eq_true rfl) ?_
  refine r_bipush (nI 110) dX9_has_0 (by decide) ?_
  refine r_bipush (nI 10) dX9_has_2 (by decide) ?_
  refine r_iload_n dX9_has_4 rfl ?_
  refine r_imul dX9_has_5 ?_
  refine r_top (nI (10 * n)) (nI_mul _ _) ?_
  refine r_iadd dX9_has_6 ?_
  refine r_top (nI (110 + (10 * n))) (nI_add _ _) ?_
  refine r_iconst (nI 5) dX9_has_7 (by decide) ?_
  refine r_iload_n dX9_has_8 rfl ?_
  refine r_imul dX9_has_9 ?_
  refine r_top (nI (5 * w)) (nI_mul _ _) ?_
  refine r_iadd dX9_has_10 ?_
  refine r_top (nI ((110 + (10 * n)) + (5 * w))) (nI_add _ _) ?_
  refine r_iload_n dX9_has_11 rfl ?_
  refine r_iadd dX9_has_12 ?_
  refine r_top (nI (((110 + (10 * n)) + (5 * w)) + o)) (nI_add _ _) ?_
  exact r_iret (Or.inl rfl) dX9_has_13 ⟨rfl, rfl⟩
set_option maxHeartbeats 4000000 in
set_option maxRecDepth 100000 in
theorem c_X9_keeps {l : Launch} {X : Nat × (Nat → Int32)} {M : am_M} (hL : Lay M) {n w o : Nat}  : am_F l yX9_keeps cX9_keeps 4 (some .int) 0 0 0 X [.ref 93, .int (nI n), .int (nI w), .int (nI o)] M (some (.int (nI (60 + 10 * n + 5 * w + o)))) (M) := by
  refine am_C.of (by decide) (by simp [Value.category, va_rf]) (Nat.le_of_ble_eq_true rfl) ?_
  refine r_bipush (nI 60) dX9_keeps_0 (by decide) ?_
  refine r_bipush (nI 10) dX9_keeps_2 (by decide) ?_
  refine r_iload_n dX9_keeps_4 rfl ?_
  refine r_imul dX9_keeps_5 ?_
  refine r_top (nI (10 * n)) (nI_mul _ _) ?_
  refine r_iadd dX9_keeps_6 ?_
  refine r_top (nI (60 + (10 * n))) (nI_add _ _) ?_
  refine r_iconst (nI 5) dX9_keeps_7 (by decide) ?_
  refine r_iload_n dX9_keeps_8 rfl ?_
  refine r_imul dX9_keeps_9 ?_
  refine r_top (nI (5 * w)) (nI_mul _ _) ?_
  refine r_iadd dX9_keeps_10 ?_
  refine r_top (nI ((60 + (10 * n)) + (5 * w))) (nI_add _ _) ?_
  refine r_iload_n dX9_keeps_11 rfl ?_
  refine r_iadd dX9_keeps_12 ?_
  refine r_top (nI (((60 + (10 * n)) + (5 * w)) + o)) (nI_add _ _) ?_
  exact r_iret (Or.inl rfl) dX9_keeps_13 ⟨rfl, rfl⟩
set_option maxHeartbeats 4000000 in
set_option maxRecDepth 100000 in
theorem c_X9_message {l : Launch} {X : Nat × (Nat → Int32)} {M : am_M} (hL : Lay M) {x w : Int32} {k : Nat} (hk0 : mI M 93 3 = nI k) (hk : k ≤ 3) : am_F l yX9_message cX9_message 3 (some .int) 0 0 0 X [.ref 93, .int x, .int w] M (some (.int (t_msg k x w))) (M) := by
  refine am_C.of (by decide) (by simp [Value.category, va_rf]) (Nat.le_of_ble_eq_true rfl) ?_
  have e1 : nI k = 1 ↔ k = 1 := nI_eq (b := 1) (by omega) (by decide)
  have e2 : nI k = 2 ↔ k = 2 := nI_eq (b := 2) (by omega) (by decide)
  refine r_aload_n dX9_message_0 rfl ?_
  refine r_getE (nI k) kX9 (k := 3) (by decide) rfl fl_X9_121 (lay_ok hL rfl) dX9_message_1 hk0 ?_
  refine r_iconst (1) dX9_message_4 (by decide) ?_
  refine r_icmp_ne 21 dX9_message_5 (by decide) (fun c5 => ?_) (fun c5 => ?_)
  · refine r_aload_n dX9_message_21 rfl ?_
    refine r_getE (nI k) kX9 (k := 3) (by decide) rfl fl_X9_121 (lay_ok hL rfl) dX9_message_22 hk0 ?_
    refine r_iconst (2) dX9_message_25 (by decide) ?_
    refine r_icmp_ne 35 dX9_message_26 (by decide) (fun c26 => ?_) (fun c26 => ?_)
    · refine r_iload_n dX9_message_35 rfl ?_
      refine r_iload_n dX9_message_36 rfl ?_
      refine r_iadd dX9_message_37 ?_
      exact r_iret (Or.inl rfl) dX9_message_38 ⟨by unfold t_msg; rw [if_neg (fun z => c5 (e1.mpr z)), if_neg (fun z => c26 (e2.mpr z))], rfl⟩
    · refine r_iload_n dX9_message_29 rfl ?_
      refine r_iload_n dX9_message_30 rfl ?_
      refine r_imul dX9_message_31 ?_
      refine r_goto 38 dX9_message_32 (by decide) ?_
      exact r_iret (Or.inl rfl) dX9_message_38 ⟨by unfold t_msg; rw [if_neg (fun z => c5 (e1.mpr z)), if_pos (e2.mp c26)], rfl⟩
  · refine r_iload_n dX9_message_8 rfl ?_
    refine r_iload_n dX9_message_9 rfl ?_
    refine r_icmp_ge 17 dX9_message_10 (by decide) (fun c10 => ?_) (fun c10 => ?_)
    · refine r_iload_n dX9_message_17 rfl ?_
      refine r_goto 38 dX9_message_18 (by decide) ?_
      exact r_iret (Or.inl rfl) dX9_message_38 ⟨by unfold t_msg; rw [if_pos (e1.mp c5)]; by_cases z : w < x; rw [if_pos z]; rw [if_neg z, Int32.le_antisymm (Int32.not_lt.mp z) c10], rfl⟩
    · refine r_iload_n dX9_message_13 rfl ?_
      refine r_goto 38 dX9_message_14 (by decide) ?_
      exact r_iret (Or.inl rfl) dX9_message_38 ⟨by unfold t_msg; rw [if_pos (e1.mp c5), if_neg (fun z => c10 (Int32.le_of_lt z))], rfl⟩
set_option maxHeartbeats 4000000 in
set_option maxRecDepth 100000 in
theorem c_X9_folded {l : Launch} {X : Nat × (Nat → Int32)} {M : am_M} (hL : Lay M) {a b : Int32} {k : Nat} (hk0 : mI M 93 3 = nI k) (hk : k ≤ 2) : am_F l yX9_folded cX9_folded 3 (some .int) 0 0 0 X [.ref 93, .int a, .int b] M (some (.int (t_fold k a b))) (M) := by
  refine am_C.of (by decide) (by simp [Value.category, va_rf]) (Nat.le_of_ble_eq_true rfl) ?_
  refine r_aload_n dX9_folded_0 rfl ?_
  refine r_getE (nI k) kX9 (k := 3) (by decide) rfl fl_X9_121 (lay_ok hL rfl) dX9_folded_1 hk0 ?_
  refine r_iconst (2) dX9_folded_4 (by decide) ?_
  refine r_icmp_ne 14 dX9_folded_5 (by decide) (fun c5 => ?_) (fun c5 => ?_)
  · refine r_aload_n dX9_folded_14 rfl ?_
    refine r_getE (nI k) kX9 (k := 3) (by decide) rfl fl_X9_121 (lay_ok hL rfl) dX9_folded_15 hk0 ?_
    refine r_iconst (1) dX9_folded_18 (by decide) ?_
    refine r_icmp_ne 26 dX9_folded_19 (by decide) (fun c19 => ?_) (fun c19 => ?_)
    · refine r_iconst (0) dX9_folded_26 (by decide) ?_
      refine r_iload_n dX9_folded_27 rfl ?_
      refine r_iload_n dX9_folded_28 rfl ?_
      refine r_icmp_le 36 dX9_folded_29 (by decide) (fun c29 => ?_) (fun c29 => ?_)
      · refine r_iconst (0) dX9_folded_36 (by decide) ?_
        refine r_icmp_ne 44 dX9_folded_37 (by decide) (fun hq => absurd (by decide) hq) (fun _ => ?_)
        refine r_iload_n dX9_folded_40 rfl ?_
        refine r_goto 45 dX9_folded_41 (by decide) ?_
        exact r_iret (Or.inl rfl) dX9_folded_45 ⟨by
      have e1 : nI k = 1 ↔ k = 1 := nI_eq (b := 1) (by omega) (by decide)
      have e2 : nI k = 2 ↔ k = 2 := nI_eq (b := 2) (by omega) (by decide)
      rw [e2] at c5
      first
        | (rw [c5]; rfl)
        | (rw [e1] at c19
           have ab : a ≤ b → ¬ b < a := fun u v => Int32.lt_irrefl (Int32.lt_of_lt_of_le v u)
           have ba : ¬ a ≤ b → b < a := Int32.not_le.mp
           unfold t_fold
           first
             | (rw [if_pos (show k = 0 by omega)]; first | rw [if_pos (ba c29)] | rw [if_neg (ab c29)])
             | (rw [if_neg (show ¬ k = 0 by omega), if_pos c19]
                first
                  | rw [if_neg (fun z => c29 (Int32.le_of_lt z))]
                  | (by_cases z : a < b
                     · rw [if_pos z]
                     · rw [if_neg z, Int32.le_antisymm c29 (Int32.not_lt.mp z)]))), rfl⟩
      · refine r_iconst (1) dX9_folded_32 (by decide) ?_
        refine r_goto 37 dX9_folded_33 (by decide) ?_
        refine r_icmp_ne 44 dX9_folded_37 (by decide) (fun _ => ?_) (fun hq => absurd hq (by decide))
        refine r_iload_n dX9_folded_44 rfl ?_
        exact r_iret (Or.inl rfl) dX9_folded_45 ⟨by
      have e1 : nI k = 1 ↔ k = 1 := nI_eq (b := 1) (by omega) (by decide)
      have e2 : nI k = 2 ↔ k = 2 := nI_eq (b := 2) (by omega) (by decide)
      rw [e2] at c5
      first
        | (rw [c5]; rfl)
        | (rw [e1] at c19
           have ab : a ≤ b → ¬ b < a := fun u v => Int32.lt_irrefl (Int32.lt_of_lt_of_le v u)
           have ba : ¬ a ≤ b → b < a := Int32.not_le.mp
           unfold t_fold
           first
             | (rw [if_pos (show k = 0 by omega)]; first | rw [if_pos (ba c29)] | rw [if_neg (ab c29)])
             | (rw [if_neg (show ¬ k = 0 by omega), if_pos c19]
                first
                  | rw [if_neg (fun z => c29 (Int32.le_of_lt z))]
                  | (by_cases z : a < b
                     · rw [if_pos z]
                     · rw [if_neg z, Int32.le_antisymm c29 (Int32.not_lt.mp z)]))), rfl⟩
    · refine r_iconst (1) dX9_folded_22 (by decide) ?_
      refine r_goto 27 dX9_folded_23 (by decide) ?_
      refine r_iload_n dX9_folded_27 rfl ?_
      refine r_iload_n dX9_folded_28 rfl ?_
      refine r_icmp_le 36 dX9_folded_29 (by decide) (fun c29 => ?_) (fun c29 => ?_)
      · refine r_iconst (0) dX9_folded_36 (by decide) ?_
        refine r_icmp_ne 44 dX9_folded_37 (by decide) (fun _ => ?_) (fun hq => absurd hq (by decide))
        refine r_iload_n dX9_folded_44 rfl ?_
        exact r_iret (Or.inl rfl) dX9_folded_45 ⟨by
      have e1 : nI k = 1 ↔ k = 1 := nI_eq (b := 1) (by omega) (by decide)
      have e2 : nI k = 2 ↔ k = 2 := nI_eq (b := 2) (by omega) (by decide)
      rw [e2] at c5
      first
        | (rw [c5]; rfl)
        | (rw [e1] at c19
           have ab : a ≤ b → ¬ b < a := fun u v => Int32.lt_irrefl (Int32.lt_of_lt_of_le v u)
           have ba : ¬ a ≤ b → b < a := Int32.not_le.mp
           unfold t_fold
           first
             | (rw [if_pos (show k = 0 by omega)]; first | rw [if_pos (ba c29)] | rw [if_neg (ab c29)])
             | (rw [if_neg (show ¬ k = 0 by omega), if_pos c19]
                first
                  | rw [if_neg (fun z => c29 (Int32.le_of_lt z))]
                  | (by_cases z : a < b
                     · rw [if_pos z]
                     · rw [if_neg z, Int32.le_antisymm c29 (Int32.not_lt.mp z)]))), rfl⟩
      · refine r_iconst (1) dX9_folded_32 (by decide) ?_
        refine r_goto 37 dX9_folded_33 (by decide) ?_
        refine r_icmp_ne 44 dX9_folded_37 (by decide) (fun hq => absurd (by decide) hq) (fun _ => ?_)
        refine r_iload_n dX9_folded_40 rfl ?_
        refine r_goto 45 dX9_folded_41 (by decide) ?_
        exact r_iret (Or.inl rfl) dX9_folded_45 ⟨by
      have e1 : nI k = 1 ↔ k = 1 := nI_eq (b := 1) (by omega) (by decide)
      have e2 : nI k = 2 ↔ k = 2 := nI_eq (b := 2) (by omega) (by decide)
      rw [e2] at c5
      first
        | (rw [c5]; rfl)
        | (rw [e1] at c19
           have ab : a ≤ b → ¬ b < a := fun u v => Int32.lt_irrefl (Int32.lt_of_lt_of_le v u)
           have ba : ¬ a ≤ b → b < a := Int32.not_le.mp
           unfold t_fold
           first
             | (rw [if_pos (show k = 0 by omega)]; first | rw [if_pos (ba c29)] | rw [if_neg (ab c29)])
             | (rw [if_neg (show ¬ k = 0 by omega), if_pos c19]
                first
                  | rw [if_neg (fun z => c29 (Int32.le_of_lt z))]
                  | (by_cases z : a < b
                     · rw [if_pos z]
                     · rw [if_neg z, Int32.le_antisymm c29 (Int32.not_lt.mp z)]))), rfl⟩
  · refine r_iload_n dX9_folded_8 rfl ?_
    refine r_iload_n dX9_folded_9 rfl ?_
    refine r_iadd dX9_folded_10 ?_
    refine r_goto 45 dX9_folded_11 (by decide) ?_
    exact r_iret (Or.inl rfl) dX9_folded_45 ⟨by
      have e1 : nI k = 1 ↔ k = 1 := nI_eq (b := 1) (by omega) (by decide)
      have e2 : nI k = 2 ↔ k = 2 := nI_eq (b := 2) (by omega) (by decide)
      rw [e2] at c5
      first
        | (rw [c5]; rfl)
        | (rw [e1] at c19
           have ab : a ≤ b → ¬ b < a := fun u v => Int32.lt_irrefl (Int32.lt_of_lt_of_le v u)
           have ba : ¬ a ≤ b → b < a := Int32.not_le.mp
           unfold t_fold
           first
             | (rw [if_pos (show k = 0 by omega)]; first | rw [if_pos (ba c29)] | rw [if_neg (ab c29)])
             | (rw [if_neg (show ¬ k = 0 by omega), if_pos c19]
                first
                  | rw [if_neg (fun z => c29 (Int32.le_of_lt z))]
                  | (by_cases z : a < b
                     · rw [if_pos z]
                     · rw [if_neg z, Int32.le_antisymm c29 (Int32.not_lt.mp z)]))), rfl⟩
set_option maxHeartbeats 4000000 in
set_option maxRecDepth 100000 in
theorem l_X9_begin {l : Launch} {X : Nat × (Nat → Int32)} {M : am_M} (hL0 : Lay M) : ∀ (k i : Nat) (N : am_M), i + k = 16 → Lay N → am_fr s_got M N → (∀ v, v < i → mI N 120 v = 0) → am_V l yX9_begin cX9_begin 2 (none) (am_R 0 0 0) 0 0 X (fun v M' => v = none ∧ BM M' (fun _ => none) ∧ am_fr s_got M M') 0 0 2 [some (.ref 93), some (.int (nI i))] [] N := by
  intro k
  induction k with
  | zero =>
    intro i N hi hL hf hz
    obtain rfl : i = 16 := by omega
    refine r_iload_n dX9_begin_2 rfl ?_
    refine r_bipush (nI 16) dX9_begin_3 (by decide) ?_
    refine r_icmp_ge 21 dX9_begin_5 (by decide) (fun _ => ?_) (fun hq => absurd (nI_le (Nat.le_refl 16) (by decide)) hq)
    exact r_vret rfl dX9_begin_21 ⟨rfl, hz, hf⟩
  | succ k ih =>
    intro i N hi hL hf hz
    refine r_iload_n dX9_begin_2 rfl ?_
    refine r_bipush (nI 16) dX9_begin_3 (by decide) ?_
    refine r_icmp_ge 21 dX9_begin_5 (by decide) (fun hq => absurd hq (nI_ge (by omega) (by decide))) (fun _ => ?_)
    refine r_aload_n dX9_begin_8 rfl ?_
    refine r_getF kX9 (k := 36) (by decide) rfl fl_X9_93 (lay_ok hL rfl) (lay_r hL rfl) dX9_begin_9 ?_
    refine r_iload_n dX9_begin_12 rfl ?_
    refine r_iconst (0) dX9_begin_13 (by decide) ?_
    refine r_zastN (lay_ok hL rfl) (by omega) (by decide) (by decide) dX9_begin_14 ?_
    refine r_lay (lay_wI hL _ _ _) (fun hL => ?_)
    refine r_iinc (nI (i + 1)) _ dX9_begin_15 (by decide) rfl (nI_1 _) rfl ?_
    refine r_goto 2 dX9_begin_18 (by decide) ?_
    exact ih (i + 1) _ (by omega) hL (hf.tr (am_fr.wI _ _ (Or.inl rfl))) (fun v hv => by rw [mI_wI]; split; rfl; exact hz v (by omega))
set_option maxHeartbeats 4000000 in
set_option maxRecDepth 100000 in
theorem c_X9_begin {l : Launch} {X : Nat × (Nat → Int32)} {M : am_M} (hL : Lay M) : am_C l yX9_begin cX9_begin 2 (none) 0 0 0 X [.ref 93] M (fun v M' => v = none ∧ BM M' (fun _ => none) ∧ am_fr s_got M M') := by
  refine am_C.of (by decide) (by simp [Value.category, va_rf]) (Nat.le_of_ble_eq_true rfl) ?_
  refine r_iconst (nI 0) dX9_begin_0 (by decide) ?_
  refine r_istore_n _ dX9_begin_1 (by decide) rfl ?_
  exact l_X9_begin hL 16 0 M (by omega) hL am_fr.rf (fun v hv => absurd hv (by omega))
set_option maxHeartbeats 4000000 in
set_option maxRecDepth 100000 in
theorem c_X9_hear {l : Launch} {X : Nat × (Nat → Int32)} {M : am_M} (hL : Lay M) {k v a : Nat} {m : Int32} {B : tB} (hk0 : mI M 93 3 = nI k) (hk : k ≤ 3) (hb : BM M B) (hv : v < 16) (ha : a < 40) : am_C l yX9_hear cX9_hear 4 (none) 1 0 0 X [.ref 93, .int (nI v), .int m, .int (nI a)] M (fun v' M' => v' = none ∧ BM M' (t_hear k B v m a) ∧ am_fr s_got M M') := by
  refine am_C.of (by decide) (by simp [Value.category, va_rf]) (Nat.le_of_ble_eq_true rfl) ?_
  have hbv := hb v hv
  cases hc : B v with
  | none =>
    rw [hc] at hbv
    have hbv : mI M 120 v = 0 := hbv
    have e : t_hear k B v m a = va_up B v (some (m, a)) := by unfold t_hear; rw [hc]
    refine r_aload_n dX9_hear_0 rfl ?_
    refine r_getF kX9 (k := 36) (by decide) rfl fl_X9_93 (lay_ok hL rfl) (lay_r hL rfl) dX9_hear_1 ?_
    refine r_iload_n dX9_hear_4 rfl ?_
    refine r_zaldE (0) (lay_ok hL rfl) (by omega) (by omega) dX9_hear_5 hbv ?_
    refine r_if_ne 26 dX9_hear_6 (by decide) (fun hq => absurd (by decide) hq) (fun _ => ?_)
    refine r_aload_n dX9_hear_9 rfl ?_
    refine r_getF kX9 (k := 37) (by decide) rfl fl_X9_96 (lay_ok hL rfl) (lay_r hL rfl) dX9_hear_10 ?_
    refine r_iload_n dX9_hear_13 rfl ?_
    refine r_iload_n dX9_hear_14 rfl ?_
    refine r_iastN (lay_ok hL rfl) (by omega) (by decide) dX9_hear_15 ?_
    refine r_lay (lay_wI hL _ _ _) (fun hL => ?_)
    refine r_aload_n dX9_hear_16 rfl ?_
    refine r_getF kX9 (k := 38) (by decide) rfl fl_X9_99 (lay_ok hL rfl) (lay_r hL rfl) dX9_hear_17 ?_
    refine r_iload_n dX9_hear_20 rfl ?_
    refine r_iload_n dX9_hear_21 rfl ?_
    refine r_iastN (lay_ok hL rfl) (by omega) (by decide) dX9_hear_22 ?_
    refine r_lay (lay_wI hL _ _ _) (fun hL => ?_)
    refine r_goto 78 dX9_hear_23 (by decide) ?_
    refine r_aload_n dX9_hear_78 rfl ?_
    refine r_getF kX9 (k := 36) (by decide) rfl fl_X9_93 (lay_ok hL rfl) (lay_r hL rfl) dX9_hear_79 ?_
    refine r_iload_n dX9_hear_82 rfl ?_
    refine r_iconst (1) dX9_hear_83 (by decide) ?_
    refine r_zastN (lay_ok hL rfl) (by omega) (by decide) (by decide) dX9_hear_84 ?_
    refine r_lay (lay_wI hL _ _ _) (fun hL => ?_)
    exact r_vret rfl dX9_hear_85 ⟨rfl, by rw [e]; exact BM_set hb (by simp [mI_wI]) (by simp [mI_wI]) (by simp [mI_wI]) ha (fun x u hu h1 h2 => by simp [mI_wI, hu]), ((am_fr.wI _ _ (Or.inr (Or.inl rfl))).tr (am_fr.wI _ _ (Or.inr (Or.inr rfl)))).tr (am_fr.wI _ _ (Or.inl rfl))⟩
  | some q =>
    obtain ⟨x, b⟩ := q
    rw [hc] at hbv
    obtain ⟨h0, h1, h2, h3⟩ : mI M 120 v = 1 ∧ mI M 121 v = x ∧ mI M 122 v = nI b ∧ b < 40 := hbv
    by_cases c3 : k = 3
    · by_cases cb : b < a
      · have e : t_hear k B v m a = va_up B v (some (m, a)) := by unfold t_hear; rw [hc]; simp only [if_pos c3, if_pos cb]
        refine r_aload_n dX9_hear_0 rfl ?_
        refine r_getF kX9 (k := 36) (by decide) rfl fl_X9_93 (lay_ok hL rfl) (lay_r hL rfl) dX9_hear_1 ?_
        refine r_iload_n dX9_hear_4 rfl ?_
        refine r_zaldE (1) (lay_ok hL rfl) (by omega) (by omega) dX9_hear_5 h0 ?_
        refine r_if_ne 26 dX9_hear_6 (by decide) (fun _ => ?_) (fun hq => absurd hq (by decide))
        refine r_aload_n dX9_hear_26 rfl ?_
        refine r_getE (nI k) kX9 (k := 3) (by decide) rfl fl_X9_121 (lay_ok hL rfl) dX9_hear_27 hk0 ?_
        refine r_iconst (nI 3) dX9_hear_30 (by decide) ?_
        refine r_icmp_ge 54 dX9_hear_31 (by decide) (fun _ => ?_) (fun hq => absurd (by rw [c3]; decide) hq)
        refine r_iload_n dX9_hear_54 rfl ?_
        refine r_aload_n dX9_hear_55 rfl ?_
        refine r_getF kX9 (k := 38) (by decide) rfl fl_X9_99 (lay_ok hL rfl) (lay_r hL rfl) dX9_hear_56 ?_
        refine r_iload_n dX9_hear_59 rfl ?_
        refine r_ialdE (nI b) (lay_ok hL rfl) (by omega) (by omega) dX9_hear_60 h2 ?_
        refine r_icmp_le 78 dX9_hear_61 (by decide) (fun hq => absurd hq (nI_ge cb (by omega))) (fun _ => ?_)
        refine r_aload_n dX9_hear_64 rfl ?_
        refine r_getF kX9 (k := 37) (by decide) rfl fl_X9_96 (lay_ok hL rfl) (lay_r hL rfl) dX9_hear_65 ?_
        refine r_iload_n dX9_hear_68 rfl ?_
        refine r_iload_n dX9_hear_69 rfl ?_
        refine r_iastN (lay_ok hL rfl) (by omega) (by decide) dX9_hear_70 ?_
        refine r_lay (lay_wI hL _ _ _) (fun hL => ?_)
        refine r_aload_n dX9_hear_71 rfl ?_
        refine r_getF kX9 (k := 38) (by decide) rfl fl_X9_99 (lay_ok hL rfl) (lay_r hL rfl) dX9_hear_72 ?_
        refine r_iload_n dX9_hear_75 rfl ?_
        refine r_iload_n dX9_hear_76 rfl ?_
        refine r_iastN (lay_ok hL rfl) (by omega) (by decide) dX9_hear_77 ?_
        refine r_lay (lay_wI hL _ _ _) (fun hL => ?_)
        refine r_aload_n dX9_hear_78 rfl ?_
        refine r_getF kX9 (k := 36) (by decide) rfl fl_X9_93 (lay_ok hL rfl) (lay_r hL rfl) dX9_hear_79 ?_
        refine r_iload_n dX9_hear_82 rfl ?_
        refine r_iconst (1) dX9_hear_83 (by decide) ?_
        refine r_zastN (lay_ok hL rfl) (by omega) (by decide) (by decide) dX9_hear_84 ?_
        refine r_lay (lay_wI hL _ _ _) (fun hL => ?_)
        exact r_vret rfl dX9_hear_85 ⟨rfl, by rw [e]; exact BM_set hb (by simp [mI_wI]) (by simp [mI_wI]) (by simp [mI_wI]) ha (fun x u hu h1 h2 => by simp [mI_wI, hu]), ((am_fr.wI _ _ (Or.inr (Or.inl rfl))).tr (am_fr.wI _ _ (Or.inr (Or.inr rfl)))).tr (am_fr.wI _ _ (Or.inl rfl))⟩
      · have e : t_hear k B v m a = va_up B v (some (x, b)) := by unfold t_hear; rw [hc]; simp only [if_pos c3, if_neg cb]
        refine r_aload_n dX9_hear_0 rfl ?_
        refine r_getF kX9 (k := 36) (by decide) rfl fl_X9_93 (lay_ok hL rfl) (lay_r hL rfl) dX9_hear_1 ?_
        refine r_iload_n dX9_hear_4 rfl ?_
        refine r_zaldE (1) (lay_ok hL rfl) (by omega) (by omega) dX9_hear_5 h0 ?_
        refine r_if_ne 26 dX9_hear_6 (by decide) (fun _ => ?_) (fun hq => absurd hq (by decide))
        refine r_aload_n dX9_hear_26 rfl ?_
        refine r_getE (nI k) kX9 (k := 3) (by decide) rfl fl_X9_121 (lay_ok hL rfl) dX9_hear_27 hk0 ?_
        refine r_iconst (nI 3) dX9_hear_30 (by decide) ?_
        refine r_icmp_ge 54 dX9_hear_31 (by decide) (fun _ => ?_) (fun hq => absurd (by rw [c3]; decide) hq)
        refine r_iload_n dX9_hear_54 rfl ?_
        refine r_aload_n dX9_hear_55 rfl ?_
        refine r_getF kX9 (k := 38) (by decide) rfl fl_X9_99 (lay_ok hL rfl) (lay_r hL rfl) dX9_hear_56 ?_
        refine r_iload_n dX9_hear_59 rfl ?_
        refine r_ialdE (nI b) (lay_ok hL rfl) (by omega) (by omega) dX9_hear_60 h2 ?_
        refine r_icmp_le 78 dX9_hear_61 (by decide) (fun _ => ?_) (fun hq => absurd (nI_le (by omega) (by omega)) hq)
        refine r_aload_n dX9_hear_78 rfl ?_
        refine r_getF kX9 (k := 36) (by decide) rfl fl_X9_93 (lay_ok hL rfl) (lay_r hL rfl) dX9_hear_79 ?_
        refine r_iload_n dX9_hear_82 rfl ?_
        refine r_iconst (1) dX9_hear_83 (by decide) ?_
        refine r_zastN (lay_ok hL rfl) (by omega) (by decide) (by decide) dX9_hear_84 ?_
        refine r_lay (lay_wI hL _ _ _) (fun hL => ?_)
        exact r_vret rfl dX9_hear_85 ⟨rfl, by rw [e]; exact BM_set hb (by simp [mI_wI]) (by simp [mI_wI, h1]) (by simp [mI_wI, h2]) h3 (fun x u hu h1 h2 => by simp [mI_wI, hu]), am_fr.wI _ _ (Or.inl rfl)⟩
    · have e : t_hear k B v m a = va_up B v (some (t_fold k x m, b)) := by unfold t_hear; rw [hc]; simp only [if_neg c3]
      refine r_aload_n dX9_hear_0 rfl ?_
      refine r_getF kX9 (k := 36) (by decide) rfl fl_X9_93 (lay_ok hL rfl) (lay_r hL rfl) dX9_hear_1 ?_
      refine r_iload_n dX9_hear_4 rfl ?_
      refine r_zaldE (1) (lay_ok hL rfl) (by omega) (by omega) dX9_hear_5 h0 ?_
      refine r_if_ne 26 dX9_hear_6 (by decide) (fun _ => ?_) (fun hq => absurd hq (by decide))
      refine r_aload_n dX9_hear_26 rfl ?_
      refine r_getE (nI k) kX9 (k := 3) (by decide) rfl fl_X9_121 (lay_ok hL rfl) dX9_hear_27 hk0 ?_
      refine r_iconst (nI 3) dX9_hear_30 (by decide) ?_
      refine r_icmp_ge 54 dX9_hear_31 (by decide) (fun hq => absurd hq (nI_ge (by omega) (by decide))) (fun _ => ?_)
      refine r_aload_n dX9_hear_34 rfl ?_
      refine r_getF kX9 (k := 37) (by decide) rfl fl_X9_96 (lay_ok hL rfl) (lay_r hL rfl) dX9_hear_35 ?_
      refine r_iload_n dX9_hear_38 rfl ?_
      refine r_aload_n dX9_hear_39 rfl ?_
      refine r_aload_n dX9_hear_40 rfl ?_
      refine r_getF kX9 (k := 37) (by decide) rfl fl_X9_96 (lay_ok hL rfl) (lay_r hL rfl) dX9_hear_41 ?_
      refine r_iload_n dX9_hear_44 rfl ?_
      refine r_ialdE (x) (lay_ok hL rfl) (by omega) (by omega) dX9_hear_45 h1 ?_
      refine r_iload_n dX9_hear_46 rfl ?_
      refine r_cV ca_yX9_folded ml_X9_154 im_yX9_folded se_yX9_folded (by decide) rfl (lay_ok hL rfl) (c_X9_folded hL hk0 (by omega)) ⟨by decide, by decide⟩ (by first | decide | omega) (by first | decide | omega) rfl (Nat.le_of_ble_eq_true rfl) dX9_hear_47 ?_
      refine r_iastN (lay_ok hL rfl) (by omega) (by decide) dX9_hear_50 ?_
      refine r_lay (lay_wI hL _ _ _) (fun hL => ?_)
      refine r_goto 78 dX9_hear_51 (by decide) ?_
      refine r_aload_n dX9_hear_78 rfl ?_
      refine r_getF kX9 (k := 36) (by decide) rfl fl_X9_93 (lay_ok hL rfl) (lay_r hL rfl) dX9_hear_79 ?_
      refine r_iload_n dX9_hear_82 rfl ?_
      refine r_iconst (1) dX9_hear_83 (by decide) ?_
      refine r_zastN (lay_ok hL rfl) (by omega) (by decide) (by decide) dX9_hear_84 ?_
      refine r_lay (lay_wI hL _ _ _) (fun hL => ?_)
      exact r_vret rfl dX9_hear_85 ⟨rfl, by rw [e]; exact BM_set hb (by simp [mI_wI]) (by simp [mI_wI]) (by simp [mI_wI, h2]) h3 (fun x u hu h1 h2 => by simp [mI_wI, hu]), (am_fr.wI _ _ (Or.inr (Or.inl rfl))).tr (am_fr.wI _ _ (Or.inl rfl))⟩
set_option maxHeartbeats 4000000 in
set_option maxRecDepth 100000 in
theorem c_X9_behind {l : Launch} {X : Nat × (Nat → Int32)} {M : am_M} (hL : Lay M) {k v : Nat} {x : Int32} {B : tB} (hk0 : mI M 93 3 = nI k) (hk : k ≤ 3) (hb : BM M B) (hv : v < 16) : am_F l yX9_behind cX9_behind 3 (some .int) 1 0 0 X [.ref 93, .int (nI v), .int x] M (some (.int (t_behind k B v x))) (M) := by
  refine am_C.of (by decide) (by simp [Value.category, va_rf]) (Nat.le_of_ble_eq_true rfl) ?_
  have hbv := hb v hv
  cases hc : B v with
  | none =>
    rw [hc] at hbv
    have hbv : mI M 120 v = 0 := hbv
    by_cases c2 : k = 2
    · have e : t_behind k B v x = 0 := by unfold t_behind; rw [hc]; exact if_pos c2
      refine r_aload_n dX9_behind_0 rfl ?_
      refine r_getE (nI k) kX9 (k := 3) (by decide) rfl fl_X9_121 (lay_ok hL rfl) dX9_behind_1 hk0 ?_
      refine r_iconst (nI 2) dX9_behind_4 (by decide) ?_
      refine r_icmp_ne 28 dX9_behind_5 (by decide) (fun hq => absurd (by rw [c2]) hq) (fun _ => ?_)
      refine r_aload_n dX9_behind_8 rfl ?_
      refine r_getF kX9 (k := 36) (by decide) rfl fl_X9_93 (lay_ok hL rfl) (lay_r hL rfl) dX9_behind_9 ?_
      refine r_iload_n dX9_behind_12 rfl ?_
      refine r_zaldE (0) (lay_ok hL rfl) (by omega) (by omega) dX9_behind_13 hbv ?_
      refine r_if_eq 26 dX9_behind_14 (by decide) (fun _ => ?_) (fun hq => absurd (by decide) hq)
      refine r_iconst (0) dX9_behind_26 (by decide) ?_
      exact r_iret (Or.inl rfl) dX9_behind_27 ⟨by rw [e], rfl⟩
    · have e : t_behind k B v x = x := by unfold t_behind; rw [hc]; exact if_neg c2
      refine r_aload_n dX9_behind_0 rfl ?_
      refine r_getE (nI k) kX9 (k := 3) (by decide) rfl fl_X9_121 (lay_ok hL rfl) dX9_behind_1 hk0 ?_
      refine r_iconst (nI 2) dX9_behind_4 (by decide) ?_
      refine r_icmp_ne 28 dX9_behind_5 (by decide) (fun _ => ?_) (fun hq => absurd hq (fun z => c2 ((nI_eq (b := 2) (by omega) (by decide)).mp z)))
      refine r_aload_n dX9_behind_28 rfl ?_
      refine r_getF kX9 (k := 36) (by decide) rfl fl_X9_93 (lay_ok hL rfl) (lay_r hL rfl) dX9_behind_29 ?_
      refine r_iload_n dX9_behind_32 rfl ?_
      refine r_zaldE (0) (lay_ok hL rfl) (by omega) (by omega) dX9_behind_33 hbv ?_
      refine r_if_ne 41 dX9_behind_34 (by decide) (fun hq => absurd (by decide) hq) (fun _ => ?_)
      refine r_iload_n dX9_behind_37 rfl ?_
      refine r_goto 69 dX9_behind_38 (by decide) ?_
      exact r_iret (Or.inl rfl) dX9_behind_69 ⟨by rw [e], rfl⟩
  | some q =>
    obtain ⟨y, b⟩ := q
    rw [hc] at hbv
    obtain ⟨h0, h1, h2, h3⟩ : mI M 120 v = 1 ∧ mI M 121 v = y ∧ mI M 122 v = nI b ∧ b < 40 := hbv
    by_cases c2 : k = 2
    · have e : t_behind k B v x = y := by unfold t_behind; rw [hc]; exact if_neg (by omega)
      refine r_aload_n dX9_behind_0 rfl ?_
      refine r_getE (nI k) kX9 (k := 3) (by decide) rfl fl_X9_121 (lay_ok hL rfl) dX9_behind_1 hk0 ?_
      refine r_iconst (nI 2) dX9_behind_4 (by decide) ?_
      refine r_icmp_ne 28 dX9_behind_5 (by decide) (fun hq => absurd (by rw [c2]) hq) (fun _ => ?_)
      refine r_aload_n dX9_behind_8 rfl ?_
      refine r_getF kX9 (k := 36) (by decide) rfl fl_X9_93 (lay_ok hL rfl) (lay_r hL rfl) dX9_behind_9 ?_
      refine r_iload_n dX9_behind_12 rfl ?_
      refine r_zaldE (1) (lay_ok hL rfl) (by omega) (by omega) dX9_behind_13 h0 ?_
      refine r_if_eq 26 dX9_behind_14 (by decide) (fun hq => absurd hq (by decide)) (fun _ => ?_)
      refine r_aload_n dX9_behind_17 rfl ?_
      refine r_getF kX9 (k := 37) (by decide) rfl fl_X9_96 (lay_ok hL rfl) (lay_r hL rfl) dX9_behind_18 ?_
      refine r_iload_n dX9_behind_21 rfl ?_
      refine r_ialdE (y) (lay_ok hL rfl) (by omega) (by omega) dX9_behind_22 h1 ?_
      refine r_goto 27 dX9_behind_23 (by decide) ?_
      exact r_iret (Or.inl rfl) dX9_behind_27 ⟨by rw [e], rfl⟩
    · by_cases c3 : k = 3
      · have e : t_behind k B v x = y := by unfold t_behind; rw [hc]; exact if_neg (by omega)
        refine r_aload_n dX9_behind_0 rfl ?_
        refine r_getE (nI k) kX9 (k := 3) (by decide) rfl fl_X9_121 (lay_ok hL rfl) dX9_behind_1 hk0 ?_
        refine r_iconst (nI 2) dX9_behind_4 (by decide) ?_
        refine r_icmp_ne 28 dX9_behind_5 (by decide) (fun _ => ?_) (fun hq => absurd hq (fun z => c2 ((nI_eq (b := 2) (by omega) (by decide)).mp z)))
        refine r_aload_n dX9_behind_28 rfl ?_
        refine r_getF kX9 (k := 36) (by decide) rfl fl_X9_93 (lay_ok hL rfl) (lay_r hL rfl) dX9_behind_29 ?_
        refine r_iload_n dX9_behind_32 rfl ?_
        refine r_zaldE (1) (lay_ok hL rfl) (by omega) (by omega) dX9_behind_33 h0 ?_
        refine r_if_ne 41 dX9_behind_34 (by decide) (fun _ => ?_) (fun hq => absurd hq (by decide))
        refine r_aload_n dX9_behind_41 rfl ?_
        refine r_getE (nI k) kX9 (k := 3) (by decide) rfl fl_X9_121 (lay_ok hL rfl) dX9_behind_42 hk0 ?_
        refine r_iconst (nI 3) dX9_behind_45 (by decide) ?_
        refine r_icmp_ne 58 dX9_behind_46 (by decide) (fun hq => absurd (by rw [c3]) hq) (fun _ => ?_)
        refine r_aload_n dX9_behind_49 rfl ?_
        refine r_getF kX9 (k := 37) (by decide) rfl fl_X9_96 (lay_ok hL rfl) (lay_r hL rfl) dX9_behind_50 ?_
        refine r_iload_n dX9_behind_53 rfl ?_
        refine r_ialdE (y) (lay_ok hL rfl) (by omega) (by omega) dX9_behind_54 h1 ?_
        refine r_goto 69 dX9_behind_55 (by decide) ?_
        exact r_iret (Or.inl rfl) dX9_behind_69 ⟨by rw [e], rfl⟩
      · have e : t_behind k B v x = t_fold k x y := by unfold t_behind; rw [hc]; exact if_pos (by omega)
        refine r_aload_n dX9_behind_0 rfl ?_
        refine r_getE (nI k) kX9 (k := 3) (by decide) rfl fl_X9_121 (lay_ok hL rfl) dX9_behind_1 hk0 ?_
        refine r_iconst (nI 2) dX9_behind_4 (by decide) ?_
        refine r_icmp_ne 28 dX9_behind_5 (by decide) (fun _ => ?_) (fun hq => absurd hq (fun z => c2 ((nI_eq (b := 2) (by omega) (by decide)).mp z)))
        refine r_aload_n dX9_behind_28 rfl ?_
        refine r_getF kX9 (k := 36) (by decide) rfl fl_X9_93 (lay_ok hL rfl) (lay_r hL rfl) dX9_behind_29 ?_
        refine r_iload_n dX9_behind_32 rfl ?_
        refine r_zaldE (1) (lay_ok hL rfl) (by omega) (by omega) dX9_behind_33 h0 ?_
        refine r_if_ne 41 dX9_behind_34 (by decide) (fun _ => ?_) (fun hq => absurd hq (by decide))
        refine r_aload_n dX9_behind_41 rfl ?_
        refine r_getE (nI k) kX9 (k := 3) (by decide) rfl fl_X9_121 (lay_ok hL rfl) dX9_behind_42 hk0 ?_
        refine r_iconst (nI 3) dX9_behind_45 (by decide) ?_
        refine r_icmp_ne 58 dX9_behind_46 (by decide) (fun _ => ?_) (fun hq => absurd hq (fun z => c3 ((nI_eq (b := 3) (by omega) (by decide)).mp z)))
        refine r_aload_n dX9_behind_58 rfl ?_
        refine r_iload_n dX9_behind_59 rfl ?_
        refine r_aload_n dX9_behind_60 rfl ?_
        refine r_getF kX9 (k := 37) (by decide) rfl fl_X9_96 (lay_ok hL rfl) (lay_r hL rfl) dX9_behind_61 ?_
        refine r_iload_n dX9_behind_64 rfl ?_
        refine r_ialdE (y) (lay_ok hL rfl) (by omega) (by omega) dX9_behind_65 h1 ?_
        refine r_cV ca_yX9_folded ml_X9_154 im_yX9_folded se_yX9_folded (by decide) rfl (lay_ok hL rfl) (c_X9_folded hL hk0 (by omega)) ⟨by decide, by decide⟩ (by first | decide | omega) (by first | decide | omega) rfl (Nat.le_of_ble_eq_true rfl) dX9_behind_66 ?_
        exact r_iret (Or.inl rfl) dX9_behind_69 ⟨by rw [e], rfl⟩
set_option maxHeartbeats 4000000 in
set_option maxRecDepth 100000 in
theorem c_X9_layMark {l : Launch} {X : Nat × (Nat → Int32)} {M : am_M} (hL : Lay M) {a b v : Nat} (ha : a < 10) (hb : b < 10) (hv : v < 16) (hz : mI M 118 (16 * a + v) = 0 ∨ mI M 118 (16 * a + v) = 1) : am_F l yX9_layMark cX9_layMark 4 (none) 0 0 0 X [.ref 93, .int (nI a), .int (nI b), .int (nI v)] M (none) (wI (wI (wI M 116 (16 * b + v) (mI M 116 (16 * a + v))) 117 (16 * b + v) (mI M 117 (16 * a + v))) 118 (16 * b + v) (mI M 118 (16 * a + v))) := by
  refine am_C.of (by decide) (by simp [Value.category, va_rf]) (Nat.le_of_ble_eq_true rfl) ?_
  refine r_aload_n dX9_layMark_0 rfl ?_
  refine r_getF kX9 (k := 30) (by decide) rfl fl_X9_81 (lay_ok hL rfl) (lay_r hL rfl) dX9_layMark_1 ?_
  refine r_bipush (nI 16) dX9_layMark_4 (by decide) ?_
  refine r_iload_n dX9_layMark_6 rfl ?_
  refine r_imul dX9_layMark_7 ?_
  refine r_top (nI (16 * b)) (nI_mul _ _) ?_
  refine r_iload_n dX9_layMark_8 rfl ?_
  refine r_iadd dX9_layMark_9 ?_
  refine r_top (nI ((16 * b) + v)) (nI_add _ _) ?_
  refine r_aload_n dX9_layMark_10 rfl ?_
  refine r_getF kX9 (k := 30) (by decide) rfl fl_X9_81 (lay_ok hL rfl) (lay_r hL rfl) dX9_layMark_11 ?_
  refine r_bipush (nI 16) dX9_layMark_14 (by decide) ?_
  refine r_iload_n dX9_layMark_16 rfl ?_
  refine r_imul dX9_layMark_17 ?_
  refine r_top (nI (16 * a)) (nI_mul _ _) ?_
  refine r_iload_n dX9_layMark_18 rfl ?_
  refine r_iadd dX9_layMark_19 ?_
  refine r_top (nI ((16 * a) + v)) (nI_add _ _) ?_
  refine r_ialdN (lay_ok hL rfl) (by omega) (by decide) dX9_layMark_20 ?_
  refine r_iastN (lay_ok hL rfl) (by omega) (by decide) dX9_layMark_21 ?_
  refine r_lay (lay_wI hL _ _ _) (fun hL => ?_)
  refine r_aload_n dX9_layMark_22 rfl ?_
  refine r_getF kX9 (k := 31) (by decide) rfl fl_X9_84 (lay_ok hL rfl) (lay_r hL rfl) dX9_layMark_23 ?_
  refine r_bipush (nI 16) dX9_layMark_26 (by decide) ?_
  refine r_iload_n dX9_layMark_28 rfl ?_
  refine r_imul dX9_layMark_29 ?_
  refine r_top (nI (16 * b)) (nI_mul _ _) ?_
  refine r_iload_n dX9_layMark_30 rfl ?_
  refine r_iadd dX9_layMark_31 ?_
  refine r_top (nI ((16 * b) + v)) (nI_add _ _) ?_
  refine r_aload_n dX9_layMark_32 rfl ?_
  refine r_getF kX9 (k := 31) (by decide) rfl fl_X9_84 (lay_ok hL rfl) (lay_r hL rfl) dX9_layMark_33 ?_
  refine r_bipush (nI 16) dX9_layMark_36 (by decide) ?_
  refine r_iload_n dX9_layMark_38 rfl ?_
  refine r_imul dX9_layMark_39 ?_
  refine r_top (nI (16 * a)) (nI_mul _ _) ?_
  refine r_iload_n dX9_layMark_40 rfl ?_
  refine r_iadd dX9_layMark_41 ?_
  refine r_top (nI ((16 * a) + v)) (nI_add _ _) ?_
  refine r_ialdE (mI M 117 (16 * a + v)) (lay_ok hL rfl) (by omega) (by omega) dX9_layMark_42 (by rw [mI_wI_n _ _ _ (by decide)]) ?_
  refine r_iastN (lay_ok hL rfl) (by omega) (by decide) dX9_layMark_43 ?_
  refine r_lay (lay_wI hL _ _ _) (fun hL => ?_)
  refine r_aload_n dX9_layMark_44 rfl ?_
  refine r_getF kX9 (k := 32) (by decide) rfl fl_X9_87 (lay_ok hL rfl) (lay_r hL rfl) dX9_layMark_45 ?_
  refine r_bipush (nI 16) dX9_layMark_48 (by decide) ?_
  refine r_iload_n dX9_layMark_50 rfl ?_
  refine r_imul dX9_layMark_51 ?_
  refine r_top (nI (16 * b)) (nI_mul _ _) ?_
  refine r_iload_n dX9_layMark_52 rfl ?_
  refine r_iadd dX9_layMark_53 ?_
  refine r_top (nI ((16 * b) + v)) (nI_add _ _) ?_
  refine r_aload_n dX9_layMark_54 rfl ?_
  refine r_getF kX9 (k := 32) (by decide) rfl fl_X9_87 (lay_ok hL rfl) (lay_r hL rfl) dX9_layMark_55 ?_
  refine r_bipush (nI 16) dX9_layMark_58 (by decide) ?_
  refine r_iload_n dX9_layMark_60 rfl ?_
  refine r_imul dX9_layMark_61 ?_
  refine r_top (nI (16 * a)) (nI_mul _ _) ?_
  refine r_iload_n dX9_layMark_62 rfl ?_
  refine r_iadd dX9_layMark_63 ?_
  refine r_top (nI ((16 * a) + v)) (nI_add _ _) ?_
  refine r_zaldE (mI M 118 (16 * a + v)) (lay_ok hL rfl) (by omega) (by omega) dX9_layMark_64 (by rw [mI_wI_n _ _ _ (by decide), mI_wI_n _ _ _ (by decide)]) ?_
  refine r_zastN (lay_ok hL rfl) (by omega) (by decide) hz dX9_layMark_65 ?_
  refine r_lay (lay_wI hL _ _ _) (fun hL => ?_)
  exact r_vret rfl dX9_layMark_66 ⟨rfl, rfl⟩
def fg (n i : Nat) (f : Nat → Int32) : Nat → Int32 := fun j => if (110 + 10 * n ≤ j ∧ j < 110 + 10 * n + i) ∨ (60 + 10 * n ≤ j ∧ j < 60 + 10 * n + i) then 0 else f j
theorem fg_0 (n : Nat) (f : Nat → Int32) : fg n 0 f = f := by funext j; simp only [fg]; rw [if_neg (by omega)]
theorem fg_s (M : am_M) (n i : Nat) (f : Nat → Int32) : wI (wI (wF M 105 (fg n i f)) 105 (110 + 10 * n + i) 0) 105 (60 + 10 * n + i) 0 = wF M 105 (fg n (i + 1) f) := by
  rw [wI_wF, wI_wF]
  congr 1
  funext j
  by_cases c : j = 60 + 10 * n + i
  · subst c
    rw [va_up_self]
    simp only [fg]
    rw [if_pos (by omega)]
  · rw [va_up_ne _ _ c]
    by_cases d : j = 110 + 10 * n + i
    · subst d
      rw [va_up_self]
      simp only [fg]
      rw [if_pos (by omega)]
    · rw [va_up_ne _ _ d]
      simp only [fg]
      by_cases e : (110 + 10 * n ≤ j ∧ j < 110 + 10 * n + i) ∨ (60 + 10 * n ≤ j ∧ j < 60 + 10 * n + i)
      · rw [if_pos e, if_pos (by omega)]
      · rw [if_neg e, if_neg (by omega)]
set_option maxHeartbeats 4000000 in
set_option maxRecDepth 100000 in
theorem l_X9_forget {l : Launch} {X : Nat × (Nat → Int32)} {M : am_M} (hL : Lay M) {n : Nat} (hn : n < 5) : ∀ k i : Nat, i + k = 10 → am_V l yX9_forget cX9_forget 3 (none) (am_R 0 0 0) 0 0 X (fun v M' => v = none ∧ M' = wF M 105 (fg n 10 (mI M 105))) 0 0 2 [some (.ref 93), some (.int (nI n)), some (.int (nI i))] [] (wF M 105 (fg n i (mI M 105))) := by
  intro k
  induction k with
  | zero =>
    intro i hi
    obtain rfl : i = 10 := by omega
    refine r_iload_n dX9_forget_2 rfl ?_
    refine r_bipush (nI 10) dX9_forget_3 (by decide) ?_
    refine r_icmp_ge 44 dX9_forget_5 (by decide) (fun _ => ?_) (fun hq => absurd (nI_le (Nat.le_refl 10) (by decide)) hq)
    exact r_vret rfl dX9_forget_44 ⟨rfl, rfl⟩
  | succ k ih =>
    intro i hi
    have hL := lay_wF hL 105 (fg n i (mI M 105))
    refine r_iload_n dX9_forget_2 rfl ?_
    refine r_bipush (nI 10) dX9_forget_3 (by decide) ?_
    refine r_icmp_ge 44 dX9_forget_5 (by decide) (fun hq => absurd hq (nI_ge (by omega) (by decide))) (fun _ => ?_)
    refine r_aload_n dX9_forget_8 rfl ?_
    refine r_getF kX9 (k := 19) (by decide) rfl fl_X9_48 (lay_ok hL rfl) (lay_r hL rfl) dX9_forget_9 ?_
    refine r_bipush (nI 110) dX9_forget_12 (by decide) ?_
    refine r_bipush (nI 10) dX9_forget_14 (by decide) ?_
    refine r_iload_n dX9_forget_16 rfl ?_
    refine r_imul dX9_forget_17 ?_
    refine r_top (nI (10 * n)) (nI_mul _ _) ?_
    refine r_iadd dX9_forget_18 ?_
    refine r_top (nI (110 + (10 * n))) (nI_add _ _) ?_
    refine r_iload_n dX9_forget_19 rfl ?_
    refine r_iadd dX9_forget_20 ?_
    refine r_top (nI ((110 + (10 * n)) + i)) (nI_add _ _) ?_
    refine r_iconst (0) dX9_forget_21 (by decide) ?_
    refine r_zastN (lay_ok hL rfl) (by omega) (by decide) (by decide) dX9_forget_22 ?_
    refine r_lay (lay_wI hL _ _ _) (fun hL => ?_)
    refine r_aload_n dX9_forget_23 rfl ?_
    refine r_getF kX9 (k := 19) (by decide) rfl fl_X9_48 (lay_ok hL rfl) (lay_r hL rfl) dX9_forget_24 ?_
    refine r_bipush (nI 60) dX9_forget_27 (by decide) ?_
    refine r_bipush (nI 10) dX9_forget_29 (by decide) ?_
    refine r_iload_n dX9_forget_31 rfl ?_
    refine r_imul dX9_forget_32 ?_
    refine r_top (nI (10 * n)) (nI_mul _ _) ?_
    refine r_iadd dX9_forget_33 ?_
    refine r_top (nI (60 + (10 * n))) (nI_add _ _) ?_
    refine r_iload_n dX9_forget_34 rfl ?_
    refine r_iadd dX9_forget_35 ?_
    refine r_top (nI ((60 + (10 * n)) + i)) (nI_add _ _) ?_
    refine r_iconst (0) dX9_forget_36 (by decide) ?_
    refine r_zastN (lay_ok hL rfl) (by omega) (by decide) (by decide) dX9_forget_37 ?_
    refine r_lay (lay_wI hL _ _ _) (fun hL => ?_)
    refine r_iinc (nI (i + 1)) _ dX9_forget_38 (by decide) rfl (nI_1 _) rfl ?_
    refine r_goto 2 dX9_forget_41 (by decide) ?_
    have q := ih (i + 1) (by omega)
    rw [← fg_s M n i (mI M 105)] at q
    exact q
set_option maxHeartbeats 4000000 in
set_option maxRecDepth 100000 in
theorem c_X9_forget {l : Launch} {X : Nat × (Nat → Int32)} {M : am_M} (hL : Lay M) {n : Nat} (hn : n < 5) : am_F l yX9_forget cX9_forget 3 (none) 0 0 0 X [.ref 93, .int (nI n)] M (none) (wF M 105 (fg n 10 (mI M 105))) := by
  refine am_C.of (by decide) (by simp [Value.category, va_rf]) (Nat.le_of_ble_eq_true rfl) ?_
  refine r_iconst (nI 0) dX9_forget_0 (by decide) ?_
  refine r_istore_n _ dX9_forget_1 (by decide) rfl ?_
  have q := l_X9_forget (l := l) (X := X) hL hn 10 0 (by omega)
  rw [fg_0, wF_id] at q
  exact q
set_option maxHeartbeats 4000000 in
set_option maxRecDepth 100000 in
theorem c_X9_hasMark {l : Launch} {X : Nat × (Nat → Int32)} {M : am_M} (hL : Lay M) {n : Nat} {x : Int32} (hn : n < 5) : am_F l yX9_hasMark cX9_hasMark 3 (some .boolean) 0 0 0 X [.ref 93, .int (nI n), .int x] M (some (.int (if mI M 115 (2 * n + 1) = x ∨ mI M 115 (2 * n) = x then 1 else 0))) (M) := by
  refine am_C.of (by decide) (by simp [Value.category, va_rf]) (Nat.le_of_ble_eq_true rfl) ?_
  refine r_aload_n dX9_hasMark_0 rfl ?_
  refine r_getF kX9 (k := 29) (by decide) rfl fl_X9_78 (lay_ok hL rfl) (lay_r hL rfl) dX9_hasMark_1 ?_
  refine r_iconst (nI 2) dX9_hasMark_4 (by decide) ?_
  refine r_iload_n dX9_hasMark_5 rfl ?_
  refine r_imul dX9_hasMark_6 ?_
  refine r_top (nI (2 * n)) (nI_mul _ _) ?_
  refine r_ialdN (lay_ok hL rfl) (by omega) (by decide) dX9_hasMark_7 ?_
  refine r_iload_n dX9_hasMark_8 rfl ?_
  refine r_icmp_eq 26 dX9_hasMark_9 (by decide) (fun c9 => ?_) (fun c9 => ?_)
  · refine r_iconst (1) dX9_hasMark_26 (by decide) ?_
    refine r_goto 31 dX9_hasMark_27 (by decide) ?_
    exact r_iret (Or.inr ⟨rfl, by first | exact Or.inl rfl | exact Or.inr rfl⟩) dX9_hasMark_31 ⟨by first | rw [if_pos (Or.inr c9)] | rw [if_pos (Or.inl c23)] | rw [if_neg (fun z => z.elim c23 c9)], rfl⟩
  · refine r_aload_n dX9_hasMark_12 rfl ?_
    refine r_getF kX9 (k := 29) (by decide) rfl fl_X9_78 (lay_ok hL rfl) (lay_r hL rfl) dX9_hasMark_13 ?_
    refine r_iconst (nI 2) dX9_hasMark_16 (by decide) ?_
    refine r_iload_n dX9_hasMark_17 rfl ?_
    refine r_imul dX9_hasMark_18 ?_
    refine r_top (nI (2 * n)) (nI_mul _ _) ?_
    refine r_iconst (nI 1) dX9_hasMark_19 (by decide) ?_
    refine r_iadd dX9_hasMark_20 ?_
    refine r_top (nI ((2 * n) + 1)) (nI_add _ _) ?_
    refine r_ialdN (lay_ok hL rfl) (by omega) (by decide) dX9_hasMark_21 ?_
    refine r_iload_n dX9_hasMark_22 rfl ?_
    refine r_icmp_ne 30 dX9_hasMark_23 (by decide) (fun c23 => ?_) (fun c23 => ?_)
    · refine r_iconst (0) dX9_hasMark_30 (by decide) ?_
      exact r_iret (Or.inr ⟨rfl, by first | exact Or.inl rfl | exact Or.inr rfl⟩) dX9_hasMark_31 ⟨by first | rw [if_pos (Or.inr c9)] | rw [if_pos (Or.inl c23)] | rw [if_neg (fun z => z.elim c23 c9)], rfl⟩
    · refine r_iconst (1) dX9_hasMark_26 (by decide) ?_
      refine r_goto 31 dX9_hasMark_27 (by decide) ?_
      exact r_iret (Or.inr ⟨rfl, by first | exact Or.inl rfl | exact Or.inr rfl⟩) dX9_hasMark_31 ⟨by first | rw [if_pos (Or.inr c9)] | rw [if_pos (Or.inl c23)] | rw [if_neg (fun z => z.elim c23 c9)], rfl⟩
set_option maxHeartbeats 4000000 in
set_option maxRecDepth 100000 in
theorem l_X9_activeAt {l : Launch} {X : Nat × (Nat → Int32)} {M : am_M} (hL : Lay M) {g : tG} {n : Nat} (hS : mI M 93 1 = nI (gs g 1)) (hV : yV M g) (hB : gB g) (hn : n < 5) : ∀ k i : Nat, i + k = gs g 1 → am_V l yX9_activeAt cX9_activeAt 4 (some .int) (am_R 0 0 0) 0 0 X (fun v M' => v = some (.int (nI (t_act g n))) ∧ M' = M) 0 0 4 [some (.ref 93), some (.int (nI n)), some (.int (nI (itr (fun v c => if ga g 0 v = n ∧ ga g 1 v = 1 then c + 1 else c) i 0))), some (.int (nI i))] [] M := by
  intro k
  have b2 := hB.2.2.1
  induction k with
  | zero =>
    intro i hi
    obtain rfl : i = gs g 1 := by omega
    refine r_iload_n dX9_activeAt_4 rfl ?_
    refine r_aload_n dX9_activeAt_5 rfl ?_
    refine r_getE (nI (gs g 1)) kX9 (k := 1) (by decide) rfl fl_X9_115 (lay_ok hL rfl) dX9_activeAt_6 hS ?_
    refine r_icmp_ge 45 dX9_activeAt_9 (by decide) (fun _ => ?_) (fun hq => absurd (nI_le (Nat.le_refl _) (by omega)) hq)
    refine r_iload_n dX9_activeAt_45 rfl ?_
    exact r_iret (Or.inl rfl) dX9_activeAt_46 ⟨rfl, rfl⟩
  | succ k ih =>
    intro i hi
    obtain ⟨-, -, -, v3, v4⟩ := hV i (by omega)
    obtain ⟨w1, w2⟩ := hB.2.2.2.2.2.2.2.2.2.2.1 i (by omega)
    have b1 := hB.2.1
    have q := ih (i + 1) (by omega)
    rw [itr_s (fun v c => if ga g 0 v = n ∧ ga g 1 v = 1 then c + 1 else c) i 0] at q
    refine r_iload_n dX9_activeAt_4 rfl ?_
    refine r_aload_n dX9_activeAt_5 rfl ?_
    refine r_getE (nI (gs g 1)) kX9 (k := 1) (by decide) rfl fl_X9_115 (lay_ok hL rfl) dX9_activeAt_6 hS ?_
    refine r_icmp_ge 45 dX9_activeAt_9 (by decide) (fun hq => absurd hq (nI_ge (by omega) (by omega))) (fun _ => ?_)
    refine r_iload_n dX9_activeAt_12 rfl ?_
    refine r_aload_n dX9_activeAt_13 rfl ?_
    refine r_getF kX9 (k := 11) (by decide) rfl fl_X9_27 (lay_ok hL rfl) (lay_r hL rfl) dX9_activeAt_14 ?_
    refine r_iload_n dX9_activeAt_17 rfl ?_
    refine r_ialdE (nI (ga g 0 i)) (lay_ok hL rfl) (by omega) (by omega) dX9_activeAt_18 v4 ?_
    refine r_iload_n dX9_activeAt_19 rfl ?_
    refine r_icmp_ne 36 dX9_activeAt_20 (by decide) (fun c20 => ?_) (fun c20 => ?_)
    · refine r_iconst (nI 0) dX9_activeAt_36 (by decide) ?_
      refine r_iadd dX9_activeAt_37 ?_
      refine r_top (nI ((itr (fun v c => if ga g 0 v = n ∧ ga g 1 v = 1 then c + 1 else c) i 0) + 0)) (nI_add _ _) ?_
      refine r_istore_n _ dX9_activeAt_38 (by decide) rfl ?_
      refine r_iinc (nI (i + 1)) _ dX9_activeAt_39 (by decide) rfl (nI_1 _) rfl ?_
      refine r_goto 4 dX9_activeAt_42 (by decide) ?_
      rw [if_neg (fun z => c20 (by rw [z.1]))] at q
      exact q
    · refine r_aload_n dX9_activeAt_23 rfl ?_
      refine r_getF kX9 (k := 10) (by decide) rfl fl_X9_23 (lay_ok hL rfl) (lay_r hL rfl) dX9_activeAt_24 ?_
      refine r_iload_n dX9_activeAt_27 rfl ?_
      refine r_zaldE (nI (ga g 1 i)) (lay_ok hL rfl) (by omega) (by omega) dX9_activeAt_28 v3 ?_
      refine r_if_eq 36 dX9_activeAt_29 (by decide) (fun c29 => ?_) (fun c29 => ?_)
      · refine r_iconst (nI 0) dX9_activeAt_36 (by decide) ?_
        refine r_iadd dX9_activeAt_37 ?_
        refine r_top (nI ((itr (fun v c => if ga g 0 v = n ∧ ga g 1 v = 1 then c + 1 else c) i 0) + 0)) (nI_add _ _) ?_
        refine r_istore_n _ dX9_activeAt_38 (by decide) rfl ?_
        refine r_iinc (nI (i + 1)) _ dX9_activeAt_39 (by decide) rfl (nI_1 _) rfl ?_
        refine r_goto 4 dX9_activeAt_42 (by decide) ?_
        rw [if_neg (fun z => absurd c29 (by rw [z.2]; decide))] at q
        exact q
      · refine r_iconst (nI 1) dX9_activeAt_32 (by decide) ?_
        refine r_goto 37 dX9_activeAt_33 (by decide) ?_
        refine r_iadd dX9_activeAt_37 ?_
        refine r_top (nI ((itr (fun v c => if ga g 0 v = n ∧ ga g 1 v = 1 then c + 1 else c) i 0) + 1)) (nI_add _ _) ?_
        refine r_istore_n _ dX9_activeAt_38 (by decide) rfl ?_
        refine r_iinc (nI (i + 1)) _ dX9_activeAt_39 (by decide) rfl (nI_1 _) rfl ?_
        refine r_goto 4 dX9_activeAt_42 (by decide) ?_
        rw [if_pos ⟨(nI_eq (by omega) (by omega)).mp c20, Nat.le_antisymm w2 (Nat.pos_of_ne_zero (fun z => c29 (by rw [z]; rfl)))⟩] at q
        exact q
set_option maxHeartbeats 4000000 in
set_option maxRecDepth 100000 in
theorem c_X9_activeAt {l : Launch} {X : Nat × (Nat → Int32)} {M : am_M} (hL : Lay M) {g : tG} {n : Nat} (hS : mI M 93 1 = nI (gs g 1)) (hV : yV M g) (hB : gB g) (hn : n < 5) : am_F l yX9_activeAt cX9_activeAt 4 (some .int) 0 0 0 X [.ref 93, .int (nI n)] M (some (.int (nI (t_act g n)))) (M) := by
  refine am_C.of (by decide) (by simp [Value.category, va_rf]) (Nat.le_of_ble_eq_true rfl) ?_
  refine r_iconst (nI 0) dX9_activeAt_0 (by decide) ?_
  refine r_istore_n _ dX9_activeAt_1 (by decide) rfl ?_
  refine r_iconst (nI 0) dX9_activeAt_2 (by decide) ?_
  refine r_istore_n _ dX9_activeAt_3 (by decide) rfl ?_
  exact l_X9_activeAt hL hS hV hB hn (gs g 1) 0 (by omega)
theorem yO_is {M : am_M} {s : Nat} {t : Option tL} (h : yO M s t) : mI M 105 s = nI (if t.isSome = true then 1 else 0) := by
  cases t with
  | none => exact h
  | some t => exact h.1
set_option maxHeartbeats 4000000 in
set_option maxRecDepth 100000 in
theorem l_X9_letters {l : Launch} {X : Nat × (Nat → Int32)} {M : am_M} (hL : Lay M) {g : tG} {n : Nat} (hS : mI M 93 0 = nI (gs g 0)) (h5 : gs g 0 ≤ 5) (hH : yH M g) (hn : n < 5) : ∀ k i : Nat, i + k = gs g 0 → am_V l yX9_letters cX9_letters 4 (some .int) (am_R 1 0 0) 0 0 X (fun v M' => v = some (.int (nI (t_held g n))) ∧ M' = M) 0 0 4 [some (.ref 93), some (.int (nI n)), some (.int (nI (itr (fun o c => if (gl g 0 n o).isSome = true then c + 1 else c) i 0))), some (.int (nI i))] [] M := by
  intro k
  induction k with
  | zero =>
    intro i hi
    obtain rfl : i = gs g 0 := by omega
    refine r_iload_n dX9_letters_4 rfl ?_
    refine r_aload_n dX9_letters_5 rfl ?_
    refine r_getE (nI (gs g 0)) kX9 (k := 0) (by decide) rfl fl_X9_7 (lay_ok hL rfl) dX9_letters_6 hS ?_
    refine r_icmp_ge 41 dX9_letters_9 (by decide) (fun _ => ?_) (fun hq => absurd (nI_le (Nat.le_refl _) (by omega)) hq)
    refine r_iload_n dX9_letters_41 rfl ?_
    exact r_iret (Or.inl rfl) dX9_letters_42 ⟨rfl, rfl⟩
  | succ k ih =>
    intro i hi
    have e := yO_is (hH n i 0 hn (by omega) (by decide)).1
    have q := ih (i + 1) (by omega)
    rw [itr_s (fun o c => if (gl g 0 n o).isSome = true then c + 1 else c) i 0] at q
    by_cases c : (gl g 0 n i).isSome = true
    · rw [if_pos c] at q e
      refine r_iload_n dX9_letters_4 rfl ?_
      refine r_aload_n dX9_letters_5 rfl ?_
      refine r_getE (nI (gs g 0)) kX9 (k := 0) (by decide) rfl fl_X9_7 (lay_ok hL rfl) dX9_letters_6 hS ?_
      refine r_icmp_ge 41 dX9_letters_9 (by decide) (fun hq => absurd hq (nI_ge (by omega) (by omega))) (fun _ => ?_)
      refine r_iload_n dX9_letters_12 rfl ?_
      refine r_aload_n dX9_letters_13 rfl ?_
      refine r_getF kX9 (k := 19) (by decide) rfl fl_X9_48 (lay_ok hL rfl) (lay_r hL rfl) dX9_letters_14 ?_
      refine r_aload_n dX9_letters_17 rfl ?_
      refine r_iload_n dX9_letters_18 rfl ?_
      refine r_iconst (nI 0) dX9_letters_19 (by decide) ?_
      refine r_iload_n dX9_letters_20 rfl ?_
      refine r_cV ca_yX9_has ml_X9_181 im_yX9_has se_yX9_has (by decide) rfl (lay_ok hL rfl) (c_X9_has hL) ⟨by decide, by decide⟩ (by first | decide | omega) (by first | decide | omega) rfl (Nat.le_of_ble_eq_true rfl) dX9_letters_21 ?_
      refine r_zaldE (1) (lay_ok hL rfl) (by omega) (by omega) dX9_letters_24 e ?_
      refine r_if_eq 32 dX9_letters_25 (by decide) (fun hq => absurd hq (by decide)) (fun _ => ?_)
      refine r_iconst (nI 1) dX9_letters_28 (by decide) ?_
      refine r_goto 33 dX9_letters_29 (by decide) ?_
      refine r_iadd dX9_letters_33 ?_
      refine r_top (nI ((itr (fun o c => if (gl g 0 n o).isSome = true then c + 1 else c) i 0) + 1)) (nI_add _ _) ?_
      refine r_istore_n _ dX9_letters_34 (by decide) rfl ?_
      refine r_iinc (nI (i + 1)) _ dX9_letters_35 (by decide) rfl (nI_1 _) rfl ?_
      refine r_goto 4 dX9_letters_38 (by decide) ?_
      exact q
    · rw [if_neg c] at q e
      refine r_iload_n dX9_letters_4 rfl ?_
      refine r_aload_n dX9_letters_5 rfl ?_
      refine r_getE (nI (gs g 0)) kX9 (k := 0) (by decide) rfl fl_X9_7 (lay_ok hL rfl) dX9_letters_6 hS ?_
      refine r_icmp_ge 41 dX9_letters_9 (by decide) (fun hq => absurd hq (nI_ge (by omega) (by omega))) (fun _ => ?_)
      refine r_iload_n dX9_letters_12 rfl ?_
      refine r_aload_n dX9_letters_13 rfl ?_
      refine r_getF kX9 (k := 19) (by decide) rfl fl_X9_48 (lay_ok hL rfl) (lay_r hL rfl) dX9_letters_14 ?_
      refine r_aload_n dX9_letters_17 rfl ?_
      refine r_iload_n dX9_letters_18 rfl ?_
      refine r_iconst (nI 0) dX9_letters_19 (by decide) ?_
      refine r_iload_n dX9_letters_20 rfl ?_
      refine r_cV ca_yX9_has ml_X9_181 im_yX9_has se_yX9_has (by decide) rfl (lay_ok hL rfl) (c_X9_has hL) ⟨by decide, by decide⟩ (by first | decide | omega) (by first | decide | omega) rfl (Nat.le_of_ble_eq_true rfl) dX9_letters_21 ?_
      refine r_zaldE (0) (lay_ok hL rfl) (by omega) (by omega) dX9_letters_24 e ?_
      refine r_if_eq 32 dX9_letters_25 (by decide) (fun _ => ?_) (fun hq => absurd (by decide) hq)
      refine r_iconst (nI 0) dX9_letters_32 (by decide) ?_
      refine r_iadd dX9_letters_33 ?_
      refine r_top (nI ((itr (fun o c => if (gl g 0 n o).isSome = true then c + 1 else c) i 0) + 0)) (nI_add _ _) ?_
      refine r_istore_n _ dX9_letters_34 (by decide) rfl ?_
      refine r_iinc (nI (i + 1)) _ dX9_letters_35 (by decide) rfl (nI_1 _) rfl ?_
      refine r_goto 4 dX9_letters_38 (by decide) ?_
      exact q
set_option maxHeartbeats 4000000 in
set_option maxRecDepth 100000 in
theorem c_X9_letters {l : Launch} {X : Nat × (Nat → Int32)} {M : am_M} (hL : Lay M) {g : tG} {n : Nat} (hS : mI M 93 0 = nI (gs g 0)) (h5 : gs g 0 ≤ 5) (hH : yH M g) (hn : n < 5)  : am_F l yX9_letters cX9_letters 4 (some .int) 1 0 0 X [.ref 93, .int (nI n)] M (some (.int (nI (t_held g n)))) (M) := by
  refine am_C.of (by decide) (by simp [Value.category, va_rf]) (Nat.le_of_ble_eq_true rfl) ?_
  refine r_iconst (nI 0) dX9_letters_0 (by decide) ?_
  refine r_istore_n _ dX9_letters_1 (by decide) rfl ?_
  refine r_iconst (nI 0) dX9_letters_2 (by decide) ?_
  refine r_istore_n _ dX9_letters_3 (by decide) rfl ?_
  exact l_X9_letters hL hS h5 hH hn (gs g 0) 0 (by omega)
def cpE (a b i : Nat) (M N : am_M) : Prop := am_fr (fun x => x = 112 ∨ x = 113 ∨ x = 114) M N ∧ ∀ x, 112 ≤ x → x ≤ 114 → ∀ j, mI N x j = if 40 * b ≤ j ∧ j < 40 * b + i then mI M x (40 * a + (j - 40 * b)) else mI M x j
theorem cpE_s {a b i : Nat} {M N : am_M} (h : cpE a b i M N) (hab : a ≠ b) (hi : i < 40) : cpE a b (i + 1) M (wI (wI (wI N 112 (40 * b + i) (mI M 112 (40 * a + i))) 113 (40 * b + i) (mI M 113 (40 * a + i))) 114 (40 * b + i) (mI M 114 (40 * a + i))) := by
  refine ⟨h.1.tr (((am_fr.wI _ _ (Or.inl rfl)).tr (am_fr.wI _ _ (Or.inr (Or.inl rfl)))).tr (am_fr.wI _ _ (Or.inr (Or.inr rfl)))), fun x h1 h2 j => ?_⟩
  have e : mI (wI (wI (wI N 112 (40 * b + i) (mI M 112 (40 * a + i))) 113 (40 * b + i) (mI M 113 (40 * a + i))) 114 (40 * b + i) (mI M 114 (40 * a + i))) x j = if j = 40 * b + i then mI M x (40 * a + i) else mI N x j := by
    rcases (show x = 112 ∨ x = 113 ∨ x = 114 by omega) with rfl | rfl | rfl
    · rw [mI_wI_n _ _ _ (by decide), mI_wI_n _ _ _ (by decide), mI_wI]
      by_cases c : j = 40 * b + i
      · rw [if_pos ⟨rfl, c⟩, if_pos c]
      · rw [if_neg (fun z => c z.2), if_neg c]
    · rw [mI_wI_n _ _ _ (by decide), mI_wI, mI_wI_n _ _ _ (by decide)]
      by_cases c : j = 40 * b + i
      · rw [if_pos ⟨rfl, c⟩, if_pos c]
      · rw [if_neg (fun z => c z.2), if_neg c]
    · rw [mI_wI, mI_wI_n _ _ _ (by decide), mI_wI_n _ _ _ (by decide)]
      by_cases c : j = 40 * b + i
      · rw [if_pos ⟨rfl, c⟩, if_pos c]
      · rw [if_neg (fun z => c z.2), if_neg c]
  rw [e, h.2 x h1 h2 j]
  by_cases c : j = 40 * b + i
  · rw [if_pos c, if_pos (show 40 * b ≤ j ∧ j < 40 * b + (i + 1) by omega), show j - 40 * b = i by omega]
  · rw [if_neg c]
    by_cases d : 40 * b ≤ j ∧ j < 40 * b + i
    · rw [if_pos d, if_pos (show 40 * b ≤ j ∧ j < 40 * b + (i + 1) by omega)]
    · rw [if_neg d, if_neg (show ¬ (40 * b ≤ j ∧ j < 40 * b + (i + 1)) by omega)]
theorem cpE_r {a b i x : Nat} {M N : am_M} (h : cpE a b i M N) (hab : a ≠ b) (hi : i < 40) (h1 : 112 ≤ x) (h2 : x ≤ 114) : mI N x (40 * a + i) = mI M x (40 * a + i) := by
  rw [h.2 x h1 h2, if_neg (by omega)]
def w_lay (M : am_M) (a b : Nat) : am_M := wI (wI (wI (wI (wI (wI (wI M 105 b (mI M 105 a)) 106 b (mI M 106 a)) 107 b (mI M 107 a)) 108 b (mI M 108 a)) 109 b (mI M 109 a)) 110 b (mI M 110 a)) 111 b (mI M 111 a)
theorem w_lay_i (M : am_M) (a b x : Nat) (h1 : 105 ≤ x) (h2 : x ≤ 111) (s : Nat) : mI (w_lay M a b) x s = if s = b then mI M x a else mI M x s := by
  unfold w_lay
  rcases (show x = 105 ∨ x = 106 ∨ x = 107 ∨ x = 108 ∨ x = 109 ∨ x = 110 ∨ x = 111 by omega) with rfl | rfl | rfl | rfl | rfl | rfl | rfl <;> by_cases c : s = b <;> simp [mI_wI, c]
theorem w_lay_n (M : am_M) (a b x : Nat) (h : x < 105 ∨ 111 < x) : mI (w_lay M a b) x = mI M x := by
  unfold w_lay
  rw [mI_wI_n _ _ _ (by omega), mI_wI_n _ _ _ (by omega), mI_wI_n _ _ _ (by omega), mI_wI_n _ _ _ (by omega), mI_wI_n _ _ _ (by omega), mI_wI_n _ _ _ (by omega), mI_wI_n _ _ _ (by omega)]
theorem lay_fin {M N : am_M} {a b k : Nat} (hab : a ≠ b) (ha : a < 160) (hb : b < 160) (hk : mI M 111 a = nI k) (hk2 : k ≤ 40) (hz : yZ M) (hc : cpE a b k (w_lay M a b) N) : sfr (fun s => s = b) M N ∧ yZ N ∧ ∀ o, (∀ u, o = some u → u.2.2.2.2.2.length ≤ 40) → yO M a o → yO N b o := by
  have lo : ∀ x, x < 112 ∨ 114 < x → mI N x = mI (w_lay M a b) x := fun x hx => hc.1.2.2.2 x (by omega)
  have hi : ∀ x, 105 ≤ x → x ≤ 111 → ∀ s, mI N x s = if s = b then mI M x a else mI M x s := fun x h1 h2 s => by rw [lo x (by omega), w_lay_i M a b x h1 h2]
  have he : ∀ x, 112 ≤ x → x ≤ 114 → ∀ j, mI N x j = if 40 * b ≤ j ∧ j < 40 * b + k then mI M x (40 * a + (j - 40 * b)) else mI M x j := fun x h1 h2 j => by rw [hc.2 x h1 h2, w_lay_n M a b x (by omega)]
  refine ⟨⟨⟨hc.1.1, hc.1.2.1, hc.1.2.2.1, fun x hx => ?_⟩, fun s hs => ⟨fun x h1 h2 => ?_, fun x j h1 h2 h3 => ?_⟩⟩, ⟨fun s hs => ?_, fun s hs => ?_, fun s hs => ?_⟩, fun o ho hy => ?_⟩
  · have hx : ¬ (105 ≤ x ∧ x ≤ 114) := hx
    rw [lo x (by omega), w_lay_n M a b x (by omega)]
  · rw [hi x h1 h2, if_neg hs]
  · have hs : ¬ s = b := hs
    rw [he x h1 h2, if_neg (by omega)]
  · rw [hi 105 (by decide) (by decide)]
    split
    · exact hz.1 a ha
    · exact hz.1 s hs
  · rw [lo 118 (by decide), w_lay_n M a b 118 (by decide)]
    exact hz.2.1 s hs
  · rw [hi 111 (by decide) (by decide)]
    split
    · exact hz.2.2 a ha
    · exact hz.2.2 s hs
  · have hb' : ∀ x, 105 ≤ x → x ≤ 111 → mI N x b = mI M x a := fun x h1 h2 => by rw [hi x h1 h2, if_pos rfl]
    cases o with
    | none => exact (hb' 105 (by decide) (by decide)).trans hy
    | some t =>
      obtain ⟨k0, k1, k2, k3, k4, k5, k6, k7⟩ := hy
      have hl := ho t rfl
      have ek : t.2.2.2.2.2.length = k := (nI_eq (by omega) (by omega)).mp (k6.symm.trans hk)
      refine ⟨(hb' 105 (by decide) (by decide)).trans k0, (hb' 106 (by decide) (by decide)).trans k1, (hb' 107 (by decide) (by decide)).trans k2, (hb' 108 (by decide) (by decide)).trans k3, (hb' 109 (by decide) (by decide)).trans k4, (hb' 110 (by decide) (by decide)).trans k5, (hb' 111 (by decide) (by decide)).trans k6, fun j e hj => ?_⟩
      have hjl := (List.getElem?_eq_some_iff.mp hj).1
      obtain ⟨z1, z2, z3⟩ := k7 j e hj
      have ej : ∀ x, 112 ≤ x → x ≤ 114 → mI N x (40 * b + j) = mI M x (40 * a + j) := fun x h1 h2 => by
        rw [he x h1 h2, if_pos (by omega), show 40 * b + j - 40 * b = j by omega]
      exact ⟨(ej 112 (by decide) (by decide)).trans z1, (ej 113 (by decide) (by decide)).trans z2, (ej 114 (by decide) (by decide)).trans z3⟩
set_option maxHeartbeats 4000000 in
set_option maxRecDepth 100000 in
theorem l_X9_lay {l : Launch} {X : Nat × (Nat → Int32)} {M : am_M} {a b c : Nat} (hab : a ≠ b) (ha : a < 160) (hb : b < 160) (hc0 : mI M 111 a = nI c) (hc1 : c ≤ 40) (hz : yZ M) : ∀ (k i : Nat) (N : am_M), i + k = c → Lay N → cpE a b i (w_lay M a b) N → am_V l yX9_lay cX9_lay 4 (none) (am_R 0 0 0) 0 0 X (fun v M' => v = none ∧ sfr (fun s => s = b) M M' ∧ yZ M' ∧ ∀ o, (∀ u, o = some u → u.2.2.2.2.2.length ≤ 40) → yO M a o → yO M' b o) 0 0 86 [some (.ref 93), some (.int (nI a)), some (.int (nI b)), some (.int (nI i))] [] N := by
  intro k
  induction k with
  | zero =>
    intro i N hi hL hc
    obtain rfl : i = c := by omega
    have e : mI N 111 a = nI i := by rw [hc.1.2.2.2 111 (by decide), w_lay_i M a b 111 (by decide) (by decide), if_neg hab]; exact hc0
    have q := lay_fin hab ha hb hc0 hc1 hz hc
    refine r_iload_n dX9_lay_86 rfl ?_
    refine r_aload_n dX9_lay_87 rfl ?_
    refine r_getF kX9 (k := 25) (by decide) rfl fl_X9_66 (lay_ok hL rfl) (lay_r hL rfl) dX9_lay_88 ?_
    refine r_iload_n dX9_lay_91 rfl ?_
    refine r_ialdE (nI i) (lay_ok hL rfl) (by omega) (by omega) dX9_lay_92 e ?_
    refine r_icmp_ge 168 dX9_lay_93 (by decide) (fun _ => ?_) (fun hq => absurd (nI_le (Nat.le_refl _) (by omega)) hq)
    exact r_vret rfl dX9_lay_168 ⟨rfl, q⟩
  | succ k ih =>
    intro i N hi hL hc
    have e : mI N 111 a = nI c := by rw [hc.1.2.2.2 111 (by decide), w_lay_i M a b 111 (by decide) (by decide), if_neg hab]; exact hc0
    have q := cpE_s hc hab (by omega)
    refine r_iload_n dX9_lay_86 rfl ?_
    refine r_aload_n dX9_lay_87 rfl ?_
    refine r_getF kX9 (k := 25) (by decide) rfl fl_X9_66 (lay_ok hL rfl) (lay_r hL rfl) dX9_lay_88 ?_
    refine r_iload_n dX9_lay_91 rfl ?_
    refine r_ialdE (nI c) (lay_ok hL rfl) (by omega) (by omega) dX9_lay_92 e ?_
    refine r_icmp_ge 168 dX9_lay_93 (by decide) (fun hq => absurd hq (nI_ge (by omega) (by omega))) (fun _ => ?_)
    refine r_aload_n dX9_lay_96 rfl ?_
    refine r_getF kX9 (k := 26) (by decide) rfl fl_X9_69 (lay_ok hL rfl) (lay_r hL rfl) dX9_lay_97 ?_
    refine r_bipush (nI 40) dX9_lay_100 (by decide) ?_
    refine r_iload_n dX9_lay_102 rfl ?_
    refine r_imul dX9_lay_103 ?_
    refine r_top (nI (40 * b)) (nI_mul _ _) ?_
    refine r_iload_n dX9_lay_104 rfl ?_
    refine r_iadd dX9_lay_105 ?_
    refine r_top (nI ((40 * b) + i)) (nI_add _ _) ?_
    refine r_aload_n dX9_lay_106 rfl ?_
    refine r_getF kX9 (k := 26) (by decide) rfl fl_X9_69 (lay_ok hL rfl) (lay_r hL rfl) dX9_lay_107 ?_
    refine r_bipush (nI 40) dX9_lay_110 (by decide) ?_
    refine r_iload_n dX9_lay_112 rfl ?_
    refine r_imul dX9_lay_113 ?_
    refine r_top (nI (40 * a)) (nI_mul _ _) ?_
    refine r_iload_n dX9_lay_114 rfl ?_
    refine r_iadd dX9_lay_115 ?_
    refine r_top (nI ((40 * a) + i)) (nI_add _ _) ?_
    refine r_ialdE (mI (w_lay M a b) 112 (40 * a + i)) (lay_ok hL rfl) (by omega) (by omega) dX9_lay_116 (by exact cpE_r hc hab (by omega) (by decide) (by decide)) ?_
    refine r_iastN (lay_ok hL rfl) (by omega) (by decide) dX9_lay_117 ?_
    refine r_lay (lay_wI hL _ _ _) (fun hL => ?_)
    refine r_aload_n dX9_lay_118 rfl ?_
    refine r_getF kX9 (k := 27) (by decide) rfl fl_X9_72 (lay_ok hL rfl) (lay_r hL rfl) dX9_lay_119 ?_
    refine r_bipush (nI 40) dX9_lay_122 (by decide) ?_
    refine r_iload_n dX9_lay_124 rfl ?_
    refine r_imul dX9_lay_125 ?_
    refine r_top (nI (40 * b)) (nI_mul _ _) ?_
    refine r_iload_n dX9_lay_126 rfl ?_
    refine r_iadd dX9_lay_127 ?_
    refine r_top (nI ((40 * b) + i)) (nI_add _ _) ?_
    refine r_aload_n dX9_lay_128 rfl ?_
    refine r_getF kX9 (k := 27) (by decide) rfl fl_X9_72 (lay_ok hL rfl) (lay_r hL rfl) dX9_lay_129 ?_
    refine r_bipush (nI 40) dX9_lay_132 (by decide) ?_
    refine r_iload_n dX9_lay_134 rfl ?_
    refine r_imul dX9_lay_135 ?_
    refine r_top (nI (40 * a)) (nI_mul _ _) ?_
    refine r_iload_n dX9_lay_136 rfl ?_
    refine r_iadd dX9_lay_137 ?_
    refine r_top (nI ((40 * a) + i)) (nI_add _ _) ?_
    refine r_ialdE (mI (w_lay M a b) 113 (40 * a + i)) (lay_ok hL rfl) (by omega) (by omega) dX9_lay_138 (by rw [mI_wI_n _ _ _ (by decide)]; exact cpE_r hc hab (by omega) (by decide) (by decide)) ?_
    refine r_iastN (lay_ok hL rfl) (by omega) (by decide) dX9_lay_139 ?_
    refine r_lay (lay_wI hL _ _ _) (fun hL => ?_)
    refine r_aload_n dX9_lay_140 rfl ?_
    refine r_getF kX9 (k := 28) (by decide) rfl fl_X9_75 (lay_ok hL rfl) (lay_r hL rfl) dX9_lay_141 ?_
    refine r_bipush (nI 40) dX9_lay_144 (by decide) ?_
    refine r_iload_n dX9_lay_146 rfl ?_
    refine r_imul dX9_lay_147 ?_
    refine r_top (nI (40 * b)) (nI_mul _ _) ?_
    refine r_iload_n dX9_lay_148 rfl ?_
    refine r_iadd dX9_lay_149 ?_
    refine r_top (nI ((40 * b) + i)) (nI_add _ _) ?_
    refine r_aload_n dX9_lay_150 rfl ?_
    refine r_getF kX9 (k := 28) (by decide) rfl fl_X9_75 (lay_ok hL rfl) (lay_r hL rfl) dX9_lay_151 ?_
    refine r_bipush (nI 40) dX9_lay_154 (by decide) ?_
    refine r_iload_n dX9_lay_156 rfl ?_
    refine r_imul dX9_lay_157 ?_
    refine r_top (nI (40 * a)) (nI_mul _ _) ?_
    refine r_iload_n dX9_lay_158 rfl ?_
    refine r_iadd dX9_lay_159 ?_
    refine r_top (nI ((40 * a) + i)) (nI_add _ _) ?_
    refine r_ialdE (mI (w_lay M a b) 114 (40 * a + i)) (lay_ok hL rfl) (by omega) (by omega) dX9_lay_160 (by rw [mI_wI_n _ _ _ (by decide), mI_wI_n _ _ _ (by decide)]; exact cpE_r hc hab (by omega) (by decide) (by decide)) ?_
    refine r_iastN (lay_ok hL rfl) (by omega) (by decide) dX9_lay_161 ?_
    refine r_lay (lay_wI hL _ _ _) (fun hL => ?_)
    refine r_iinc (nI (i + 1)) _ dX9_lay_162 (by decide) rfl (nI_1 _) rfl ?_
    refine r_goto 86 dX9_lay_165 (by decide) ?_
    exact ih (i + 1) _ (by omega) hL q
set_option maxHeartbeats 4000000 in
set_option maxRecDepth 100000 in
theorem c_X9_lay {l : Launch} {X : Nat × (Nat → Int32)} {M : am_M} (hL : Lay M) {a b : Nat} (hab : a ≠ b) (ha : a < 160) (hb : b < 160) (hz : yZ M) : am_C l yX9_lay cX9_lay 4 (none) 0 0 0 X [.ref 93, .int (nI a), .int (nI b)] M (fun v M' => v = none ∧ sfr (fun s => s = b) M M' ∧ yZ M' ∧ ∀ o, (∀ u, o = some u → u.2.2.2.2.2.length ≤ 40) → yO M a o → yO M' b o) := by
  refine am_C.of (by decide) (by simp [Value.category, va_rf]) (Nat.le_of_ble_eq_true rfl) ?_
  obtain ⟨c, hc1, hc0⟩ := hz.2.2 a ha
  have e0 : cpE a b 0 (w_lay M a b) (w_lay M a b) := ⟨am_fr.rf, fun x h1 h2 j => by rw [if_neg (by omega)]⟩
  refine r_aload_n dX9_lay_0 rfl ?_
  refine r_getF kX9 (k := 19) (by decide) rfl fl_X9_48 (lay_ok hL rfl) (lay_r hL rfl) dX9_lay_1 ?_
  refine r_iload_n dX9_lay_4 rfl ?_
  refine r_aload_n dX9_lay_5 rfl ?_
  refine r_getF kX9 (k := 19) (by decide) rfl fl_X9_48 (lay_ok hL rfl) (lay_r hL rfl) dX9_lay_6 ?_
  refine r_iload_n dX9_lay_9 rfl ?_
  refine r_zaldE (mI M 105 a) (lay_ok hL rfl) (by omega) (by omega) dX9_lay_10 rfl ?_
  refine r_zastN (lay_ok hL rfl) (by omega) (by decide) (hz.1 a ha) dX9_lay_11 ?_
  refine r_lay (lay_wI hL _ _ _) (fun hL => ?_)
  refine r_aload_n dX9_lay_12 rfl ?_
  refine r_getF kX9 (k := 20) (by decide) rfl fl_X9_51 (lay_ok hL rfl) (lay_r hL rfl) dX9_lay_13 ?_
  refine r_iload_n dX9_lay_16 rfl ?_
  refine r_aload_n dX9_lay_17 rfl ?_
  refine r_getF kX9 (k := 20) (by decide) rfl fl_X9_51 (lay_ok hL rfl) (lay_r hL rfl) dX9_lay_18 ?_
  refine r_iload_n dX9_lay_21 rfl ?_
  refine r_ialdE (mI M 106 a) (lay_ok hL rfl) (by omega) (by omega) dX9_lay_22 (by rw [mI_wI_n _ _ _ (by decide)]) ?_
  refine r_iastN (lay_ok hL rfl) (by omega) (by decide) dX9_lay_23 ?_
  refine r_lay (lay_wI hL _ _ _) (fun hL => ?_)
  refine r_aload_n dX9_lay_24 rfl ?_
  refine r_getF kX9 (k := 21) (by decide) rfl fl_X9_54 (lay_ok hL rfl) (lay_r hL rfl) dX9_lay_25 ?_
  refine r_iload_n dX9_lay_28 rfl ?_
  refine r_aload_n dX9_lay_29 rfl ?_
  refine r_getF kX9 (k := 21) (by decide) rfl fl_X9_54 (lay_ok hL rfl) (lay_r hL rfl) dX9_lay_30 ?_
  refine r_iload_n dX9_lay_33 rfl ?_
  refine r_ialdE (mI M 107 a) (lay_ok hL rfl) (by omega) (by omega) dX9_lay_34 (by rw [mI_wI_n _ _ _ (by decide), mI_wI_n _ _ _ (by decide)]) ?_
  refine r_iastN (lay_ok hL rfl) (by omega) (by decide) dX9_lay_35 ?_
  refine r_lay (lay_wI hL _ _ _) (fun hL => ?_)
  refine r_aload_n dX9_lay_36 rfl ?_
  refine r_getF kX9 (k := 22) (by decide) rfl fl_X9_57 (lay_ok hL rfl) (lay_r hL rfl) dX9_lay_37 ?_
  refine r_iload_n dX9_lay_40 rfl ?_
  refine r_aload_n dX9_lay_41 rfl ?_
  refine r_getF kX9 (k := 22) (by decide) rfl fl_X9_57 (lay_ok hL rfl) (lay_r hL rfl) dX9_lay_42 ?_
  refine r_iload_n dX9_lay_45 rfl ?_
  refine r_ialdE (mI M 108 a) (lay_ok hL rfl) (by omega) (by omega) dX9_lay_46 (by rw [mI_wI_n _ _ _ (by decide), mI_wI_n _ _ _ (by decide), mI_wI_n _ _ _ (by decide)]) ?_
  refine r_iastN (lay_ok hL rfl) (by omega) (by decide) dX9_lay_47 ?_
  refine r_lay (lay_wI hL _ _ _) (fun hL => ?_)
  refine r_aload_n dX9_lay_48 rfl ?_
  refine r_getF kX9 (k := 23) (by decide) rfl fl_X9_60 (lay_ok hL rfl) (lay_r hL rfl) dX9_lay_49 ?_
  refine r_iload_n dX9_lay_52 rfl ?_
  refine r_aload_n dX9_lay_53 rfl ?_
  refine r_getF kX9 (k := 23) (by decide) rfl fl_X9_60 (lay_ok hL rfl) (lay_r hL rfl) dX9_lay_54 ?_
  refine r_iload_n dX9_lay_57 rfl ?_
  refine r_ialdE (mI M 109 a) (lay_ok hL rfl) (by omega) (by omega) dX9_lay_58 (by rw [mI_wI_n _ _ _ (by decide), mI_wI_n _ _ _ (by decide), mI_wI_n _ _ _ (by decide), mI_wI_n _ _ _ (by decide)]) ?_
  refine r_iastN (lay_ok hL rfl) (by omega) (by decide) dX9_lay_59 ?_
  refine r_lay (lay_wI hL _ _ _) (fun hL => ?_)
  refine r_aload_n dX9_lay_60 rfl ?_
  refine r_getF kX9 (k := 24) (by decide) rfl fl_X9_63 (lay_ok hL rfl) (lay_r hL rfl) dX9_lay_61 ?_
  refine r_iload_n dX9_lay_64 rfl ?_
  refine r_aload_n dX9_lay_65 rfl ?_
  refine r_getF kX9 (k := 24) (by decide) rfl fl_X9_63 (lay_ok hL rfl) (lay_r hL rfl) dX9_lay_66 ?_
  refine r_iload_n dX9_lay_69 rfl ?_
  refine r_ialdE (mI M 110 a) (lay_ok hL rfl) (by omega) (by omega) dX9_lay_70 (by rw [mI_wI_n _ _ _ (by decide), mI_wI_n _ _ _ (by decide), mI_wI_n _ _ _ (by decide), mI_wI_n _ _ _ (by decide), mI_wI_n _ _ _ (by decide)]) ?_
  refine r_iastN (lay_ok hL rfl) (by omega) (by decide) dX9_lay_71 ?_
  refine r_lay (lay_wI hL _ _ _) (fun hL => ?_)
  refine r_aload_n dX9_lay_72 rfl ?_
  refine r_getF kX9 (k := 25) (by decide) rfl fl_X9_66 (lay_ok hL rfl) (lay_r hL rfl) dX9_lay_73 ?_
  refine r_iload_n dX9_lay_76 rfl ?_
  refine r_aload_n dX9_lay_77 rfl ?_
  refine r_getF kX9 (k := 25) (by decide) rfl fl_X9_66 (lay_ok hL rfl) (lay_r hL rfl) dX9_lay_78 ?_
  refine r_iload_n dX9_lay_81 rfl ?_
  refine r_ialdE (mI M 111 a) (lay_ok hL rfl) (by omega) (by omega) dX9_lay_82 (by rw [mI_wI_n _ _ _ (by decide), mI_wI_n _ _ _ (by decide), mI_wI_n _ _ _ (by decide), mI_wI_n _ _ _ (by decide), mI_wI_n _ _ _ (by decide), mI_wI_n _ _ _ (by decide)]) ?_
  refine r_iastN (lay_ok hL rfl) (by omega) (by decide) dX9_lay_83 ?_
  refine r_lay (lay_wI hL _ _ _) (fun hL => ?_)
  refine r_iconst (nI 0) dX9_lay_84 (by decide) ?_
  refine r_istore_n _ dX9_lay_85 (by decide) rfl ?_
  exact l_X9_lay hab ha hb hc0 hc1 hz c 0 (w_lay M a b) (by omega) hL e0
