/-! THE MEMORY AS IT IS BORN -/
def am_B : am_M := w9 (wN (w8 (wN am_M0 8 0) 1) 9 0) 93
set_option maxRecDepth 100000 in
theorem born_T : (List.range 126).all (fun a => match sh a with
  | none => true
  | some t => decide (mT am_B a = t)) = true := by decide +kernel
set_option maxRecDepth 100000 in
theorem born_R : (List.range 126).all (fun a => (List.range 42).all (fun k => match rf a k with
  | none => true
  | some r => decide (mR am_B a k = some r))) = true := by decide +kernel
theorem rf_k {a k r : Nat} (h : rf a k = some r) : k < 42 := by
  rcases Nat.lt_or_ge k 42 with q | q
  · exact q
  · unfold rf at h
    split at h <;> first | cases h | (split at h <;> first | omega | cases h)
theorem born_L : Lay am_B := by
  refine ⟨by show 125 ≤ mN am_B; decide +kernel, fun a t n e => ?_, fun a k r e => ?_⟩
  · have ha := (sh_le e).2
    have := List.all_eq_true.mp born_T a (List.mem_range.mpr (by omega))
    rw [e] at this
    exact of_decide_eq_true this
  · have ha := rf_le e
    have hk := rf_k e
    have := List.all_eq_true.mp (List.all_eq_true.mp born_R a (List.mem_range.mpr (by omega))) k (List.mem_range.mpr hk)
    rw [e] at this
    exact of_decide_eq_true this
set_option maxRecDepth 100000 in
theorem born_I : mI am_B 1 8 = nI 2 ∧ mI am_B 2 5 = 0 ∧ mI am_B 2 6 = 0 ∧ mI am_B 2 7 = 0 ∧ mI am_B 1 10 = 0 ∧ mI am_B 1 9 = 0 ∧ mI am_B 1 11 = 0 ∧ mI am_B 1 12 = 0 ∧ mI am_B 1 13 = 0 ∧ mI am_B 24 1 = 0 := by decide +kernel
set_option maxRecDepth 100000 in
theorem born_27 : ∀ k, k < 4 → mI am_B 27 k = 0 := by decide +kernel
set_option maxRecDepth 100000 in
theorem born_N : ∀ m, m < 5 → mI am_B (28 + 13 * m) 4 = 0 ∧ mI am_B (28 + 13 * m) 5 = 0 ∧ mI am_B (28 + 13 * m) 6 = 0 ∧ (∀ j, j < 10 → mR am_B (28 + 13 * m + 1) j = none ∧ mR am_B (28 + 13 * m + 2) j = none) ∧ mR am_B (28 + 13 * m) 2 = some (28 + 13 * m + 3) ∧ mR am_B (28 + 13 * m) 3 = some (28 + 13 * m + 8) ∧ mI am_B (28 + 13 * m + 3) 1 = -1 ∧ mI am_B (28 + 13 * m + 8) 1 = -1 := by decide +kernel
set_option maxRecDepth 100000 in
theorem born_Z : ∀ n, n < 5 → ∀ v, v < 16 → mI am_B (28 + 13 * n + 7) v = 0 ∧ mI am_B (28 + 13 * n + 12) v = 0 := by decide +kernel
set_option maxRecDepth 100000 in
theorem born_Y : (List.range 160).all (fun s => decide (mI am_B 105 s = 0) && decide (mI am_B 118 s = 0) && decide (mI am_B 111 s = 0)) = true := by decide +kernel
theorem born_X : absX am_B (g_new 2) := by
  obtain ⟨a0, a1, a2, a3, a4, a5, a6, a7, a8, b1⟩ := born_I
  refine absX_new a0 a1 a2 a3 a4 a5 a6 a7 a8 born_27 b1 (fun m hm => ?_) (fun n hn v hv => ⟨Or.inl (born_Z n hn v hv).1, Or.inl (born_Z n hn v hv).2⟩)
  obtain ⟨c1, c2, c3, c4, c5, c6, c7, c8⟩ := born_N m hm
  exact ⟨c1, c2, c3, c4, _, _, c5, c6, Or.inl ⟨rfl, rfl⟩, c7, c8⟩
theorem born_z : yZ am_B := by
  have q : ∀ s, s < 160 → mI am_B 105 s = 0 ∧ mI am_B 118 s = 0 ∧ mI am_B 111 s = 0 := fun s hs => by
    have := List.all_eq_true.mp born_Y s (List.mem_range.mpr hs)
    simp only [Bool.and_eq_true, decide_eq_true_eq] at this
    exact ⟨this.1.1, this.1.2, this.2⟩
  exact ⟨fun s hs => Or.inl (q s hs).1, fun s hs => Or.inl (q s hs).2.1, fun s hs => ⟨0, by decide, (q s hs).2.2⟩⟩
