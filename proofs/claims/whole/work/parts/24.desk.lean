/-! THE DESK -/
def DX (M : am_M) (es : List tE) : Prop := mI M 20 3 = nI es.length ∧ es.length ≤ 40 ∧ ∀ j e, es[j]? = some e → mI M 21 j = nI e.1 ∧ mI M 22 j = e.2.1 ∧ mI M 23 j = nI e.2.2
def s_desk (x : Nat) : Prop := x = 20 ∨ x = 21 ∨ x = 22 ∨ x = 23
def x_app (M : am_M) (n : Nat) (t m a : Int32) : am_M := wI (wI (wI (wI M 21 n t) 22 n m) 23 n a) 20 3 (nI (n + 1))
theorem x_app_fr (M : am_M) (n : Nat) (t m a : Int32) : am_fr s_desk M (x_app M n t m a) := by
  refine ⟨rfl, rfl, rfl, fun x hx => ?_⟩
  unfold x_app
  rw [mI_wI_n _ _ _ (fun h => hx (Or.inl h)), mI_wI_n _ _ _ (fun h => hx (Or.inr (Or.inr (Or.inr h)))), mI_wI_n _ _ _ (fun h => hx (Or.inr (Or.inr (Or.inl h)))), mI_wI_n _ _ _ (fun h => hx (Or.inr (Or.inl h)))]
theorem x_app_DX {M : am_M} {es : List tE} (h : DX M es) (hl : es.length < 40) (t : Nat) (m : Int32) (a : Nat) : DX (x_app M es.length (nI t) m (nI a)) (es ++ [(t, m, a)]) := by
  refine ⟨by simp [x_app, mI_wI], by simp; omega, fun j e he => ?_⟩
  by_cases hj : j < es.length
  · rw [List.getElem?_append_left hj] at he
    obtain ⟨h1, h2, h3⟩ := h.2.2 j e he
    have hne : j ≠ es.length := by omega
    simp [x_app, mI_wI, hne, h1, h2, h3]
  · have hj2 : j = es.length := by
      have := (List.getElem?_eq_some_iff.mp he).1
      simp at this
      omega
    subst hj2
    simp at he
    subst he
    simp [x_app, mI_wI]
def t_pl (v : Nat) : List tE → Nat
  | [] => 0
  | e :: es => if e.1 = v then 0 else t_pl v es + 1
theorem t_pl_le (v : Nat) (es : List tE) : t_pl v es ≤ es.length := by
  induction es with
  | nil => exact Nat.le_refl _
  | cons e es ih => unfold t_pl; split <;> simp; omega
theorem t_addJ_at (k v : Nat) (m : Int32) (a : Nat) (es : List tE) : (t_pl v es = es.length → t_addJ k v m a es = es ++ [(v, m, a)]) ∧ ∀ e, es[t_pl v es]? = some e → t_addJ k v m a es = es.set (t_pl v es) (e.1, t_fold k e.2.1 m, e.2.2) := by
  induction es with
  | nil => exact ⟨fun _ => rfl, fun e h => by simp [t_pl] at h⟩
  | cons f es ih =>
    by_cases hf : f.1 = v
    · refine ⟨fun h => ?_, fun e h => ?_⟩
      · simp [t_pl, hf] at h
      · simp [t_pl, hf] at h
        subst h
        simp [t_addJ, t_pl, hf]
    · refine ⟨fun h => ?_, fun e h => ?_⟩
      · simp [t_pl, hf] at h
        simp [t_addJ, hf, ih.1 h]
      · simp [t_pl, hf] at h
        simp [t_addJ, t_pl, hf, ih.2 e h]
set_option maxHeartbeats 4000000 in
set_option maxRecDepth 100000 in
theorem c_X0_append {l : Launch} {X : Nat × (Nat → Int32)} {M : am_M} (hL : Lay M) {n : Nat} {t m a : Int32} (h : mI M 20 3 = nI n) (hn : n < 40) : am_F l yX0_append cX0_append 4 (none) 0 0 0 X [.ref 20, .int t, .int m, .int a] M (none) (x_app M n t m a) := by
  refine am_C.of (by decide) (by simp [Value.category, va_rf]) (Nat.le_of_ble_eq_true rfl) ?_
  refine r_aload_n dX0_append_0 rfl ?_
  refine r_getF kX0 (k := 0) (by decide) rfl fl_X0_9 (lay_ok hL rfl) (lay_r hL rfl) dX0_append_1 ?_
  refine r_aload_n dX0_append_4 rfl ?_
  refine r_getE (nI n) kX0 (k := 3) (by decide) rfl fl_X0_21 (lay_ok hL rfl) dX0_append_5 (by simp [mI_wI, h]) ?_
  refine r_iload_n dX0_append_8 rfl ?_
  refine r_iastN (lay_ok hL rfl) (by omega) (by decide) dX0_append_9 ?_
  refine r_lay (lay_wI hL _ _ _) (fun hL => ?_)
  refine r_aload_n dX0_append_10 rfl ?_
  refine r_getF kX0 (k := 1) (by decide) rfl fl_X0_15 (lay_ok hL rfl) (lay_r hL rfl) dX0_append_11 ?_
  refine r_aload_n dX0_append_14 rfl ?_
  refine r_getE (nI n) kX0 (k := 3) (by decide) rfl fl_X0_21 (lay_ok hL rfl) dX0_append_15 (by simp [mI_wI, h]) ?_
  refine r_iload_n dX0_append_18 rfl ?_
  refine r_iastN (lay_ok hL rfl) (by omega) (by decide) dX0_append_19 ?_
  refine r_lay (lay_wI hL _ _ _) (fun hL => ?_)
  refine r_aload_n dX0_append_20 rfl ?_
  refine r_getF kX0 (k := 2) (by decide) rfl fl_X0_18 (lay_ok hL rfl) (lay_r hL rfl) dX0_append_21 ?_
  refine r_aload_n dX0_append_24 rfl ?_
  refine r_getE (nI n) kX0 (k := 3) (by decide) rfl fl_X0_21 (lay_ok hL rfl) dX0_append_25 (by simp [mI_wI, h]) ?_
  refine r_iload_n dX0_append_28 rfl ?_
  refine r_iastN (lay_ok hL rfl) (by omega) (by decide) dX0_append_29 ?_
  refine r_lay (lay_wI hL _ _ _) (fun hL => ?_)
  refine r_aload_n dX0_append_30 rfl ?_
  refine r_dup dX0_append_31 rfl ?_
  refine r_getE (nI n) kX0 (k := 3) (by decide) rfl fl_X0_21 (lay_ok hL rfl) dX0_append_32 (by simp [mI_wI, h]) ?_
  refine r_iconst (1) dX0_append_35 (by decide) ?_
  refine r_iadd dX0_append_36 ?_
  refine r_top (nI (n + 1)) (nI_1 n) ?_
  refine r_putI kX0 (k := 3) (by decide) rfl (Or.inl rfl) fl_X0_21 (lay_ok hL rfl) ⟨rfl, rfl⟩ dX0_append_37 ?_
  refine r_lay (lay_wI hL _ _ _) (fun hL => ?_)
  exact r_vret rfl dX0_append_40 ⟨rfl, rfl⟩
set_option maxHeartbeats 4000000 in
set_option maxRecDepth 100000 in
theorem l_X0_placeOf {l : Launch} {X : Nat × (Nat → Int32)} {M : am_M} (hL : Lay M) {es : List tE} {v : Nat} (hD : DX M es) (hv : v < 16) (hE : ∀ e ∈ es, e.1 < 16) : ∀ k i : Nat, i + k = es.length → t_pl v es = i + t_pl v (es.drop i) → am_V l yX0_placeOf cX0_placeOf 3 (some .int) (am_R 0 0 0) 0 0 X (fun v' M' => v' = some (.int (nI (t_pl v es))) ∧ M' = M) 0 0 2 [some (.ref 20), some (.int (nI v)), some (.int (nI i))] [] (M) := by
  intro k
  obtain ⟨hD1, hD2, hD3⟩ := hD
  induction k with
  | zero =>
    intro i hi hp
    obtain rfl : i = es.length := by omega
    rw [List.drop_length] at hp
    refine r_iload_n dX0_placeOf_2 rfl ?_
    refine r_aload_n dX0_placeOf_3 rfl ?_
    refine r_getE (nI es.length) kX0 (k := 3) (by decide) rfl fl_X0_21 (lay_ok hL rfl) dX0_placeOf_4 hD1 ?_
    refine r_icmp_ge 28 dX0_placeOf_7 (by decide) (fun _ => ?_) (fun hq => absurd (nI_le (Nat.le_refl _) (by omega)) hq)
    refine r_aload_n dX0_placeOf_28 rfl ?_
    refine r_getE (nI es.length) kX0 (k := 3) (by decide) rfl fl_X0_21 (lay_ok hL rfl) dX0_placeOf_29 hD1 ?_
    exact r_iret (Or.inl rfl) dX0_placeOf_32 ⟨by rw [hp]; rfl, rfl⟩
  | succ k ih =>
    intro i hi hp
    have hil : i < es.length := by omega
    obtain ⟨d1, d2, d3⟩ := hD3 i es[i] (List.getElem?_eq_getElem hil)
    have hdr : es.drop i = es[i] :: es.drop (i + 1) := List.drop_eq_getElem_cons hil
    have he16 := hE es[i] (List.getElem_mem hil)
    rw [hdr] at hp
    refine r_iload_n dX0_placeOf_2 rfl ?_
    refine r_aload_n dX0_placeOf_3 rfl ?_
    refine r_getE (nI es.length) kX0 (k := 3) (by decide) rfl fl_X0_21 (lay_ok hL rfl) dX0_placeOf_4 hD1 ?_
    refine r_icmp_ge 28 dX0_placeOf_7 (by decide) (fun hq => absurd hq (nI_ge (by omega) (by omega))) (fun _ => ?_)
    refine r_aload_n dX0_placeOf_10 rfl ?_
    refine r_getF kX0 (k := 0) (by decide) rfl fl_X0_9 (lay_ok hL rfl) (lay_r hL rfl) dX0_placeOf_11 ?_
    refine r_iload_n dX0_placeOf_14 rfl ?_
    refine r_ialdE (nI es[i].1) (lay_ok hL rfl) (by omega) (by omega) dX0_placeOf_15 d1 ?_
    refine r_iload_n dX0_placeOf_16 rfl ?_
    refine r_icmp_ne 22 dX0_placeOf_17 (by decide) (fun c17 => ?_) (fun c17 => ?_)
    · refine r_iinc (nI (i + 1)) _ dX0_placeOf_22 (by decide) rfl (nI_1 _) rfl ?_
      refine r_goto 2 dX0_placeOf_25 (by decide) ?_
      exact ih (i + 1) (by omega) (by rw [hp, t_pl, if_neg (fun h => c17 (by rw [h]))]; omega)
    · refine r_iload_n dX0_placeOf_20 rfl ?_
      exact r_iret (Or.inl rfl) dX0_placeOf_21 ⟨by rw [hp, t_pl, if_pos ((nI_eq (by omega) (by omega)).mp c17)]; rfl, rfl⟩
set_option maxHeartbeats 4000000 in
set_option maxRecDepth 100000 in
theorem c_X0_placeOf {l : Launch} {X : Nat × (Nat → Int32)} {M : am_M} (hL : Lay M) {es : List tE} {v : Nat} (hD : DX M es) (hv : v < 16) (hE : ∀ e ∈ es, e.1 < 16)  : am_F l yX0_placeOf cX0_placeOf 3 (some .int) 0 0 0 X [.ref 20, .int (nI v)] M (some (.int (nI (t_pl v es)))) (M) := by
  refine am_C.of (by decide) (by simp [Value.category, va_rf]) (Nat.le_of_ble_eq_true rfl) ?_
  refine r_iconst (nI 0) dX0_placeOf_0 (by decide) ?_
  refine r_istore_n _ dX0_placeOf_1 (by decide) rfl ?_
  exact l_X0_placeOf hL hD hv hE es.length 0 (by omega) (by simp)
