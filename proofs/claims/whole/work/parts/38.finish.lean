/-! A ROUND IS FINISHED -/
theorem told_itr (g : tG) (n c : Nat) : ∀ i, itr (fun o c => match gl g 0 n o with
  | none => c
  | some t => c + t.2.2.2.2.1) i c = 0 ↔ c = 0 ∧ ∀ o t, o < i → gl g 0 n o = some t → t.2.2.2.2.1 = 0
  | 0 => ⟨fun h => ⟨h, fun o t ho => by omega⟩, fun h => h.1⟩
  | i + 1 => by
    have ih := told_itr g n c i
    rw [itr_s]
    cases e : gl g 0 n i with
    | none =>
      show itr _ i c = 0 ↔ _
      rw [ih]
      refine ⟨fun h => ⟨h.1, fun o t ho ht => ?_⟩, fun h => ⟨h.1, fun o t ho ht => h.2 o t (by omega) ht⟩⟩
      rcases Nat.lt_or_ge o i with z | z
      · exact h.2 o t z ht
      · rw [show o = i by omega, e] at ht
        cases ht
    | some t0 =>
      show itr _ i c + t0.2.2.2.2.1 = 0 ↔ _
      rw [Nat.add_eq_zero_iff, ih]
      refine ⟨fun h => ⟨h.1.1, fun o t ho ht => ?_⟩, fun h => ⟨⟨h.1, fun o t ho ht => h.2 o t (by omega) ht⟩, h.2 i t0 (by omega) e⟩⟩
      rcases Nat.lt_or_ge o i with z | z
      · exact h.1.2 o t z ht
      · rw [show o = i by omega, e] at ht
        cases ht
        exact h.2
theorem told_iff (g : tG) (n : Nat) : t_toldA g n = 0 ↔ t_act g n = 0 ∧ ∀ o t, o < gs g 0 → gl g 0 n o = some t → t.2.2.2.2.1 = 0 := told_itr g n (t_act g n) (gs g 0)
set_option maxHeartbeats 4000000 in
set_option maxRecDepth 100000 in
theorem l_X8_finish {l : Launch} {X : Nat × (Nat → Int32)} {M : am_M} (hL : Lay M) {g : tG} {n : Nat} (hX : absX M g) (hB : gB g) (hn : n < gs g 0) (hr : ga g 4 n ≤ 199) (hne : ¬ t_toldA g n = 0) : am_V l yX8_finishRound cX8_finishRound 3 none (am_R 8 16 512) 16 512 X (fun v M' => v = none ∧ absX M' (g_fin n g) ∧ Lay M' ∧ am_gr (fun x => x ≤ 92) M M') 16 512 35 [some (.ref 1), some (.int (nI n)), some (.ref (28 + 13 * n))] [] M := by
  have hn5 : n < 5 := by have := hB.2.1; omega
  have st := sameT_take n g
  have e4 : ga (g_take n g) 4 = ga g 4 := st.2.2.2.2.2.1 4 (by decide)
  have fe : g_fin n g = g_come n (ga g 4 n + 1) (g_take n g) := if_neg hne
  refine r_aload_n dX8_finishRound_35 rfl ?_
  refine r_iload_n dX8_finishRound_36 rfl ?_
  refine r_callV ca_yX8_takeMessages ml_X8_257 im_yX8_takeMessages se_yX8_takeMessages (by decide) rfl (lay_ok hL rfl) (c_X8_takeMessages hL hB hn hX) ⟨by decide, by decide⟩ (by first | decide | omega) (by first | decide | omega) rfl (Nat.le_of_ble_eq_true rfl) dX8_finishRound_37 (fun v0 M1 hp1 => ?_)
  obtain ⟨rfl, hA, hL, hg⟩ := hp1
  have x4 := (hA.2.2.2.1 n hn5).1
  rw [e4] at x4
  refine r_aload_n dX8_finishRound_40 rfl ?_
  refine r_iload_n dX8_finishRound_41 rfl ?_
  refine r_aload_n dX8_finishRound_42 rfl ?_
  refine r_getE (nI (ga g 4 n)) kX6 (k := 4) (by decide) rfl fl_X8_178 (lay_ok hL (sh_n0 hn5)) dX8_finishRound_43 x4 ?_
  refine r_iconst (1) dX8_finishRound_46 (by decide) ?_
  refine r_iadd dX8_finishRound_47 ?_
  refine r_top (nI (ga g 4 n + 1)) (nI_1 _) ?_
  refine r_callV ca_yX8_comeInto ml_X8_119 im_yX8_comeInto se_yX8_comeInto (by decide) rfl (lay_ok hL rfl) (c_X8_comeInto hL hA (gB_take hB) (by rw [st.1]; exact hn) (r := ga g 4 n + 1) (Or.inl (by rw [e4])) (by omega)) ⟨by decide, by decide⟩ (by first | decide | omega) (by first | decide | omega) rfl (Nat.le_of_ble_eq_true rfl) dX8_finishRound_48 (fun v0 M2 hp1 => ?_)
  obtain ⟨rfl, hA2, hL2, hg2⟩ := hp1
  exact r_vret rfl dX8_finishRound_51 ⟨rfl, by rw [fe]; exact hA2, hL2, hg.tr hg2⟩
set_option maxHeartbeats 4000000 in
set_option maxRecDepth 100000 in
theorem c_X8_finishRound {l : Launch} {X : Nat × (Nat → Int32)} {M : am_M} (hL : Lay M) {g : tG} {n : Nat} (hX : absX M g) (hB : gB g) (hn : n < gs g 0) (hr : ga g 4 n ≤ 199) (hO : ∀ o, gs g 0 ≤ o → gl g 0 n o = none) : am_C l yX8_finishRound cX8_finishRound 3 none 8 16 512 X [.ref 1, .int (nI n)] M (fun v M' => v = none ∧ absX M' (g_fin n g) ∧ Lay M' ∧ am_gr (fun x => x ≤ 92) M M') := by
  refine am_C.of (by decide) (by simp [Value.category, va_rf]) (Nat.le_of_ble_eq_true rfl) ?_
  obtain ⟨b0, b1, b2, b3, b4, b5, -, -, -, -, bV, bA, bN, -, -, bh⟩ := id hB
  have hn5 : n < 5 := by omega
  have x4 := (hX.2.2.2.1 n hn5).1
  have hp4 : mI M (28 + 13 * n) 4 &&& 1 = nI (ga g 4 n % 2) := by rw [x4]; exact and1 (by omega)
  have hh : ∀ o, o < 5 → isO M (mR M (28 + 13 * n + 1) (ga g 4 n % 2 * 5 + o)) (gl g 0 n o) := fun o ho => (hX.2.2.2.2.2.1 n o 0 hn5 ho (by omega)).1
  have hl : ∀ o a, o < 5 → mR M (28 + 13 * n + 1) (ga g 4 n % 2 * 5 + o) = some a → ∃ t, gl g 0 n o = some t ∧ isL M a t := fun o a ho ha => by
    have z := hh o ho
    rw [ha] at z
    cases e : gl g 0 n o with
    | none => rw [e] at z; exact z.elim
    | some t => rw [e] at z; exact ⟨t, rfl, z⟩
  have ta16 : t_act g n ≤ 16 := by have := t_act_le g n (gs g 1); unfold t_act; omega
  refine r_aload_n dX8_finishRound_0 rfl ?_
  refine r_getF kX8 (k := 6) (by decide) rfl fl_X8_51 (lay_ok hL rfl) (lay_r hL rfl) dX8_finishRound_1 ?_
  refine r_iload_n dX8_finishRound_4 rfl ?_
  refine r_aaldF (Or.inr rfl) (lay_ok hL rfl) (by omega) (by decide) (lay_r hL (rf_row hn5)) dX8_finishRound_5 ?_
  refine r_astore_n _ dX8_finishRound_6 (by decide) rfl ?_
  refine r_aload_n dX8_finishRound_7 rfl ?_
  refine r_getF kX8 (k := 0) (by decide) rfl fl_X8_12 (lay_ok hL rfl) (lay_r hL rfl) dX8_finishRound_8 ?_
  refine r_iload_n dX8_finishRound_11 rfl ?_
  refine r_aload_n dX8_finishRound_12 rfl ?_
  refine r_getF kX8 (k := 1) (by decide) rfl fl_X8_21 (lay_ok hL rfl) (lay_r hL rfl) dX8_finishRound_13 ?_
  refine r_cV ca_yX1_activeAt ml_X8_250 im_yX1_activeAt se_yX1_activeAt (by decide) rfl (lay_ok hL rfl) (c_X1_activeAt hL (va := 8) (p := 9) (q := 10) (r := 11) (lay_ok hL rfl) (lay_r hL rfl) (lay_r hL rfl) (lay_r hL rfl) (lay_ok hL rfl) (lay_ok hL rfl) (lay_ok hL rfl) (hm := ga g 0) (ac := ga g 1) hX.1.2.1 b2 (fun v hv => ⟨(hX.2.1 v hv).1, by have := (bV v hv).1; omega, (hX.2.1 v hv).2.2.2.2, (bV v hv).2⟩) hn5) ⟨by decide, by decide⟩ (by first | decide | omega) (by first | decide | omega) rfl (Nat.le_of_ble_eq_true rfl) dX8_finishRound_16 ?_
  refine r_top (nI (t_act g n)) rfl ?_
  refine r_if_ne 35 dX8_finishRound_19 (by decide) (fun c19 => ?_) (fun c19 => ?_)
  · exact l_X8_finish hL hX hB hn hr (fun z => c19 (by rw [((told_iff g n).mp z).1]; rfl))
  · refine r_aload_n dX8_finishRound_22 rfl ?_
    have ta0 : t_act g n = 0 := (nI_eq (by omega) (by decide)).mp (show nI (t_act g n) = nI 0 from c19)
    refine r_callV ca_yX6_isToldActive ml_X8_254 im_yX6_isToldActive se_yX6_isToldActive (by decide) rfl (lay_ok hL (sh_n0 hn5)) (c_X6_isToldActive hL hn5 hp4 (by omega) (fun o a ho ha => (hl o a ho ha).choose_spec.2.1)) ⟨by decide, by decide⟩ (by decide) (by decide) rfl (Nat.le_of_ble_eq_true rfl) dX8_finishRound_23 (fun v0 M1 hp1 => ?_)
    obtain ⟨e1, hv⟩ := hp1
    rw [e1]
    rcases hv with ⟨rfl, o, a, ho, ha, hlt⟩ | ⟨rfl, hall⟩
    · refine r_if_ne 35 dX8_finishRound_26 (by decide) (fun _ => ?_) (fun hq => absurd hq (by decide))
      refine l_X8_finish hL hX hB hn hr (fun z => ?_)
      obtain ⟨t, ht, hlt2⟩ := hl o a ho ha
      have ho2 : o < gs g 0 := Nat.lt_of_not_le (fun y => by rw [hO o y] at ht; cases ht)
      have hz := ((told_iff g n).mp z).2 o t ho2 ht
      rw [hlt2.2.2.2.2.2.2.1, hz] at hlt
      exact absurd hlt (by decide)
    · refine r_if_ne 35 dX8_finishRound_26 (by decide) (fun hq => absurd rfl hq) (fun _ => ?_)
      have hz : t_toldA g n = 0 := (told_iff g n).mpr ⟨ta0, fun o t ho ht => by
        have z := hh o (by omega)
        rw [ht] at z
        cases e : mR M (28 + 13 * n + 1) (ga g 4 n % 2 * 5 + o) with
        | none => rw [e] at z; exact z.elim
        | some a =>
          rw [e] at z
          have y := hall o a (by omega) e
          rw [z.2.2.2.2.2.2.1] at y
          have hk := (bh 0 n o t ht).2.2.2.2.2.1
          exact Nat.eq_zero_of_not_pos (fun w => y (nI_lt (a := 0) w (by omega)))⟩
      refine r_aload_n dX8_finishRound_29 rfl ?_
      refine r_iconst (1) dX8_finishRound_30 (by decide) ?_
      refine r_putI kX6 (k := 5) (by decide) rfl (Or.inl rfl) fl_X8_236 (lay_ok hL (sh_n0 hn5)) (by decide) dX8_finishRound_31 ?_
      exact r_vret rfl dX8_finishRound_34 ⟨rfl, by rw [show g_fin n g = ua g 5 n 1 from if_pos hz]; exact absX_node hL.1 hX hn5 5 1 (by decide), lay_wI hL _ _ _, am_gr.wI _ _ (by show _ ≤ 92; omega)⟩
