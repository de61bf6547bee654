/-! THE INVARIANT HOLDS BEHIND EACH CALL -/
theorem gI_mono {c : Nat} {g : tG} (h : gI c g) : gI (c + 1) g := ⟨h.1, Nat.le_succ_of_le h.2.1, h.2.2⟩
theorem gI_of {c : Nat} {g h : tG} (hI : gI c g) (hB : gB h) (s : ∀ k, k < 8 → k ≠ 3 → k ≠ 4 → gs h k = gs g k) (a4 : ∀ n, ga h 4 n = ga g 4 n) (hE : gIE h) (ht : ∀ t, t_any h t → t_any g t) (hl : ∀ w n o t, w < 2 → gl h w n o = some t → gl g w n o = some t) (hm : gm h = gm g) (hv : gv h = gv g) (h0 : gs g 6 = 0 → gI0 h) : gI c h := by
  obtain ⟨i1, i2, i3, i4, i5, i6, i7, i8, i9, i10⟩ := hI
  have s0 := s 0 (by decide) (by decide) (by decide)
  have s1 := s 1 (by decide) (by decide) (by decide)
  have s5 := s 5 (by decide) (by decide) (by decide)
  have s6 := s 6 (by decide) (by decide) (by decide)
  have s7 := s 7 (by decide) (by decide) (by decide)
  refine ⟨hB, by rw [s7]; exact i2, ?_, fun z => h0 (by rw [← s6]; exact z), fun t h1 h2 => ?_, fun n o hn ho => ?_, fun w n o t hw h1 => ?_, hE, fun z => ?_, ?_⟩
  · unfold gMB; rw [hm]; exact i3
  · rw [a4]; exact i5 t (ht t h1) (by rw [← s7]; exact h2)
  · rw [a4, a4]; rw [s0] at hn ho; exact i6 n o hn ho
  · rw [a4, s7]; exact i7 w n o t hw (hl w n o t hw h1)
  · obtain ⟨B, hh⟩ := i9 (by rw [← s6]; exact z)
    refine ⟨B, fun n hn => ?_⟩
    rw [a4, s5, hm]
    exact hh n (by rw [← s0]; exact hn)
  · unfold gVB; rw [hm, hv, s1]; exact i10
theorem gIE_cg {g h : tG} (k : gIE g) (s0 : gs h 0 = gs g 0) (a : ∀ k n, 4 ≤ k → ga h k n = ga g k n) : gIE h := fun n hn => by
  rw [a 4 n (by decide), a 5 n (by decide), a 6 n (by decide)]
  exact k n (by rw [← s0]; exact hn)
theorem gI_new (n : Nat) (h2 : 2 ≤ n) (h5 : n ≤ 5) (c : Nat) : gI c (g_new n) := by
  have na : ∀ t, ¬ t_any (g_new n) t := fun t h => by
    rcases h with h | ⟨k, m, o, h⟩
    · cases h
    · cases h
  refine ⟨⟨h2, h5, Nat.zero_le _, Nat.zero_le _, Nat.zero_le _, Nat.zero_le _, Nat.zero_le _, Nat.zero_le _, Nat.zero_le _, fun _ => rfl, fun v hv => absurd hv (Nat.not_lt_zero _), fun v hv => absurd hv (Nat.not_lt_zero _), fun m _ => ⟨Nat.zero_le _, Nat.zero_le _, Nat.zero_le _⟩, Nat.zero_le _, fun t ht => (by cases ht), fun k m o t ht => (by cases ht)⟩, Nat.zero_le _, fun m i x e => (by cases e), fun _ => ⟨rfl, fun _ _ _ => rfl, fun _ => ⟨rfl, rfl, rfl⟩, fun _ _ => rfl, rfl⟩, fun t h => absurd h (na t), fun m o _ _ => ?_, fun w m o t _ e => (by cases e), fun m _ e => ?_, fun z => ?_, fun m i v e => absurd rfl e⟩
  · show 0 ≤ 0 + 1; decide
  · have e : 0 = 200 := e; omega
  · have z : (0 : Nat) = 1 := z; omega
theorem gI_us4 {c : Nat} {g : tG} (hI : gI c g) {b : Nat} (hb : b ≤ 1) (h3 : gs g 3 = 3 → b = 0) : gI c (us g 4 b) := by
  obtain ⟨b0, b1, b2, b3, b4, b5, b6, b7, b8, b9, bV, bA, bN, bl, bn, bh⟩ := hI.1
  exact gI_of hI ⟨b0, b1, b2, b3, b4, hb, b6, b7, b8, h3, bV, bA, bN, bl, bn, bh⟩ (fun k hk h3 h4 => by rw [gs_us, if_neg h4]) (fun _ => rfl) hI.2.2.2.2.2.2.2.1 (fun _ h => h) (fun _ _ _ _ _ h => h) rfl rfl (fun z => hI.2.2.2.1 z)
theorem gI_cnt {c : Nat} {g : tG} (hI : gI c g) (j v : Nat) : gI c (us g (9 + j) v) := by
  have e : ∀ k, k < 9 → gs (us g (9 + j) v) k = gs g k := fun k hk => by rw [gs_us, if_neg (by omega)]
  refine gI_of hI (gB_cnt hI.1 j v) (fun k hk _ _ => e k (by omega)) (fun _ => rfl) ?_ (fun _ h => h) (fun _ _ _ _ _ h => h) rfl rfl (fun z => ?_)
  · exact gIE_cg hI.2.2.2.2.2.2.2.1 (e 0 (by decide)) (fun _ _ _ => rfl)
  · obtain ⟨q1, q2, q3, q4, q5⟩ := hI.2.2.2.1 z
    exact ⟨q1, q2, q3, q4, by rw [e 7 (by decide)]; exact q5⟩
theorem gI_letters {c : Nat} {g : tG} (hI : gI c g) (x : List tL) (hB : gB (un g x)) (hx : ∀ t, t ∈ x → t_any g t) (h0 : gs g 6 = 0 → x = []) : gI c (un g x) := by
  refine gI_of hI hB (fun _ _ _ _ => rfl) (fun _ => rfl) hI.2.2.2.2.2.2.2.1 (fun t h => ?_) (fun _ _ _ _ _ h => h) rfl rfl (fun z => ?_)
  · rcases h with h | h
    · exact hx t h
    · exact Or.inr h
  · obtain ⟨q1, q2, q3, q4, q5⟩ := hI.2.2.2.1 z
    exact ⟨h0 z, q2, q3, q4, q5⟩
/-- who has letters has started -/
theorem gI_started {c : Nat} {g : tG} (hI : gI c g) {i : Nat} {t : tL} (ht : (gn g)[i]? = some t) : gs g 6 = 1 := by
  by_cases z : gs g 6 = 1
  · exact z
  · have := (hI.2.2.2.1 (bool01 hI.1.2.2.2.2.2.2.2.1 z)).1
    rw [this] at ht
    cases ht
theorem gI_out {c : Nat} {g : tG} (hI : gI c g) (i : Nat) : gI c (g_out i g) := gI_letters hI _ (gB_out hI.1 i) (fun t h => Or.inl (List.mem_of_mem_eraseIdx h)) (fun z => by rw [(hI.2.2.2.1 z).1]; rfl)
theorem come_gv (n r : Nat) (g : tG) (m i v : Nat) : gv (g_come n r g) m i v = if m = n ∧ r ≠ 200 ∧ (r = 0 ∨ (0 < gs g 5 ∧ r % gs g 5 = 0)) then (if i = 0 then gv g n 1 v else (gi g 1 v, gi g 2 v, ga g 1 v)) else gv g m i v := by
  by_cases c : r = 200
  · subst c
    rw [come_200, if_neg (fun z => z.2.1 rfl)]
    rfl
  · rw [come_w c, (sameW_write n _).2.2.2.1]
    unfold g_come0
    by_cases d : r = 0 ∨ (0 < gs g 5 ∧ r % gs g 5 = 0)
    · rw [if_pos d]
      show (if m = n then (if i = 0 then gv g n 1 v else (gi g 1 v, gi g 2 v, ga (ua g 4 n r) 1 v)) else gv g m i v) = _
      rw [ga_ua, if_neg (show ¬ (1 = 4 ∧ v = n) from fun z => by omega)]
      by_cases e : m = n
      · rw [if_pos e, if_pos (show m = n ∧ r ≠ 200 ∧ (r = 0 ∨ (0 < gs g 5 ∧ r % gs g 5 = 0)) from ⟨e, c, d⟩)]
      · rw [if_neg e, if_neg (show ¬ (m = n ∧ r ≠ 200 ∧ (r = 0 ∨ (0 < gs g 5 ∧ r % gs g 5 = 0))) from fun z => e z.1)]
    · rw [if_neg d, if_neg (fun z => d z.2.2)]
      rfl
theorem gVB_come {n r : Nat} {g : tG} (hV : gVB g) (hB : gB g) : gVB (g_come n r g) := fun m i v e hv => by
  rw [come_gs n r g (by decide)] at hv
  rw [come_gm] at e
  rw [come_gv]
  by_cases z : m = n ∧ r ≠ 200 ∧ (r = 0 ∨ (0 < gs g 5 ∧ r % gs g 5 = 0))
  · rw [if_pos z] at e ⊢
    by_cases d : i = 0
    · rw [if_pos d] at e ⊢
      exact hV n 1 v e hv
    · rw [if_neg d]
      exact (hB.2.2.2.2.2.2.2.2.2.2.1 v hv).2
  · rw [if_neg z] at e ⊢
    exact hV m i v e hv
/-! start -/
theorem startP_j {g : tG} (hB : gB g) (h0 : gI0 g) (hV : gVB g) : ∀ i, i ≤ gs g 0 → (∀ m, ga (startP g i) 4 m = 0) ∧ (∀ w m o, w < 2 → gl (startP g i) w m o = none) ∧ (∀ t, t_any (startP g i) t → t.2.1 = 0) ∧ gVB (startP g i) ∧ gMB (startP g i) ∧ ∀ m, m < i → gm (startP g i) m 1 = some 0
  | 0, _ => by
    refine ⟨fun m => (h0.2.2.1 m).1, fun w m o _ => h0.2.1 w m o, fun t h => ?_, hV, fun m i x e => ?_, fun m h => absurd h (by omega)⟩
    · rcases h with h | ⟨k, m, o, h⟩
      · have h : t ∈ gn g := h
        rw [h0.1] at h; cases h
      · have h : gl g k m o = some t := h
        rw [h0.2.1] at h; cases h
    · have e : gm g m i = some x := e
      rw [h0.2.2.2.1] at e; cases e
  | i + 1, hi => by
    obtain ⟨p1, p2, p3, p4, p5, p6⟩ := startP_j hB h0 hV i (by omega)
    have hBi := (startP_i hB i (by omega)).1
    have e : startP g (i + 1) = g_come i 0 (startP g i) := rfl
    rw [e]
    refine ⟨fun m => ?_, fun w m o hw => ?_, fun t h => ?_, gVB_come p4 hBi, gMB_come p5 (by decide), fun m hm => ?_⟩
    · rw [come_ga]
      split
      · rfl
      · rw [if_neg (by omega)]; exact p1 m
    · rw [come_gl (by omega)]
      show (if m = i then (if w = 0 then gl (startP g i) 1 i o else if w = 2 then gl (startP g i) 3 i o else if w = 1 ∨ w = 3 then none else gl (startP g i) w i o) else gl (startP g i) w m o) = none
      by_cases c : m = i
      · rw [if_pos c]
        rcases (show w = 0 ∨ w = 1 by omega) with rfl | rfl
        · rw [if_pos rfl]; exact p2 1 i o (by decide)
        · rw [if_neg (by decide), if_neg (by decide), if_pos (by decide)]
      · rw [if_neg c]; exact p2 w m o hw
    · rcases any_come h with h | h
      · exact p3 t h
      · exact h.2.1
    · rw [come_gm]
      by_cases c : m = i
      · rw [if_pos ⟨c, by decide, Or.inl rfl⟩, if_neg (by decide)]
      · rw [if_neg (fun z => c z.1)]; exact p6 m (by omega)
theorem pm_0 (e : Nat) : pm 0 e 0 = 0 := by
  unfold pm
  split
  · rfl
  · rw [if_pos (by rw [Nat.zero_div]; simp)]
theorem pm_self (e m : Nat) : pm m e m = m := by
  unfold pm
  split
  · rfl
  · rw [if_pos (Nat.mul_div_le m e)]
theorem gI_start {c : Nat} {g : tG} (hI : gI c g) (h6 : gs g 6 = 0) : gI c (g_start g) := by
  have h0 := hI.2.2.2.1 h6
  have q := startP_i hI.1 (gs g 0) (Nat.le_refl _)
  obtain ⟨p1, p2, p3, p4, p5, p6⟩ := startP_j hI.1 h0 hI.2.2.2.2.2.2.2.2.2 (gs g 0) (Nat.le_refl _)
  have e : g_start g = startP g (gs g 0) := rfl
  rw [e]
  generalize startP g (gs g 0) = h at q p1 p2 p3 p4 p5 p6
  obtain ⟨q1, q2, -⟩ := q
  have s0 : gs h 0 = gs g 0 := q2 0 (by decide)
  have s6 : gs h 6 = 1 := q2 6 (by decide)
  have s7 : gs h 7 = gs g 7 := q2 7 (by decide)
  refine ⟨q1, by rw [s7]; exact hI.2.1, p5, fun z => by omega, fun t h1 _ => by rw [p3 t h1]; exact Nat.zero_le _, fun n o _ _ => by rw [p1, p1]; decide, fun w n o t hw e => (by rw [p2 w n o hw] at e; cases e), fun n _ e => (by rw [p1] at e; omega), fun _ => ⟨0, fun n hn => ?_⟩, p4⟩
  rw [p1, p6 n (by omega)]
  refine ⟨Nat.zero_le _, ?_, fun z => ?_⟩
  · show some 0 = some (pm 0 (gs h 5) 0)
    rw [pm_0]
  · exact absurd (pm_0 (gs h 5)) z
/-! a node finishes its round -/
theorem gIM_come {g : tG} {n r : Nat} (hn : n < gs g 0) (k : gIM g) (h4 : ga g 4 n = r) (hr : r ≤ 199) : gIM (g_come n (r + 1) g) := by
  obtain ⟨B, hh⟩ := k
  refine ⟨B, fun m hm => ?_⟩
  rw [come_gs _ _ _ (by decide)] at hm
  rw [come_gs _ _ _ (by decide)]
  obtain ⟨k1, k2, k3⟩ := hh m hm
  by_cases c : m = n
  · subst c
    have a4 : ga (g_come m (r + 1) g) 4 m = r + 1 := by rw [come_ga, if_pos ⟨rfl, rfl⟩]
    rw [a4]
    rw [h4] at k1 k2 k3
    by_cases z : r + 1 = 200
    · have em : ∀ i, gm (g_come m (r + 1) g) m i = gm g m i := fun i => by rw [come_gm, if_neg (fun y => y.2.1 z)]
      rw [em, em]
      have e1 : min (r + 1) 199 = min r 199 := by omega
      rw [e1]
      exact ⟨k1, k2, k3⟩
    · have e1 : min (r + 1) 199 = r + 1 := by omega
      have e2 : min r 199 = r := by omega
      rw [e1]
      rw [e2] at k1 k2 k3
      refine ⟨by omega, ?_⟩
      by_cases d : 0 < gs g 5 ∧ (r + 1) % gs g 5 = 0
      · have dv : gs g 5 ∣ r + 1 := Nat.dvd_of_mod_eq_zero d.2
        have ep : pm B (gs g 5) (r + 1) = r + 1 := by
          unfold pm
          rw [if_neg (by omega), Nat.mul_div_cancel' dv, if_neg (by omega)]
        have yes : m = m ∧ r + 1 ≠ 200 ∧ (r + 1 = 0 ∨ (0 < gs g 5 ∧ (r + 1) % gs g 5 = 0)) := ⟨rfl, z, Or.inr d⟩
        rw [come_gm, if_pos yes, come_gm, if_pos yes, if_neg (by decide), if_pos rfl, ep, Nat.add_sub_cancel]
        exact ⟨rfl, fun _ => k2⟩
      · have ep : pm B (gs g 5) (r + 1) = pm B (gs g 5) r := by
          unfold pm
          by_cases z5 : gs g 5 = 0
          · rw [if_pos z5, if_pos z5]
          · have nd : ¬ gs g 5 ∣ r + 1 := fun y => d ⟨by omega, Nat.mod_eq_zero_of_dvd y⟩
            rw [if_neg z5, if_neg z5, Nat.succ_div, if_neg nd, Nat.add_zero]
        have no : ¬ (m = m ∧ r + 1 ≠ 200 ∧ (r + 1 = 0 ∨ (0 < gs g 5 ∧ (r + 1) % gs g 5 = 0))) := fun y => y.2.2.elim (fun y => by omega) d
        rw [come_gm, if_neg no, come_gm, if_neg no, ep]
        exact ⟨k2, k3⟩
  · have a4 : ga (g_come n (r + 1) g) 4 m = ga g 4 m := by rw [come_ga, if_neg (fun z => c z.2), if_neg (by omega)]
    have em : ∀ i, gm (g_come n (r + 1) g) m i = gm g m i := fun i => by rw [come_gm, if_neg (fun y => c y.1)]
    rw [a4, em, em]
    exact ⟨k1, k2, k3⟩
theorem gI_take {c n : Nat} {g : tG} (hI : gI c g) (h6 : gs g 6 = 1) : gI c (g_take n g) := by
  have st := sameT_take n g
  refine gI_of hI (gB_take hI.1) (fun k _ _ _ => by rw [st.1]) (fun m => by rw [st.2.2.2.2.2.1 4 (by decide)]) ?_ (fun t h => ?_) (fun w m o t _ h => by rw [st.2.2.1] at h; exact h) st.2.2.2.1 st.2.2.2.2.1 (fun z => by omega)
  · exact gIE_cg hI.2.2.2.2.2.2.2.1 (by rw [st.1]) (fun k m hk => by rw [st.2.2.2.2.2.1 k (by omega)])
  · rcases h with h | ⟨k, m, o, h⟩
    · rw [st.2.1] at h; exact Or.inl h
    · rw [st.2.2.1] at h; exact Or.inr ⟨k, m, o, h⟩
theorem gI_come {c n r : Nat} {g : tG} (hI : gI c g) (h6 : gs g 6 = 1) (hn : n < gs g 0) (h4 : ga g 4 n = r) (hr : r ≤ 199) (hfull : ∀ o, o < gs g 0 → o ≠ n → gl g 0 n o ≠ none) : gI c (g_come n (r + 1) g) := by
  obtain ⟨i1, i2, i3, i4, i5, i6, i7, i8, i9, i10⟩ := id hI
  have a4 : ∀ m, ga (g_come n (r + 1) g) 4 m = if m = n then r + 1 else ga g 4 m := fun m => by
    rw [come_ga]
    by_cases c : m = n
    · rw [if_pos ⟨rfl, c⟩, if_pos c]
    · rw [if_neg (fun z => c z.2), if_neg (by omega), if_neg c]
  have up : ∀ m, ga g 4 m ≤ ga (g_come n (r + 1) g) 4 m := fun m => by
    rw [a4]; split
    · rename_i z; rw [z]; omega
    · exact Nat.le_refl _
  have low : ∀ o, o < gs g 0 → r ≤ ga g 4 o := fun o ho => by
    by_cases z : o = n
    · rw [z]; omega
    · cases e : gl g 0 n o with
      | none => exact absurd e (hfull o ho z)
      | some t =>
        obtain ⟨y1, y2, y3, y4⟩ := i7 0 n o t (by decide) e
        have := i5 t (Or.inr ⟨0, n, o, e⟩) y1
        rw [y3] at this
        omega
  refine ⟨gB_come i1 hn (by omega), by rw [come_gs _ _ _ (by decide)]; exact i2, gMB_come i3 (by omega), fun z => ?_, fun t h1 h2 => ?_, fun m o hm ho => ?_, fun w m o t hw e => ?_, fun m hm e => ?_, fun _ => gIM_come hn (i9 h6) h4 hr, gVB_come i10 i1⟩
  · rw [come_gs _ _ _ (by decide)] at z; omega
  · rcases any_come h1 with h | h
    · exact Nat.le_trans (i5 t h (by rw [come_gs _ _ _ (by decide)] at h2; exact h2)) (up _)
    · rw [h.2.1, h.2.2, a4, if_pos rfl]; exact Nat.le_refl _
  · rw [come_gs _ _ _ (by decide)] at hm ho
    have := i6 m o hm ho
    have := up o
    by_cases z : m = n
    · rw [a4 m, if_pos z]
      have := low o ho
      omega
    · rw [a4 m, if_neg z]
      omega
  · rw [come_gl (by omega)] at e
    have e : (if m = n then (if w = 0 then gl g 1 n o else if w = 2 then gl g 3 n o else if w = 1 ∨ w = 3 then none else gl g w n o) else gl g w m o) = some t := e
    rw [come_gs _ _ _ (by decide), a4]
    by_cases z : m = n
    · rw [if_pos z] at e ⊢
      rcases (show w = 0 ∨ w = 1 by omega) with rfl | rfl
      · rw [if_pos rfl] at e
        obtain ⟨y1, y2, y3, y4⟩ := i7 1 n o t (by decide) e
        exact ⟨y1, by omega, y3, by omega⟩
      · rw [if_neg (by decide), if_neg (by decide), if_pos (by decide)] at e
        cases e
    · rw [if_neg z] at e ⊢
      exact i7 w m o t hw e
  · rw [come_gs _ _ _ (by decide)] at hm
    rw [a4] at e
    rw [come_ga, come_ga]
    by_cases z : m = n
    · rw [if_pos z] at e
      exact Or.inl (by rw [if_neg (by omega), if_pos ⟨rfl, z, e⟩])
    · rw [if_neg z] at e
      rw [if_neg (by omega), if_neg (fun y => z y.2.1), if_neg (by omega), if_neg (by omega)]
      exact i8 m hm e
theorem gI_fin {c n : Nat} {g : tG} (hI : gI c g) (h6 : gs g 6 = 1) (hn : n < gs g 0) (hr : ga g 4 n ≤ 199) (hh : t_held g n = gs g 0 - 1) : gI c (g_fin n g) := by
  by_cases z : t_toldA g n = 0
  · rw [show g_fin n g = ua g 5 n 1 from if_pos z]
    refine gI_of hI (gB_ua hI.1 n (Or.inl rfl) (Nat.le_refl _)) (fun _ _ _ _ => rfl) (fun m => by rw [ga_uaf _ _ _ (by decide)]) (fun m hm e => ?_) (fun _ h => h) (fun _ _ _ _ _ h => h) rfl rfl (fun y => by omega)
    rw [ga_uaf _ _ _ (by decide)] at e
    have := hI.2.2.2.2.2.2.2.1 m hm e
    rw [ga_ua, ga_uaf _ _ _ (show 6 ≠ 5 by decide)]
    split
    · exact Or.inl rfl
    · exact this
  · rw [show g_fin n g = g_come n (ga g 4 n + 1) (g_take n g) from if_neg z]
    have st := sameT_take n g
    have hfull := held_full hn (held_self hI (by decide)) hh
    exact gI_come (gI_take hI h6) (by rw [st.1]; exact h6) (by rw [st.1]; exact hn) (by rw [st.2.2.2.2.2.1 4 (by decide)]) hr (by rw [st.1, st.2.2.1]; exact hfull)
theorem fin_6 {n : Nat} {g : tG} : gs (g_fin n g) 6 = gs g 6 := by
  by_cases z : t_toldA g n = 0
  · rw [show g_fin n g = ua g 5 n 1 from if_pos z]; rfl
  · rw [show g_fin n g = g_come n (ga g 4 n + 1) (g_take n g) from if_neg z, come_gs _ _ _ (by decide), (sameT_take n g).1]
theorem gI_on {c n : Nat} : ∀ f i g, gI c g → gs g 6 = 1 → onI n i g → gI c (g_on n f g)
  | 0, _, _, hI, _, _ => hI
  | f + 1, i, g, hI, h6, hJ => by
    by_cases z : ga g 5 n = 0 ∧ t_held g n = gs g 0 - 1
    · rw [on_full z]
      exact gI_on f (i + 1) _ (gI_fin hI h6 hJ.2.1 (hJ.2.2.1 z.1) z.2) (by rw [fin_6]; exact h6) (onI_step hJ z)
    · rw [on_not z]; exact hI
theorem gI_hold {c i : Nat} {t : tL} {g : tG} (hI : gI c g) (ht : (gn g)[i]? = some t) (h0 : t_how g t = 0) : gI c (g_hold i t g) := by
  have hm := List.mem_of_getElem? ht
  have tk := hI.1.2.2.2.2.2.2.2.2.2.2.2.2.2.2.1 t hm
  obtain ⟨z1, z2, z3, z4, z5⟩ := how0 h0
  have h6 := gI_started hI ht
  have hw := gI_w hI (Or.inl hm) tk z2
  obtain ⟨i1, i2, i3, i4, i5, i6, i7, i8, i9, i10⟩ := id hI
  have hI1 : gI c (ul g (l_set (gl g) (t.2.1 - ga g 4 t.2.2.2.1) t.2.2.2.1 t.2.2.1 (some t))) := by
    refine ⟨gB_hold i1 tk _ _ _, i2, i3, fun z => by have z : gs g 6 = 0 := z; omega, fun u h1 h2 => ?_, i6, fun w n o u hw' e => ?_, i8, i9, i10⟩
    · refine i5 u ?_ h2
      rcases h1 with h1 | ⟨k, m, o, h1⟩
      · exact Or.inl h1
      · have h1 : (if k = t.2.1 - ga g 4 t.2.2.2.1 ∧ m = t.2.2.2.1 ∧ o = t.2.2.1 then some t else gl g k m o) = some u := h1
        split at h1
        · cases h1; exact Or.inl hm
        · exact Or.inr ⟨k, m, o, h1⟩
    · have e : (if w = t.2.1 - ga g 4 t.2.2.2.1 ∧ n = t.2.2.2.1 ∧ o = t.2.2.1 then some t else gl g w n o) = some u := e
      split at e
      · rename_i y
        cases e
        obtain ⟨y1, y2, y3⟩ := y
        show t.1 = gs g 7 ∧ t.2.1 = ga g 4 n + w ∧ t.2.2.1 = o ∧ t.2.2.2.1 = n
        rw [y2]
        exact ⟨z2, by omega, y3.symm, rfl⟩
      · exact i7 w n o u hw' e
  exact gI_cnt (gI_out hI1 i) 0 _
theorem gI_deliver {c i : Nat} {t : tL} {g : tG} (hI : gI c g) (ht : (gn g)[i]? = some t) : gI c (g_deliver i t g) := by
  by_cases h0 : t_how g t = 0
  · rw [show g_deliver i t g = g_on t.2.2.2.1 201 (g_hold i t g) from if_pos h0]
    exact gI_on 201 0 _ (gI_hold hI ht h0) (show gs g 6 = 1 from gI_started hI ht) (onI_hold hI ht h0)
  · rw [show g_deliver i t g = us (g_out i g) (9 + t_how g t) (gs g (9 + t_how g t) + 1) from if_neg h0]
    exact gI_cnt (gI_out hI i) _ _
theorem gI_re1 {c a b w : Nat} {g : tG} (hI : gI c g) (h6 : gs g 6 = 1) : gI c (g_re1 a b w g) ∧ gs (g_re1 a b w g) 6 = 1 := by
  unfold g_re1
  cases e : gl g (2 + w) a b with
  | none => exact ⟨hI, h6⟩
  | some t =>
    refine ⟨?_, h6⟩
    show gI c (un g (t_push (gn g) t))
    have tk := hI.1.2.2.2.2.2.2.2.2.2.2.2.2.2.2.2 _ _ _ _ e
    unfold t_push
    by_cases z : (gn g).length < 60
    · rw [if_pos z]
      refine gI_letters hI _ (gB_push hI.1 tk z) (fun u hu => ?_) (fun z => by omega)
      rcases List.mem_append.mp hu with h | h
      · exact Or.inl h
      · rw [List.mem_singleton.mp h]; exact Or.inr ⟨_, _, _, e⟩
    · rw [if_neg z]; exact hI
theorem gI_crash {c n : Nat} {g : tG} (hI : gI c g) (h6 : gs g 6 = 1) : gI c (g_crash n g) := by
  have e4 : ∀ m, ga (g_crash n g) 4 m = ga g 4 m := fun m => by show ga (ua (ua g 5 n 0) 6 n 1) 4 m = _; rw [ga_uaf _ _ _ (by decide), ga_uaf _ _ _ (by decide)]
  have hB : gB (g_crash n g) := gB_forget (gB_ua (gB_ua hI.1 n (Or.inl rfl) (by decide)) n (Or.inr rfl) (Nat.le_refl _)) n
  refine gI_of hI hB (fun _ _ _ _ => rfl) e4 (fun m hm e => ?_) (fun t h => ?_) (fun w m o t _ h => ?_) rfl rfl (fun z => by omega)
  · rw [e4] at e
    have := hI.2.2.2.2.2.2.2.1 m hm e
    show ga (ua (ua g 5 n 0) 6 n 1) 5 m = 1 ∨ ga (ua (ua g 5 n 0) 6 n 1) 6 m = 1
    rw [ga_uaf _ _ _ (show 5 ≠ 6 by decide), ga_ua, ga_ua, ga_uaf _ _ _ (show 6 ≠ 5 by decide)]
    by_cases c : m = n
    · right; rw [if_pos ⟨rfl, c⟩]
    · rw [if_neg (fun z => c z.2), if_neg (fun z => c z.2)]; exact this
  · rcases h with h | ⟨k, m, o, h⟩
    · exact Or.inl h
    · have h : (if m = n then none else gl g k m o) = some t := h
      split at h
      · cases h
      · exact Or.inr ⟨k, m, o, h⟩
  · have h : (if m = n then none else gl g w m o) = some t := h
    split at h
    · cases h
    · exact h
/-! going back, moving -/
theorem any_wr {h : tG} {t : tL} : ∀ i, t_any (itr (fun n x => g_write n x) i h) t → t_any h t ∨ (t.1 = gs h 7 ∧ t.2.1 = ga h 4 t.2.2.1)
  | 0, z => Or.inl z
  | i + 1, z => by
    rw [itr_s _ i _] at z
    have s : ∀ i, sameW h (itr (fun n x => g_write n x) i h) := fun i => by
      induction i with
      | zero => exact sameW.rf
      | succ i ih => rw [itr_s _ i _]; exact ih.tr (sameW_write i _)
    rcases any_write z with z | z
    · exact any_wr i z
    · rw [(s i).1, (s i).2.2.2.2 7 (by decide)] at z
      exact Or.inr ⟨z.1, by rw [z.2.2]; exact z.2.1⟩
theorem gl_wr {h : tG} {k m q : Nat} (hk : k ≠ 3) : ∀ i, gl (itr (fun n x => g_write n x) i h) k m q = gl h k m q
  | 0 => rfl
  | i + 1 => by rw [itr_s _ i _, gl_write _ _ _ _ _ (Or.inl hk), gl_wr hk i]
/-- an epoch begins: all at round r, with that mark alone -/
theorem gI_epoch {c r : Nat} {g h : tG} (hI : gI c g) (hB : gB h) (s0 : gs h 0 = gs g 0) (s6 : gs h 6 = 1) (s7 : gs h 7 = gs g 7 + 1) (hr : r ≤ 199) (a4 : ∀ n, n < gs g 0 → ga h 4 n = r) (hM : gMB h) (hV : gVB h) (ht : ∀ t, t_any h t → t_any g t) (hl : ∀ w n o, w < 2 → n < gs g 0 → gl h w n o = none) (hl2 : ∀ w n o, w < 2 → gs g 0 ≤ n → gl h w n o = gl g w n o) (hm : ∀ n, n < gs g 0 → gm h n 1 = some r) : gI (c + 1) (itr (fun n x => g_write n x) (gs g 0) h) := by
  have Q := wrP_i hB (fun n hn => by rw [a4 n (by omega)]; exact hr) (gs g 0) (by omega)
  have AW : ∀ t, t_any (itr (fun n x => g_write n x) (gs g 0) h) t → t_any h t ∨ (t.1 = gs h 7 ∧ t.2.1 = ga h 4 t.2.2.1) := fun t => any_wr _
  have GL : ∀ w n o, w < 2 → gl (itr (fun n x => g_write n x) (gs g 0) h) w n o = gl h w n o := fun w n o hw => gl_wr (by omega) _
  generalize itr (fun n x => g_write n x) (gs g 0) h = k at Q AW GL
  obtain ⟨q1, w1, w2, w3, w4, w5⟩ := Q
  have k0 : gs k 0 = gs g 0 := (w5 0 (by decide)).trans s0
  have old : ∀ t, t_any g t → t.1 ≤ gs g 7 := fun t h => by
    rcases h with h | ⟨x, n, o, h⟩
    · exact (hI.1.2.2.2.2.2.2.2.2.2.2.2.2.2.2.1 t h).1
    · exact (hI.1.2.2.2.2.2.2.2.2.2.2.2.2.2.2.2 x n o t h).1
  refine ⟨q1, by rw [w5 7 (by decide), s7]; have := hI.2.1; omega, by unfold gMB; rw [w3]; exact hM, fun z => by rw [w5 6 (by decide), s6] at z; omega, fun t h1 h2 => ?_, fun n o hn ho => ?_, fun w n o t hw e => ?_, fun n hn e => ?_, fun _ => ⟨r, fun n hn => ?_⟩, by unfold gVB; rw [w3, w4, w5 1 (by decide)]; exact hV⟩
  · rw [w5 7 (by decide)] at h2
    rw [w1]
    rcases AW t h1 with h | h
    · have := old t (ht t h); omega
    · exact Nat.le_of_eq h.2
  · rw [k0] at hn ho
    rw [w1, a4 n hn, a4 o ho]; omega
  · rw [GL w n o hw] at e
    rcases Nat.lt_or_ge n (gs g 0) with y | y
    · rw [hl w n o hw y] at e; cases e
    · rw [hl2 w n o hw y] at e
      have y1 := hI.2.2.2.2.2.2.1 w n o t hw e
      have y2 := hI.1.2.2.2.2.2.2.2.2.2.2.2.2.2.2.2 w n o t e
      have := y2.2.2.2.1
      omega
  · rw [k0] at hn
    rw [w1, a4 n hn] at e
    omega
  · rw [k0] at hn
    rw [w1, w3, a4 n hn, hm n hn, show min r 199 = r by omega, pm_self]
    exact ⟨Nat.le_refl _, rfl, fun z => absurd rfl z⟩
theorem bkP_j {g : tG} {m : Nat} (hB : gB g) (h7 : gs g 7 + 1 ≤ 1000) (hm : m ≤ 199) (hV : gVB g) (hM : gMB g) (hA : ∀ n, n < gs g 0 → gm g n 1 = some m ∨ gm g n 0 = some m) : ∀ i, i ≤ gs g 0 → gMB (bkP m g i) ∧ gVB (bkP m g i) ∧ (∀ t, t_any (bkP m g i) t → t_any g t) ∧ (∀ k n o, n < i → gl (bkP m g i) k n o = none) ∧ (∀ k n o, i ≤ n → gl (bkP m g i) k n o = gl g k n o) ∧ ∀ n, n < i → gm (bkP m g i) n 1 = some m
  | 0, _ => ⟨hM, hV, fun _ h => h, fun _ _ _ h => absurd h (by omega), fun _ _ _ _ => rfl, fun _ h => absurd h (by omega)⟩
  | i + 1, hi => by
    obtain ⟨p1, p2, p3, p4, p5, p6⟩ := bkP_j hB h7 hm hV hM hA i (by omega)
    have r1 := (bkP_i hB h7 hm hV hA i (by omega)).2.2.1 i (Nat.le_refl _)
    have e : bkP m g (i + 1) = g_back1 i m (bkP m g i) := rfl
    rw [e]
    generalize bkP m g i = h at p1 p2 p3 p4 p5 p6 r1
    obtain ⟨q1, q2, q3, q4, q5, q6, q7⟩ := back1_f i m h
    have hx : gm h i 1 = some m ∨ gm h i 0 = some m := by rw [(r1 1).1, (r1 0).1]; exact hA i (by omega)
    refine ⟨fun n j x ex => ?_, fun n j v ev hv => ?_, fun t h1 => ?_, fun k n o hn => ?_, fun k n o hn => ?_, fun n hn => ?_⟩
    · rw [q4, backM_gm] at ex
      split at ex
      · split at ex
        · cases ex
        · cases ex; exact hm
      · exact p1 n j x ex
    · rw [q1] at hv
      rw [q4] at ev
      rw [q5]
      rw [backM_gm] at ev
      rw [backM_gv]
      by_cases z : n = i ∧ gm h i 1 ≠ some m
      · rw [if_pos z] at ev
        by_cases y : j = 0
        · rw [if_pos y] at ev; exact absurd rfl ev
        · rw [if_pos ⟨z.1, y, z.2⟩]
          exact p2 i 0 v (by rcases hx with x | x; exact absurd x z.2; rw [x]; exact fun y => by cases y) hv
      · rw [if_neg z] at ev
        rw [if_neg (fun y => z ⟨y.1, y.2.2⟩)]
        exact p2 n j v ev hv
    · apply p3
      rcases h1 with h1 | ⟨k, n, o, h1⟩
      · rw [q2] at h1; exact Or.inl h1
      · rw [q3] at h1
        have h1 : (if n = i then none else gl h k n o) = some t := h1
        split at h1
        · cases h1
        · exact Or.inr ⟨k, n, o, h1⟩
    · rw [q3]
      show (if n = i then none else gl h k n o) = none
      split
      · rfl
      · exact p4 k n o (by omega)
    · rw [q3]
      show (if n = i then none else gl h k n o) = _
      rw [if_neg (by omega)]
      exact p5 k n o (by omega)
    · rw [q4]
      by_cases z : n = i
      · rw [z]; exact backM_new hx
      · rw [backM_gm, if_neg (fun y => z y.1)]
        exact p6 n (by omega)
theorem gI_back {c m : Nat} {g : tG} (hI : gI c g) (hc : c ≤ 999) (h6 : gs g 6 = 1) (hm : m ≤ 199) (hA : t_allM g (some m)) : gI (c + 1) (g_back m g) := by
  have h7 : gs g 7 + 1 ≤ 1000 := by have := hI.2.1; omega
  obtain ⟨p1, p2, p3, p4⟩ := bkP_i hI.1 h7 hm hI.2.2.2.2.2.2.2.2.2 hA (gs g 0) (Nat.le_refl _)
  obtain ⟨q1, q2, q3, q4, q5, q6⟩ := bkP_j hI.1 h7 hm hI.2.2.2.2.2.2.2.2.2 hI.2.2.1 hA (gs g 0) (Nat.le_refl _)
  rw [g_back_eq]
  exact gI_epoch hI p1 (p2 0) ((p2 6).trans h6) (p2 7) hm p4 q1 q2 q3 (fun w n o _ hn => q4 w n o hn) (fun w n o _ hn => q5 w n o hn) q6
theorem mvP_j {g : tG} {v n : Nat} (hB : gB (us (ua g 0 v n) 7 (gs g 7 + 1))) (hV : gVB g) (hM : gMB g) (h4 : ∀ k, k < gs g 0 → ga g 4 k ≤ 199) : ∀ i, i ≤ gs g 0 → gMB (mvP v n g i) ∧ gVB (mvP v n g i) ∧ (∀ t, t_any (mvP v n g i) t → t_any g t) ∧ (∀ k q o, q < i → gl (mvP v n g i) k q o = none) ∧ (∀ k q o, i ≤ q → gl (mvP v n g i) k q o = gl g k q o) ∧ ∀ q, q < i → gm (mvP v n g i) q 1 = some (ga g 4 q)
  | 0, _ => ⟨hM, hV, fun _ h => h, fun _ _ _ h => absurd h (by omega), fun _ _ _ _ => rfl, fun _ h => absurd h (by omega)⟩
  | i + 1, hi => by
    obtain ⟨p1, p2, p3, p4, p5, p6⟩ := mvP_j hB hV hM h4 i (by omega)
    obtain ⟨r1, r2, r3⟩ := mvP_i hB i
    have e : mvP v n g (i + 1) = g_move1 i (mvP v n g i) := rfl
    have r4 : ∀ q, ga (mvP v n g i) 4 q = ga g 4 q := fun q => by rw [r3, ga_uaf _ _ _ (by decide)]
    rw [e]
    generalize mvP v n g i = h at p1 p2 p3 p4 p5 p6 r1 r4
    obtain ⟨q1, q2, q3, q4, q5, q6, q7⟩ := move1_f i h
    refine ⟨fun q j x ex => ?_, fun q j u ev hv => ?_, fun t h1 => ?_, fun k q o hn => ?_, fun k q o hn => ?_, fun q hn => ?_⟩
    · rw [q6] at ex
      have ex : (if q = i ∧ j = 0 then none else if q = i then (if j = 0 then gm h i 1 else some (ga h 4 i)) else gm h q j) = some x := ex
      split at ex
      · cases ex
      · split at ex
        · split at ex
          · exact p1 _ _ x ex
          · cases ex; rw [r4]; exact h4 i (by omega)
        · exact p1 q j x ex
    · rw [q1] at hv
      rw [q6] at ev
      rw [q7]
      have ev : (if q = i ∧ j = 0 then none else if q = i then (if j = 0 then gm h i 1 else some (ga h 4 i)) else gm h q j) ≠ none := ev
      show (if q = i then (if j = 0 then gv h i 1 u else (gi h 1 u, gi h 2 u, ga h 1 u)) else gv h q j u).2.2 ≤ 1
      by_cases z : q = i
      · by_cases y : j = 0
        · rw [if_pos ⟨z, y⟩] at ev; exact absurd rfl ev
        · rw [if_pos z, if_neg y]
          exact (r1.2.2.2.2.2.2.2.2.2.2.1 u hv).2
      · rw [if_neg (fun y => z y.1), if_neg z] at ev
        rw [if_neg z]
        exact p2 q j u ev hv
    · apply p3
      rcases h1 with h1 | ⟨k, q, o, h1⟩
      · rw [q4] at h1; exact Or.inl h1
      · rw [q5] at h1
        have h1 : (if q = i then none else gl h k q o) = some t := h1
        split at h1
        · cases h1
        · exact Or.inr ⟨k, q, o, h1⟩
    · rw [q5]
      show (if q = i then none else gl h k q o) = none
      split
      · rfl
      · exact p4 k q o (by omega)
    · rw [q5]
      show (if q = i then none else gl h k q o) = _
      rw [if_neg (by omega)]
      exact p5 k q o (by omega)
    · rw [q6]
      show (if q = i ∧ 1 = 0 then none else if q = i then (if 1 = 0 then gm h i 1 else some (ga h 4 i)) else gm h q 1) = _
      rw [if_neg (by omega)]
      by_cases z : q = i
      · rw [if_pos z, if_neg (by decide), z, r4]
      · rw [if_neg z]; exact p6 q (by omega)
theorem gI_move {c v n : Nat} {g : tG} (hI : gI c g) (hc : c ≤ 999) (h6 : gs g 6 = 1) (hn : n < gs g 0) (hL : t_lev g) : gI (c + 1) (g_move v n g) := by
  have hBv : gB (us (ua g 0 v n) 7 (gs g 7 + 1)) := gB_s7 (g := ua g 0 v n) (gB_home hI.1 hn) (by have := hI.2.1; show gs g 7 + 1 ≤ 1000; omega)
  have b0 := hI.1.1
  have h4 : ∀ k, k < gs g 0 → ga g 4 k ≤ 199 := fun k hk => by
    have z1 := hL k hk
    have z2 := hI.2.2.2.2.2.2.2.1 k hk
    have z3 := (hI.1.2.2.2.2.2.2.2.2.2.2.2.2.1 k (by have := hI.1.2.1; omega)).1
    omega
  obtain ⟨p1, p2, p3⟩ := mvP_i hBv (gs g 0)
  obtain ⟨q1, q2, q3, q4, q5, q6⟩ := mvP_j hBv hI.2.2.2.2.2.2.2.2.2 hI.2.2.1 h4 (gs g 0) (Nat.le_refl _)
  rw [g_move_eq]
  refine gI_epoch (r := ga g 4 0) hI p1 (by rw [p2]; rfl) (by rw [p2]; exact h6) (by rw [p2]; rfl) (h4 0 (by omega)) (fun k hk => ?_) q1 q2 q3 (fun w n o _ hn => q4 w n o hn) (fun w n o _ hn => q5 w n o hn) (fun k hk => ?_)
  · rw [p3, ga_uaf _ _ _ (by decide)]; exact (hL k hk).2.2
  · rw [q6 k hk, (hL k hk).2.2]
/-! before the start -/
theorem gI_pre {c : Nat} {g h : tG} (hI : gI c g) (h6 : gs g 6 = 0) (hB : gB h) (s6 : gs h 6 = 0) (s7 : gs h 7 = gs g 7) (a : ∀ k n, 4 ≤ k → ga h k n = ga g k n) (en : gn h = gn g) (el : gl h = gl g) (em : gm h = gm g) : gI c h := by
  obtain ⟨q1, q2, q3, q4, q5⟩ := hI.2.2.2.1 h6
  have h0 : gI0 h := ⟨by rw [en]; exact q1, by rw [el]; exact q2, fun n => ⟨by rw [a 4 n (by decide)]; exact (q3 n).1, by rw [a 5 n (by decide)]; exact (q3 n).2.1, by rw [a 6 n (by decide)]; exact (q3 n).2.2⟩, by rw [em]; exact q4, by rw [s7]; exact q5⟩
  have na : ∀ t, ¬ t_any h t := fun t z => by
    rcases z with z | ⟨k, m, o, z⟩
    · rw [h0.1] at z; cases z
    · rw [h0.2.1] at z; cases z
  refine ⟨hB, by rw [s7]; exact hI.2.1, fun m i x e => (by rw [h0.2.2.2.1] at e; cases e), fun _ => h0, fun t z => absurd z (na t), fun n o _ _ => by rw [(h0.2.2.1 n).1]; exact Nat.zero_le _, fun w n o t _ e => (by rw [h0.2.1] at e; cases e), fun n _ e => by rw [(h0.2.2.1 n).1] at e; omega, fun z => by omega, fun n i v e => absurd (h0.2.2.2.1 n i) e⟩
theorem gI_vertex {c n : Nat} {y : Int32} {g : tG} (hI : gI c g) (h6 : gs g 6 = 0) (hn : n < gs g 0) (h1 : gs g 1 < 16) : gI c (g_vertex n y g) := by
  have h0 := hI.2.2.2.1 h6
  have ak : ∀ k m, 4 ≤ k → ga (g_vertex n y g) k m = ga g k m := fun k m hk => by
    show ga (ua (ua g 0 (gs g 1) n) 1 (gs g 1) 1) k m = _
    rw [ga_uaf _ _ _ (by omega), ga_uaf _ _ _ (by omega)]
  obtain ⟨b0, b1, b2, b3, b4, b5, b6, b7, b8, b9, bV, bA, bN, bl, bn, bh⟩ := hI.1
  refine gI_pre hI h6 ⟨b0, b1, by show gs g 1 + 1 ≤ 16; omega, b3, b4, b5, b6, b7, b8, b9, fun v hv => ?_, fun a ha => ?_, fun m hm => ?_, bl, fun t ht => ?_, fun k m o t ht => ?_⟩ h6 rfl ak rfl rfl rfl
  · have hv : v < gs g 1 + 1 := hv
    show ga (ua (ua g 0 (gs g 1) n) 1 (gs g 1) 1) 0 v < gs g 0 ∧ ga (ua (ua g 0 (gs g 1) n) 1 (gs g 1) 1) 1 v ≤ 1
    rw [ga_uaf _ _ _ (show 0 ≠ 1 by decide), ga_ua, ga_ua, ga_uaf _ _ _ (show 1 ≠ 0 by decide)]
    by_cases z : v = gs g 1
    · rw [if_pos ⟨rfl, z⟩, if_pos ⟨rfl, z⟩]; exact ⟨hn, Nat.le_refl _⟩
    · rw [if_neg (fun q => z q.2), if_neg (fun q => z q.2)]; exact bV v (by omega)
  · show ga (ua (ua g 0 (gs g 1) n) 1 (gs g 1) 1) 2 a < gs g 1 + 1 ∧ ga (ua (ua g 0 (gs g 1) n) 1 (gs g 1) 1) 3 a < gs g 1 + 1
    rw [ga_uaf _ _ _ (show 2 ≠ 1 by decide), ga_uaf _ _ _ (show 2 ≠ 0 by decide), ga_uaf _ _ _ (show 3 ≠ 1 by decide), ga_uaf _ _ _ (show 3 ≠ 0 by decide)]
    have := bA a ha
    omega
  · rw [ak 4 m (by decide), ak 5 m (by decide), ak 6 m (by decide)]; exact bN m hm
  · have ht : t ∈ gn g := ht
    rw [h0.1] at ht; cases ht
  · have ht : gl g k m o = some t := ht
    rw [h0.2.1] at ht; cases ht
theorem gI_arc {c a b : Nat} {w : Int32} {g : tG} (hI : gI c g) (h6 : gs g 6 = 0) (ha : a < gs g 1) (hb : b < gs g 1) (h2 : gs g 2 < 40) : gI c (g_arc a b w g) := by
  have ak : ∀ k m, k ≠ 2 → k ≠ 3 → ga (g_arc a b w g) k m = ga g k m := fun k m h1 h3 => by
    show ga (ua (ua g 2 (gs g 2) a) 3 (gs g 2) b) k m = _
    rw [ga_uaf _ _ _ h3, ga_uaf _ _ _ h1]
  obtain ⟨b0, b1, b2, b3, b4, b5, b6, b7, b8, b9, bV, bA, bN, bl, bn, bh⟩ := hI.1
  refine gI_pre hI h6 ⟨b0, b1, b2, by show gs g 2 + 1 ≤ 40; omega, b4, b5, b6, b7, b8, b9, fun v hv => ?_, fun q hq => ?_, fun m hm => ?_, bl, bn, bh⟩ h6 rfl (fun k n hk => ak k n (by omega) (by omega)) rfl rfl rfl
  · rw [ak 0 v (by decide) (by decide), ak 1 v (by decide) (by decide)]; exact bV v hv
  · have hq : q < gs g 2 + 1 := hq
    show ga (ua (ua g 2 (gs g 2) a) 3 (gs g 2) b) 2 q < gs g 1 ∧ ga (ua (ua g 2 (gs g 2) a) 3 (gs g 2) b) 3 q < gs g 1
    rw [ga_uaf _ _ _ (show 2 ≠ 3 by decide), ga_ua, ga_ua, ga_uaf _ _ _ (show 3 ≠ 2 by decide)]
    by_cases z : q = gs g 2
    · rw [if_pos ⟨rfl, z⟩, if_pos ⟨rfl, z⟩]; exact ⟨ha, hb⟩
    · rw [if_neg (fun y => z y.2), if_neg (fun y => z y.2)]; exact bA q (by omega)
  · rw [ak 4 m (by decide) (by decide), ak 5 m (by decide) (by decide), ak 6 m (by decide) (by decide)]; exact bN m hm
/-! all calls -/
theorem i_nodes {c : Nat} {g : tG} (hI : gI c g) (x : Int32) : gI (c + 1) (k_nodes x g).2 := by
  unfold k_nodes
  by_cases c1 : x < 2
  · rw [if_pos c1]; exact gI_mono hI
  · rw [if_neg c1]
    by_cases c2 : 5 < x
    · rw [if_pos c2]; exact gI_mono hI
    · rw [if_neg c2]
      obtain ⟨n, h2, h5, rfl⟩ := in_25 c1 c2
      show gI (c + 1) (g_new (nI n).toNatClampNeg)
      rw [nI_clamp (by omega)]
      exact gI_new n h2 h5 _
theorem i_vertex {c : Nat} {g : tG} (hI : gI c g) (x y : Int32) : gI (c + 1) (k_vertex x y g).2 := by
  have b1 := hI.1.2.1
  have b7 := hI.1.2.2.2.2.2.2.2.1
  rcases inN_cases x (k := gs g 0) (by omega) with ⟨e, -⟩ | ⟨n, hn, rfl, e⟩
  · rw [show k_vertex x y g = (-1, g) by simp only [k_vertex, e]]; exact gI_mono hI
  · by_cases c6 : gs g 6 = 1
    · rw [show k_vertex (nI n) y g = (-2, g) by simp only [k_vertex, e, if_pos c6]]; exact gI_mono hI
    · by_cases c7 : 16 ≤ gs g 1
      · rw [show k_vertex (nI n) y g = (-3, g) by simp only [k_vertex, e, if_neg c6, if_pos c7]]; exact gI_mono hI
      · rw [show k_vertex (nI n) y g = (nI (gs g 1), g_vertex n y g) by simp only [k_vertex, e, if_neg c6, if_neg c7]]
        exact gI_mono (gI_vertex hI (bool01 b7 c6) hn (by omega))
theorem i_arc {c : Nat} {g : tG} (hI : gI c g) (x y z : Int32) : gI (c + 1) (k_arc x y z g).2 := by
  have b2 := hI.1.2.2.1
  have b7 := hI.1.2.2.2.2.2.2.2.1
  rcases inN_cases x (k := gs g 1) (by omega) with ⟨e, -⟩ | ⟨a, ha, rfl, e⟩
  · rw [show k_arc x y z g = (-1, g) by simp only [k_arc, e]]; exact gI_mono hI
  · rcases inN_cases y (k := gs g 1) (by omega) with ⟨f, -⟩ | ⟨b, hb, rfl, f⟩
    · rw [show k_arc (nI a) y z g = (-1, g) by simp only [k_arc, e, f]]; exact gI_mono hI
    · by_cases c1 : z < -1000
      · rw [show k_arc (nI a) (nI b) z g = (-1, g) by simp only [k_arc, e, f, if_pos c1]]; exact gI_mono hI
      · by_cases c2 : 1000 < z
        · rw [show k_arc (nI a) (nI b) z g = (-1, g) by simp only [k_arc, e, f, if_neg c1, if_pos c2]]; exact gI_mono hI
        · by_cases c6 : gs g 6 = 1
          · rw [show k_arc (nI a) (nI b) z g = (-2, g) by simp only [k_arc, e, f, if_neg c1, if_neg c2, if_pos c6]]; exact gI_mono hI
          · by_cases c7 : 40 ≤ gs g 2
            · rw [show k_arc (nI a) (nI b) z g = (-3, g) by simp only [k_arc, e, f, if_neg c1, if_neg c2, if_neg c6, if_pos c7]]; exact gI_mono hI
            · rw [show k_arc (nI a) (nI b) z g = (nI (gs g 2), g_arc a b z g) by simp only [k_arc, e, f, if_neg c1, if_neg c2, if_neg c6, if_neg c7]]
              exact gI_mono (gI_arc hI (bool01 b7 c6) ha hb (by omega))
theorem i_kind {c : Nat} {g : tG} (hI : gI c g) (x : Int32) : gI (c + 1) (k_kind x g).2 := by
  have b7 := hI.1.2.2.2.2.2.2.2.1
  rcases inN_cases x (k := 4) (by decide) with ⟨e, -⟩ | ⟨k, hk, rfl, e⟩
  · rw [show k_kind x g = (-1, g) by simp only [k_kind, e]]; exact gI_mono hI
  · by_cases c6 : gs g 6 = 1
    · rw [show k_kind (nI k) g = (-2, g) by simp only [k_kind, e, if_pos c6]]; exact gI_mono hI
    · rw [show k_kind (nI k) g = (nI (gs g 3), us (us g 3 k) 4 0) by simp only [k_kind, e, if_neg c6]]
      obtain ⟨b0, b1, b2, b3, b4, b5, b6, b7, b8, b9, bV, bA, bN, bl, bn, bh⟩ := hI.1
      exact gI_mono (gI_pre hI (bool01 b7 c6) ⟨b0, b1, b2, b3, by show k ≤ 3; omega, Nat.zero_le _, b6, b7, b8, fun _ => rfl, bV, bA, bN, bl, bn, bh⟩ (bool01 b7 c6) rfl (fun _ _ _ => rfl) rfl rfl rfl)
theorem i_every {c : Nat} {g : tG} (hI : gI c g) (x : Int32) : gI (c + 1) (k_every x g).2 := by
  have b7 := hI.1.2.2.2.2.2.2.2.1
  rcases inN_cases x (k := 51) (by decide) with ⟨e, -⟩ | ⟨k, hk, rfl, e⟩
  · rw [show k_every x g = (-1, g) by simp only [k_every, e]]; exact gI_mono hI
  · by_cases c6 : gs g 6 = 1
    · rw [show k_every (nI k) g = (-2, g) by simp only [k_every, e, if_pos c6]]; exact gI_mono hI
    · rw [show k_every (nI k) g = (nI (gs g 5), us g 5 k) by simp only [k_every, e, if_neg c6]]
      obtain ⟨b0, b1, b2, b3, b4, b5, b6, b7, b8, b9, bV, bA, bN, bl, bn, bh⟩ := hI.1
      exact gI_mono (gI_pre hI (bool01 b7 c6) ⟨b0, b1, b2, b3, b4, b5, by show k ≤ 50; omega, b7, b8, b9, bV, bA, bN, bl, bn, bh⟩ (bool01 b7 c6) rfl (fun _ _ _ => rfl) rfl rfl rfl)
theorem i_joined {c : Nat} {g : tG} (hI : gI c g) {b : Nat} (hb : b ≤ 1) : gI (c + 1) (k_joined b g).2 := by
  unfold k_joined
  by_cases z : b = 1 ∧ gs g 3 = 3
  · rw [if_pos z]; exact gI_mono hI
  · rw [if_neg z]; exact gI_mono (gI_us4 hI hb (fun y => by omega))
theorem i_start {c : Nat} {g : tG} (hI : gI c g) : gI (c + 1) (k_start g).2 := by
  unfold k_start
  by_cases z : gs g 6 = 1
  · rw [if_pos z]; exact gI_mono hI
  · rw [if_neg z]; exact gI_mono (gI_start hI (bool01 hI.1.2.2.2.2.2.2.2.1 z))
theorem i_deliver {c : Nat} {g : tG} (hI : gI c g) (x : Int32) : gI (c + 1) (k_deliver x g).2 := by
  have bl := hI.1.2.2.2.2.2.2.2.2.2.2.2.2.2.1
  rcases inN_cases x (k := (gn g).length) (by omega) with ⟨e, -⟩ | ⟨i, hi, rfl, e⟩
  · rw [show k_deliver x g = (-1, g) by simp only [k_deliver, e]]; exact gI_mono hI
  · obtain ⟨t, ht⟩ : ∃ t, (gn g)[i]? = some t := ⟨_, List.getElem?_eq_getElem hi⟩
    rw [show k_deliver (nI i) g = (nI (t_how g t), g_deliver i t g) by simp only [k_deliver, e, ht]]
    exact gI_mono (gI_deliver hI ht)
theorem i_lose {c : Nat} {g : tG} (hI : gI c g) (x : Int32) : gI (c + 1) (k_lose x g).2 := by
  have bl := hI.1.2.2.2.2.2.2.2.2.2.2.2.2.2.1
  rcases inN_cases x (k := (gn g).length) (by omega) with ⟨e, -⟩ | ⟨i, hi, rfl, e⟩
  · rw [show k_lose x g = (-1, g) by simp only [k_lose, e]]; exact gI_mono hI
  · rw [show k_lose (nI i) g = (nI ((gn g).length - 1), g_out i g) by simp only [k_lose, e]]
    exact gI_mono (gI_out hI i)
theorem i_copy {c : Nat} {g : tG} (hI : gI c g) (x : Int32) : gI (c + 1) (k_copy x g).2 := by
  have bl := hI.1.2.2.2.2.2.2.2.2.2.2.2.2.2.1
  rcases inN_cases x (k := (gn g).length) (by omega) with ⟨e, -⟩ | ⟨i, hi, rfl, e⟩
  · rw [show k_copy x g = (-1, g) by simp only [k_copy, e]]; exact gI_mono hI
  · obtain ⟨t, ht⟩ : ∃ t, (gn g)[i]? = some t := ⟨_, List.getElem?_eq_getElem hi⟩
    by_cases z : (gn g).length < 60
    · rw [show k_copy (nI i) g = (nI ((gn g).length + 1), un g (gn g ++ [t])) by simp only [k_copy, e, ht, if_pos z]]
      have hm := List.mem_of_getElem? ht
      refine gI_mono (gI_letters hI _ (gB_push hI.1 (hI.1.2.2.2.2.2.2.2.2.2.2.2.2.2.2.1 t hm) z) (fun u hu => ?_) (fun y => by have := gI_started hI ht; omega))
      rcases List.mem_append.mp hu with h | h
      · exact Or.inl h
      · rw [List.mem_singleton.mp h]; exact Or.inl hm
    · rw [show k_copy (nI i) g = (-3, g) by simp only [k_copy, e, ht, if_neg z]]; exact gI_mono hI
theorem i_resend {c : Nat} {g : tG} (hI : gI c g) (x y : Int32) : gI (c + 1) (k_resend x y g).2 := by
  have b1 := hI.1.2.1
  have b7 := hI.1.2.2.2.2.2.2.2.1
  rcases inN_cases x (k := gs g 0) (by omega) with ⟨e, -⟩ | ⟨a, ha, rfl, e⟩
  · rw [show k_resend x y g = (-1, g) by simp only [k_resend, e]]; exact gI_mono hI
  · rcases inN_cases y (k := gs g 0) (by omega) with ⟨f, -⟩ | ⟨b, hb, rfl, f⟩
    · rw [show k_resend (nI a) y g = (-1, g) by simp only [k_resend, e, f]]; exact gI_mono hI
    · by_cases cab : a = b
      · rw [show k_resend (nI a) (nI b) g = (-1, g) by simp only [k_resend, e, f, if_pos cab]]; exact gI_mono hI
      · by_cases z : gs g 6 = 0 ∨ ga g 6 a = 1
        · rw [show k_resend (nI a) (nI b) g = (-2, g) by simp only [k_resend, e, f, if_neg cab, if_pos z]]; exact gI_mono hI
        · rw [show k_resend (nI a) (nI b) g = (nI (t_re1 a b 0 g + t_re1 a b 1 (g_re1 a b 0 g)), g_re1 a b 1 (g_re1 a b 0 g)) by simp only [k_resend, e, f, if_neg cab, if_neg z]]
          obtain ⟨q1, q2⟩ := gI_re1 (a := a) (b := b) (w := 0) hI (by omega)
          exact gI_mono (gI_re1 q1 q2).1
theorem i_crash {c : Nat} {g : tG} (hI : gI c g) (x : Int32) : gI (c + 1) (k_crash x g).2 := by
  have b1 := hI.1.2.1
  have b7 := hI.1.2.2.2.2.2.2.2.1
  rcases inN_cases x (k := gs g 0) (by omega) with ⟨e, -⟩ | ⟨n, hn, rfl, e⟩
  · rw [show k_crash x g = (-1, g) by simp only [k_crash, e]]; exact gI_mono hI
  · by_cases z : gs g 6 = 0 ∨ ga g 6 n = 1
    · rw [show k_crash (nI n) g = (-2, g) by simp only [k_crash, e, if_pos z]]; exact gI_mono hI
    · rw [show k_crash (nI n) g = (1, g_crash n g) by simp only [k_crash, e, if_neg z]]
      exact gI_mono (gI_crash hI (by omega))
theorem i_back {c : Nat} {g : tG} (hI : gI c g) (hc : c ≤ 999) : gI (c + 1) (k_back g).2 := by
  have b7 := hI.1.2.2.2.2.2.2.2.1
  by_cases z : gs g 6 = 0 ∨ ¬ t_anyD g
  · rw [show k_back g = (-2, g) from c_pos z]; exact gI_mono hI
  · have h6 : gs g 6 = 1 := by
      rcases Nat.lt_or_ge 0 (gs g 6) with y | y
      · omega
      · exact absurd (Or.inl (by omega)) z
    obtain ⟨m, hm, hm2, hall⟩ := mm_ok hI h6
    rw [show k_back g = (mkI (t_mm g), g_back ((t_mm g).getD 0) g) from c_neg z, hm]
    exact gI_back hI hc h6 hm2 hall
theorem i_move {c : Nat} {g : tG} (hI : gI c g) (hc : c ≤ 999) (x y : Int32) : gI (c + 1) (k_move x y g).2 := by
  have b1 := hI.1.2.1
  have b2 := hI.1.2.2.1
  have b7 := hI.1.2.2.2.2.2.2.2.1
  rcases inN_cases x (k := gs g 1) (by omega) with ⟨e, -⟩ | ⟨v, hv, rfl, e⟩
  · rw [show k_move x y g = (-1, g) by simp only [k_move, e]]; exact gI_mono hI
  · rcases inN_cases y (k := gs g 0) (by omega) with ⟨f, -⟩ | ⟨n, hn, rfl, f⟩
    · rw [show k_move (nI v) y g = (-1, g) by simp only [k_move, e, f]]; exact gI_mono hI
    · by_cases z : gs g 6 = 0 ∨ ¬ t_lev g
      · rw [show k_move (nI v) (nI n) g = (-2, g) by simp only [k_move, e, f]; exact c_pos z]; exact gI_mono hI
      · have h6 : gs g 6 = 1 := by
          rcases Nat.lt_or_ge 0 (gs g 6) with y | y
          · omega
          · exact absurd (Or.inl (by omega)) z
        rw [show k_move (nI v) (nI n) g = (nI (ga g 0 v), g_move v n g) by simp only [k_move, e, f]; exact c_neg z]
        exact gI_move hI hc h6 hn (Classical.byContradiction (fun y => z (Or.inr y)))
