/-! A NODE COMES INTO A ROUND -/
theorem ga_ua0 (g : tG) (k i v j m : Nat) : ga (ua g k i v) j m = if j = k ∧ m = i then v else ga g j m := by
  show am_u (ga g) k i v j m = _
  unfold am_u
  by_cases h : j = k
  · subst h
    by_cases h2 : m = i <;> simp [va_up, h2]
  · simp [h]
theorem absX_node {M : am_M} {g : tG} {n : Nat} (hN : 125 ≤ mN M) (k : absX M g) (hn : n < 5) (j v : Nat) (hj : j = 5 ∨ j = 6) : absX (wI M (28 + 13 * n) j (nI v)) (ua g j n v) := by
  obtain ⟨k1, k2, k3, k4, k5, k6, k7, k8⟩ := k
  have h : am_gr (fun x => x = 28 + 13 * n) M (wI M (28 + 13 * n) j (nI v)) := am_gr.wI _ _ rfl
  have nl : ∀ x, 126 ≤ x → x ≤ mN M → ¬ x = 28 + 13 * n := fun x h1 h2 e => by omega
  have e0 : ∀ i, i ≠ j → ga (ua g j n v) i = ga g i := fun i hi => by funext m; show am_u (ga g) j n v i m = _; unfold am_u; rw [if_neg hi]
  refine ⟨k1.gr h hN (by omega) (by omega) (by omega), ?_, ?_, fun m hm => ?_, k5.gr h hN (by omega) (by omega) nl, ?_, ?_, k8.gr h hN (fun m j hm h1 h2 => by omega)⟩
  · have := k2.gr h hN (by omega) (by omega) (by omega) (by omega) (by omega)
    unfold xV at this ⊢
    rw [e0 0 (by omega), e0 1 (by omega)]
    exact this
  · have := k3.gr h hN (by omega) (by omega) (by omega)
    unfold xA at this ⊢
    rw [e0 2 (by omega), e0 3 (by omega)]
    exact this
  · obtain ⟨e1, e2, e3⟩ := k4 m hm
    rw [mI_wI, mI_wI, mI_wI, e0 4 (by omega), ga_ua0, ga_ua0]
    refine ⟨by rw [if_neg (by omega)]; exact e1, ?_, ?_⟩
    · by_cases c : m = n ∧ j = 5
      · rw [if_pos (by omega), if_pos (by omega)]
      · rw [if_neg (by omega), if_neg (by omega)]; exact e2
    · by_cases c : m = n ∧ j = 6
      · rw [if_pos (by omega), if_pos (by omega)]
      · rw [if_neg (by omega), if_neg (by omega)]; exact e3
  · have := k6.gr h hN (fun m hm => by omega) (fun m hm => by omega) nl
    unfold xH at this ⊢
    rw [e0 4 (by omega)]
    exact this
  · intro m hm
    obtain ⟨p, q, e1, e2, e3, e4, e5⟩ := k7 m hm
    refine ⟨p, q, e1, e2, e3, ?_, ?_⟩
    · have := mkV.gr h (by omega) (fun j hj => by omega) e4
      unfold mkV at this ⊢
      rw [e0 0 (by omega)]
      exact this
    · have := mkV.gr h (by omega) (fun j hj => by omega) e5
      unfold mkV at this ⊢
      rw [e0 0 (by omega)]
      exact this
def t_nxt (g : tG) (n r : Nat) : Prop := r = ga g 4 n + 1 ∨ (r = 0 ∧ ga g 4 n = 0 ∧ ∀ k o, gl g k n o = none)
theorem isO_none {M : am_M} {r : Option Nat} (h : isO M r none) : r = none := by
  cases r with
  | none => rfl
  | some a => exact h.elim
theorem ga_ua (g : tG) (k i v j m : Nat) : ga (ua g k i v) j m = if j = k ∧ m = i then v else ga g j m := by
  show am_u (ga g) k i v j m = _
  unfold am_u
  by_cases h : j = k
  · subst h
    by_cases h2 : m = i <;> simp [va_up, h2]
  · simp [h]
theorem gB_shift {g : tG} (hB : gB g) {n r : Nat} (hr : r ≤ 200) : gB (g_shift n (ua g 4 n r)) := by
  obtain ⟨b0, b1, b2, b3, b4, b5, b6, b7, b8, b9, bV, bA, bN, bl, bn, bh⟩ := hB
  refine ⟨b0, b1, b2, b3, b4, b5, b6, b7, b8, b9, bV, bA, fun m hm => ?_, bl, bn, fun k m o t h => ?_⟩
  · show ga (ua g 4 n r) 4 m ≤ 200 ∧ ga g 5 m ≤ 1 ∧ ga g 6 m ≤ 1
    rw [ga_ua]
    refine ⟨?_, (bN m hm).2⟩
    split
    · exact hr
    · exact (bN m hm).1
  · have h' : (if m = n then (if k = 0 then gl g 1 n o else if k = 2 then gl g 3 n o else if k = 1 ∨ k = 3 then none else gl g k n o) else gl g k m o) = some t := h
    have : ∃ k' m', gl g k' m' o = some t := by
      split at h'
      · split at h'
        · exact ⟨_, _, h'⟩
        · split at h'
          · exact ⟨_, _, h'⟩
          · split at h'
            · cases h'
            · exact ⟨_, _, h'⟩
      · exact ⟨_, _, h'⟩
    obtain ⟨k', m', e⟩ := this
    exact bh k' m' o t e
theorem absX_enter {M : am_M} {g : tG} {n r : Nat} (hN : 125 ≤ mN M) (k : absX M g) (hn : n < 5) (hr : t_nxt g n r) : absX (wI (wQ (wQ M (28 + 13 * n + 1) (fb (mR M (28 + 13 * n + 1)) (ga g 4 n % 2 * 5) 5 none)) (28 + 13 * n + 2) (fb (mR M (28 + 13 * n + 2)) (r % 2 * 5) 5 none)) (28 + 13 * n) 4 (nI r)) (g_shift n (ua g 4 n r)) ∧ am_gr (fun x => x ≤ 92) M (wI (wQ (wQ M (28 + 13 * n + 1) (fb (mR M (28 + 13 * n + 1)) (ga g 4 n % 2 * 5) 5 none)) (28 + 13 * n + 2) (fb (mR M (28 + 13 * n + 2)) (r % 2 * 5) 5 none)) (28 + 13 * n) 4 (nI r)) := by
  obtain ⟨k1, k2, k3, k4, k5, k6, k7, k8⟩ := k
  have h : am_gr (fun x => x = 28 + 13 * n ∨ x = 28 + 13 * n + 1 ∨ x = 28 + 13 * n + 2) M (wI (wQ (wQ M (28 + 13 * n + 1) (fb (mR M (28 + 13 * n + 1)) (ga g 4 n % 2 * 5) 5 none)) (28 + 13 * n + 2) (fb (mR M (28 + 13 * n + 2)) (r % 2 * 5) 5 none)) (28 + 13 * n) 4 (nI r)) := ((am_gr.wQ _ (Or.inr (Or.inl rfl))).tr (am_gr.wQ _ (Or.inr (Or.inr rfl)))).tr (am_gr.wI _ _ (Or.inl rfl))
  have r1 : mR (wI (wQ (wQ M (28 + 13 * n + 1) (fb (mR M (28 + 13 * n + 1)) (ga g 4 n % 2 * 5) 5 none)) (28 + 13 * n + 2) (fb (mR M (28 + 13 * n + 2)) (r % 2 * 5) 5 none)) (28 + 13 * n) 4 (nI r)) (28 + 13 * n + 1) = fb (mR M (28 + 13 * n + 1)) (ga g 4 n % 2 * 5) 5 none := by rw [mR_wI, mR_wQ_n _ _ (by omega), mR_wQ_s]
  have r2 : mR (wI (wQ (wQ M (28 + 13 * n + 1) (fb (mR M (28 + 13 * n + 1)) (ga g 4 n % 2 * 5) 5 none)) (28 + 13 * n + 2) (fb (mR M (28 + 13 * n + 2)) (r % 2 * 5) 5 none)) (28 + 13 * n) 4 (nI r)) (28 + 13 * n + 2) = fb (mR M (28 + 13 * n + 2)) (r % 2 * 5) 5 none := by rw [mR_wI, mR_wQ_s]
  have rk : ∀ x j, x ≠ 28 + 13 * n + 1 → x ≠ 28 + 13 * n + 2 → mR (wI (wQ (wQ M (28 + 13 * n + 1) (fb (mR M (28 + 13 * n + 1)) (ga g 4 n % 2 * 5) 5 none)) (28 + 13 * n + 2) (fb (mR M (28 + 13 * n + 2)) (r % 2 * 5) 5 none)) (28 + 13 * n) 4 (nI r)) x j = mR M x j := fun x j a b => by rw [mR_wI, mR_wQ_n _ _ b, mR_wQ_n _ _ a]
  have i1 : ∀ x j, mI (wI (wQ (wQ M (28 + 13 * n + 1) (fb (mR M (28 + 13 * n + 1)) (ga g 4 n % 2 * 5) 5 none)) (28 + 13 * n + 2) (fb (mR M (28 + 13 * n + 2)) (r % 2 * 5) 5 none)) (28 + 13 * n) 4 (nI r)) x j = if x = 28 + 13 * n ∧ j = 4 then nI r else mI M x j := fun x j => by rw [mI_wI]; rfl
  generalize wI (wQ (wQ M (28 + 13 * n + 1) (fb (mR M (28 + 13 * n + 1)) (ga g 4 n % 2 * 5) 5 none)) (28 + 13 * n + 2) (fb (mR M (28 + 13 * n + 2)) (r % 2 * 5) 5 none)) (28 + 13 * n) 4 (nI r) = M' at h r1 r2 rk i1 ⊢
  have nl : ∀ x, 126 ≤ x → x ≤ mN M → ¬ (x = 28 + 13 * n ∨ x = 28 + 13 * n + 1 ∨ x = 28 + 13 * n + 2) := fun x h1 h2 e => by omega
  refine ⟨⟨k1.gr h hN (by omega) (by omega) (by omega), k2.gr h hN (by omega) (by omega) (by omega) (by omega) (by omega), k3.gr h hN (by omega) (by omega) (by omega), fun m hm => ?_, k5.gr h hN (by omega) (by omega) nl, fun m o w hm ho hw => ?_, fun m hm => ?_, k8.gr h hN (fun m j hm h1 h2 => by omega)⟩, h.wd (fun x _ e => by omega)⟩
  · show mI M' (28 + 13 * m) 4 = nI (ga (ua g 4 n r) 4 m) ∧ mI M' (28 + 13 * m) 5 = nI (ga g 5 m) ∧ mI M' (28 + 13 * m) 6 = nI (ga g 6 m)
    rw [ga_ua, i1, i1, i1]
    obtain ⟨e1, e2, e3⟩ := k4 m hm
    refine ⟨?_, by rw [if_neg (by omega)]; exact e2, by rw [if_neg (by omega)]; exact e3⟩
    by_cases c : m = n
    · rw [if_pos ⟨by omega, rfl⟩, if_pos ⟨rfl, c⟩]
    · rw [if_neg (by omega), if_neg (by omega)]
      exact e1
  · show isO M' (mR M' (28 + 13 * m + 1) ((ga (ua g 4 n r) 4 m + w) % 2 * 5 + o)) (if m = n then (if w = 0 then gl g 1 n o else if w = 2 then gl g 3 n o else if w = 1 ∨ w = 3 then none else gl g w n o) else gl g w m o) ∧ isO M' (mR M' (28 + 13 * m + 2) ((ga (ua g 4 n r) 4 m + 1 + w) % 2 * 5 + o)) (if m = n then (if 2 + w = 0 then gl g 1 n o else if 2 + w = 2 then gl g 3 n o else if 2 + w = 1 ∨ 2 + w = 3 then none else gl g (2 + w) n o) else gl g (2 + w) m o)
    rw [ga_ua]
    by_cases c : m = n
    · subst c
      rw [if_pos ⟨rfl, rfl⟩, if_pos rfl, if_pos rfl, r1, r2]
      have a0 := k6 m o 0 hm ho (by omega)
      have a1 := k6 m o 1 hm ho (by omega)
      rcases (show w = 0 ∨ w = 1 by omega) with rfl | rfl
      · rw [if_pos rfl, if_neg (by omega), if_pos (by omega)]
        rcases hr with hr | ⟨hr, hr2, hr3⟩
        · refine ⟨?_, ?_⟩
          · rw [fb, if_neg (by omega), show (r + 0) % 2 * 5 + o = (ga g 4 m + 1) % 2 * 5 + o by omega]
            exact a1.1.gr h nl
          · rw [fb, if_neg (by omega), show (r + 1 + 0) % 2 * 5 + o = (ga g 4 m + 1 + 1) % 2 * 5 + o by omega]
            exact a1.2.gr h nl
        · rw [hr3, hr3]
          have b1 := a1.1
          have b2 := a0.2
          rw [hr3] at b1 b2
          refine ⟨?_, ?_⟩
          · rw [fb, if_pos (by omega)]
            trivial
          · rw [fb, if_neg (by omega), show (r + 1 + 0) % 2 * 5 + o = (ga g 4 m + 1 + 0) % 2 * 5 + o by omega, isO_none b2]
            trivial
      · rw [if_neg (by omega), if_neg (by omega), if_pos (Or.inl rfl), if_neg (by omega), if_neg (by omega), if_pos (Or.inr rfl)]
        rcases hr with hr | ⟨hr, hr2, hr3⟩
        · refine ⟨?_, ?_⟩
          · rw [fb, if_pos (by omega)]
            trivial
          · rw [fb, if_pos (by omega)]
            trivial
        · have b1 := a1.1
          rw [hr3] at b1
          refine ⟨?_, ?_⟩
          · rw [fb, if_neg (by omega), show (r + 1) % 2 * 5 + o = (ga g 4 m + 1) % 2 * 5 + o by omega, isO_none b1]
            trivial
          · rw [fb, if_pos (by omega)]
            trivial
    · rw [if_neg (by omega), if_neg c, if_neg c, rk _ _ (by omega) (by omega), rk _ _ (by omega) (by omega)]
      obtain ⟨e1, e2⟩ := k6 m o w hm ho hw
      exact ⟨e1.gr h nl, e2.gr h nl⟩
  · obtain ⟨p, q, e1, e2, e3, e4, e5⟩ := k7 m hm
    refine ⟨p, q, by rw [rk _ _ (by omega) (by omega)]; exact e1, by rw [rk _ _ (by omega) (by omega)]; exact e2, e3, ?_, ?_⟩
    · exact mkV.gr h (by omega) (fun j hj => by omega) e4
    · exact mkV.gr h (by omega) (fun j hj => by omega) e5
set_option maxHeartbeats 4000000 in
set_option maxRecDepth 100000 in
theorem c_X8_comeInto {l : Launch} {X : Nat × (Nat → Int32)} {M : am_M} (hL : Lay M) {g : tG} {n r : Nat} (hX : absX M g) (hB : gB g) (hn : n < gs g 0) (hr : t_nxt g n r) (hr2 : r ≤ 200) : am_C l yX8_comeInto cX8_comeInto 4 none 7 16 512 X [.ref 1, .int (nI n), .int (nI r)] M (fun v M' => v = none ∧ absX M' (g_come n r g) ∧ Lay M' ∧ am_gr (fun x => x ≤ 92) M M') := by
  refine am_C.of (by decide) (by simp [Value.category, va_rf]) (Nat.le_of_ble_eq_true rfl) ?_
  have hn5 : n < 5 := by have := hB.2.1; omega
  have hrd := (hB.2.2.2.2.2.2.2.2.2.2.2.2.1 n hn5).1
  refine r_aload_n dX8_comeInto_0 rfl ?_
  refine r_getF kX8 (k := 6) (by decide) rfl fl_X8_51 (lay_ok hL rfl) (lay_r hL rfl) dX8_comeInto_1 ?_
  refine r_iload_n dX8_comeInto_4 rfl ?_
  refine r_aaldF (Or.inr rfl) (lay_ok hL rfl) (by omega) (by decide) (lay_r hL (rf_row hn5)) dX8_comeInto_5 ?_
  refine r_astore_n _ dX8_comeInto_6 (by decide) rfl ?_
  refine r_aload_n dX8_comeInto_7 rfl ?_
  refine r_iload_n dX8_comeInto_8 rfl ?_
  refine r_cV ca_yX6_enter ml_X8_292 im_yX6_enter se_yX6_enter (by decide) rfl (lay_ok hL (sh_n0 hn5)) (c_X6_enter hL hn5 (p := ga g 4 n % 2) (q := r % 2) (by rw [(hX.2.2.2.1 n hn5).1]; exact and1 (by omega)) (by omega) (and1 (by omega)) (by omega)) ⟨by decide, by decide⟩ (by first | decide | omega) (by first | decide | omega) rfl (Nat.le_of_ble_eq_true rfl) dX8_comeInto_9 ?_
  obtain ⟨hA, hg⟩ := absX_enter hL.1 hX hn5 hr
  have hL : Lay (wI (wQ (wQ M (28 + 13 * n + 1) (fb (mR M (28 + 13 * n + 1)) (ga g 4 n % 2 * 5) 5 none)) (28 + 13 * n + 2) (fb (mR M (28 + 13 * n + 2)) (r % 2 * 5) 5 none)) (28 + 13 * n) 4 (nI r)) := lay_wI (lay_wQ (lay_wQ hL _ (fun _ => rf_n1 hn5)) _ (fun _ => rf_n2 hn5)) _ _ _
  generalize wI (wQ (wQ M (28 + 13 * n + 1) (fb (mR M (28 + 13 * n + 1)) (ga g 4 n % 2 * 5) 5 none)) (28 + 13 * n + 2) (fb (mR M (28 + 13 * n + 2)) (r % 2 * 5) 5 none)) (28 + 13 * n) 4 (nI r) = M1 at hL hA hg ⊢
  have hB1 := gB_shift hB (n := n) hr2
  refine r_iload_n dX8_comeInto_12 rfl ?_
  refine r_sipush (nI 200) dX8_comeInto_13 (by decide) ?_
  refine r_icmp_lt 25 dX8_comeInto_16 (by decide) (fun c16 => ?_) (fun c16 => ?_)
  · refine r_aload_n dX8_comeInto_25 rfl ?_
    refine r_iload_n dX8_comeInto_26 rfl ?_
    refine r_cV ca_yX8_isMarkRound ml_X8_295 im_yX8_isMarkRound se_yX8_isMarkRound (by decide) rfl (lay_ok hL rfl) (c_X8_isMarkRound hL (e := gs g 5) hA.1.2.2.2.2.2.1 (by have := hB.2.2.2.2.2.2.1; omega) hr2) ⟨by decide, by decide⟩ (by first | decide | omega) (by first | decide | omega) rfl (Nat.le_of_ble_eq_true rfl) dX8_comeInto_27 ?_
    refine r_if_eq 38 dX8_comeInto_30 (by decide) (fun c30 => ?_) (fun c30 => ?_)
    · refine r_aload_n dX8_comeInto_38 rfl ?_
      refine r_iload_n dX8_comeInto_39 rfl ?_
      have r4 : ga (g_shift n (ua g 4 n r)) 4 n ≤ 199 := by show ga (ua g 4 n r) 4 n ≤ 199; rw [ga_ua, if_pos ⟨rfl, rfl⟩]; have := (nI_ltI (by omega) (by omega)).mp c16; omega
      have cm : g_come n r g = g_write n (g_shift n (ua g 4 n r)) := by unfold g_come; rw [if_neg (by have := (nI_ltI (by omega) (by omega)).mp c16; omega), if_neg (fun z => absurd c30 (by rw [if_pos z]; decide))]
      refine r_callV ca_yX8_writeLetters ml_X8_208 im_yX8_writeLetters se_yX8_writeLetters (by decide) rfl (lay_ok hL rfl) (c_X8_writeLetters hL hA hB1 hn r4) ⟨by decide, by decide⟩ (by first | decide | omega) (by first | decide | omega) rfl (Nat.le_of_ble_eq_true rfl) dX8_comeInto_40 (fun v0 M2 hp1 => ?_)
      obtain ⟨rfl, hA2, hL2, hg2⟩ := hp1
      exact r_vret rfl dX8_comeInto_43 ⟨rfl, by rw [cm]; exact hA2, hL2, hg.tr hg2⟩
    · refine r_aload_n dX8_comeInto_33 rfl ?_
      refine r_iload_n dX8_comeInto_34 rfl ?_
      refine r_callV ca_yX8_keepMark ml_X8_223 im_yX8_keepMark se_yX8_keepMark (by decide) rfl (lay_ok hL rfl) (c_X8_keepMark hL hA hB1 hn5) ⟨by decide, by decide⟩ (by first | decide | omega) (by first | decide | omega) rfl (Nat.le_of_ble_eq_true rfl) dX8_comeInto_35 (fun v0 M3 hp1 => ?_)
      obtain ⟨rfl, hA1, hL, hg1⟩ := hp1
      have hB1 : gB (g_mark n (g_shift n (ua g 4 n r))) := hB1
      have cm : g_come n r g = g_write n (g_mark n (g_shift n (ua g 4 n r))) := by unfold g_come; rw [if_neg (by have := (nI_ltI (by omega) (by omega)).mp c16; omega), if_pos]; exact Classical.byContradiction (fun z => c30 (by rw [if_neg z]))
      have r4 : ga (g_mark n (g_shift n (ua g 4 n r))) 4 n ≤ 199 := by show ga (ua g 4 n r) 4 n ≤ 199; rw [ga_ua, if_pos ⟨rfl, rfl⟩]; have := (nI_ltI (by omega) (by omega)).mp c16; omega
      have hA := hA1
      have hg := hg.tr hg1
      refine r_aload_n dX8_comeInto_38 rfl ?_
      refine r_iload_n dX8_comeInto_39 rfl ?_
      refine r_callV ca_yX8_writeLetters ml_X8_208 im_yX8_writeLetters se_yX8_writeLetters (by decide) rfl (lay_ok hL rfl) (c_X8_writeLetters hL hA hB1 hn r4) ⟨by decide, by decide⟩ (by first | decide | omega) (by first | decide | omega) rfl (Nat.le_of_ble_eq_true rfl) dX8_comeInto_40 (fun v0 M4 hp1 => ?_)
      obtain ⟨rfl, hA2, hL2, hg2⟩ := hp1
      exact r_vret rfl dX8_comeInto_43 ⟨rfl, by rw [cm]; exact hA2, hL2, hg.tr hg2⟩
  · have hL0 := hL
    have h200 : r = 200 := Nat.le_antisymm hr2 (Nat.le_of_not_lt (fun z => c16 (nI_lt z (by omega))))
    refine r_aload_n dX8_comeInto_19 rfl ?_
    refine r_iconst (1) dX8_comeInto_20 (by decide) ?_
    refine r_putI kX6 (k := 5) (by decide) rfl (Or.inl rfl) fl_X8_236 (lay_ok hL (sh_n0 hn5)) (by decide) dX8_comeInto_21 ?_
    refine r_lay (lay_wI hL _ _ _) (fun hL => ?_)
    exact r_vret rfl dX8_comeInto_24 ⟨rfl, by rw [show g_come n r g = ua (g_shift n (ua g 4 n r)) 5 n 1 by unfold g_come; rw [if_pos h200]]; exact absX_node hL0.1 hA hn5 5 1 (by decide), lay_wI hL0 _ _ _, hg.tr (am_gr.wI _ _ (by show _ ≤ 92; omega))⟩
