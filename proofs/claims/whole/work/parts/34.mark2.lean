/-! MARKS, AND A NODE COMES INTO A ROUND: the methods -/
set_option maxHeartbeats 4000000 in
set_option maxRecDepth 100000 in
theorem l_X8_copyVertices {l : Launch} {X : Nat × (Nat → Int32)} {M : am_M} {n nv va p q r vb p2 q2 r2 : Nat} {hm : Nat → Nat} (hva : am_ok M va 7 0) (hp : mR M va 0 = some p) (hq : mR M va 1 = some q) (hr : mR M va 2 = some r) (hpo : am_ok M p 10 16) (hqo : am_ok M q 10 16) (hro : am_ok M r 11 16) (hvb : am_ok M vb 7 0) (hp2 : mR M vb 0 = some p2) (hq2 : mR M vb 1 = some q2) (hr2 : mR M vb 2 = some r2) (hpo2 : am_ok M p2 10 16) (hqo2 : am_ok M q2 10 16) (hro2 : am_ok M r2 11 16) (h5 : mI M 2 5 = nI nv) (hnv : nv ≤ 16) (hH : ∀ v, v < nv → mI M 3 v = nI (hm v) ∧ hm v < 5) (hn : n < 5) (hz : ∀ v, v < nv → mI M r2 v = 0 ∨ mI M r2 v = 1) (d1 : p ≠ q) (d2 : p ≠ r) (d3 : q ≠ r) (e1 : p2 ≠ p ∧ p2 ≠ q ∧ p2 ≠ r) (e2 : q2 ≠ p ∧ q2 ≠ q ∧ q2 ≠ r) (e3 : r2 ≠ p ∧ r2 ≠ q ∧ r2 ≠ r) (f2 : 2 ≠ p ∧ 2 ≠ q ∧ 2 ≠ r) (f3 : 3 ≠ p ∧ 3 ≠ q ∧ 3 ≠ r) : ∀ (k i : Nat) (N : am_M), i + k = nv → Lay N → cpR hm n p q r p2 q2 r2 i M N → am_V l yX8_copyVertices cX8_copyVertices 5 none (am_R 1 0 0) 0 0 X (fun v' M' => v' = none ∧ cpR hm n p q r p2 q2 r2 nv M M') 0 0 3 [some (.ref 1), some (.int (nI n)), some (.ref vb), some (.ref va), some (.int (nI i))] [] N := by
  intro k
  have ns : ∀ z, z ≠ p ∧ z ≠ q ∧ z ≠ r → ¬ (z = p ∨ z = q ∨ z = r) := fun z h e => by rcases e with e | e | e; exact h.1 e; exact h.2.1 e; exact h.2.2 e
  induction k with
  | zero =>
    intro i N hi hL hc
    obtain rfl : i = nv := by omega
    have hf := hc.1
    have h5 := hf.i (ns 2 f2) h5
    refine r_iload dX8_copyVertices_3 rfl ?_
    refine r_aload_n dX8_copyVertices_5 rfl ?_
    refine r_getF kX8 (k := 0) (by decide) rfl fl_X8_12 (lay_ok hL rfl) (lay_r hL rfl) dX8_copyVertices_6 ?_
    refine r_getE (nI i) kX1 (k := 5) (by decide) rfl fl_X8_64 (lay_ok hL rfl) dX8_copyVertices_9 h5 ?_
    refine r_icmp_ge 42 dX8_copyVertices_12 (by decide) (fun _ => ?_) (fun hq => absurd (nI_le (Nat.le_refl _) (by omega)) hq)
    exact r_vret rfl dX8_copyVertices_42 ⟨rfl, hc⟩
  | succ k ih =>
    intro i N hi hL hc
    obtain ⟨v3, v35⟩ := hH i (by omega)
    have hf := hc.1
    have h5 := hf.i (ns 2 f2) h5
    have v3 := hf.i (ns 3 f3) v3
    have z1 : mI N r2 i = 0 ∨ mI N r2 i = 1 := by rw [hf.2.2.2 r2 (ns r2 e3)]; exact hz i (by omega)
    refine r_iload dX8_copyVertices_3 rfl ?_
    refine r_aload_n dX8_copyVertices_5 rfl ?_
    refine r_getF kX8 (k := 0) (by decide) rfl fl_X8_12 (lay_ok hL rfl) (lay_r hL rfl) dX8_copyVertices_6 ?_
    refine r_getE (nI nv) kX1 (k := 5) (by decide) rfl fl_X8_64 (lay_ok hL rfl) dX8_copyVertices_9 h5 ?_
    refine r_icmp_ge 42 dX8_copyVertices_12 (by decide) (fun hq => absurd hq (nI_ge (by omega) (by omega))) (fun _ => ?_)
    refine r_aload_n dX8_copyVertices_15 rfl ?_
    refine r_getF kX8 (k := 0) (by decide) rfl fl_X8_12 (lay_ok hL rfl) (lay_r hL rfl) dX8_copyVertices_16 ?_
    refine r_getF kX1 (k := 0) (by decide) rfl fl_X8_214 (lay_ok hL rfl) (lay_r hL rfl) dX8_copyVertices_19 ?_
    refine r_iload dX8_copyVertices_22 rfl ?_
    refine r_ialdE (nI (hm i)) (lay_ok hL rfl) (by omega) (by omega) dX8_copyVertices_24 v3 ?_
    refine r_iload_n dX8_copyVertices_25 rfl ?_
    refine r_icmp_ne 36 dX8_copyVertices_26 (by decide) (fun c26 => ?_) (fun c26 => ?_)
    · refine r_iinc (nI (i + 1)) _ dX8_copyVertices_36 (by decide) rfl (nI_1 _) rfl ?_
      refine r_goto 3 dX8_copyVertices_39 (by decide) ?_
      first | exact ih (i + 1) N (by omega) hL (cpR_no hc (fun e => c26 (by rw [e]))) | exact ih (i + 1) _ (by omega) hL (cpR_yes hc ((nI_eq (by omega) (by omega)).mp c26) d1 d2 d3 e1 e2 e3)
    · refine r_aload_n dX8_copyVertices_29 rfl ?_
      refine r_iload dX8_copyVertices_30 rfl ?_
      refine r_aload_n dX8_copyVertices_32 rfl ?_
      refine r_cV ca_yX7_copyVertex ml_X8_302 im_yX7_copyVertex se_yX7_copyVertex (by decide) rfl (hf.ok hva) (c_X7_copyVertex hL (hf.ok hva) (hf.r hp) (hf.r hq) (hf.r hr) (hf.ok hpo) (hf.ok hqo) (hf.ok hro) (hf.ok hvb) (hf.r hp2) (hf.r hq2) (hf.r hr2) (hf.ok hpo2) (hf.ok hqo2) (hf.ok hro2) (v := i) (by omega) e2.1 e3.1 e3.2.1 z1) ⟨by decide, by decide⟩ (by first | decide | omega) (by first | decide | omega) rfl (Nat.le_of_ble_eq_true rfl) dX8_copyVertices_33 ?_
      refine r_lay (lay_wI (lay_wI (lay_wI hL _ _ _) _ _ _) _ _ _) (fun hL => ?_)
      refine r_iinc (nI (i + 1)) _ dX8_copyVertices_36 (by decide) rfl (nI_1 _) rfl ?_
      refine r_goto 3 dX8_copyVertices_39 (by decide) ?_
      first | exact ih (i + 1) N (by omega) hL (cpR_no hc (fun e => c26 (by rw [e]))) | exact ih (i + 1) _ (by omega) hL (cpR_yes hc ((nI_eq (by omega) (by omega)).mp c26) d1 d2 d3 e1 e2 e3)
set_option maxHeartbeats 4000000 in
set_option maxRecDepth 100000 in
theorem c_X8_copyVertices {l : Launch} {X : Nat × (Nat → Int32)} {M : am_M} (hL : Lay M) {n nv va p q r vb p2 q2 r2 : Nat} {hm : Nat → Nat} (hva : am_ok M va 7 0) (hp : mR M va 0 = some p) (hq : mR M va 1 = some q) (hr : mR M va 2 = some r) (hpo : am_ok M p 10 16) (hqo : am_ok M q 10 16) (hro : am_ok M r 11 16) (hvb : am_ok M vb 7 0) (hp2 : mR M vb 0 = some p2) (hq2 : mR M vb 1 = some q2) (hr2 : mR M vb 2 = some r2) (hpo2 : am_ok M p2 10 16) (hqo2 : am_ok M q2 10 16) (hro2 : am_ok M r2 11 16) (h5 : mI M 2 5 = nI nv) (hnv : nv ≤ 16) (hH : ∀ v, v < nv → mI M 3 v = nI (hm v) ∧ hm v < 5) (hn : n < 5) (hz : ∀ v, v < nv → mI M r2 v = 0 ∨ mI M r2 v = 1) (d1 : p ≠ q) (d2 : p ≠ r) (d3 : q ≠ r) (e1 : p2 ≠ p ∧ p2 ≠ q ∧ p2 ≠ r) (e2 : q2 ≠ p ∧ q2 ≠ q ∧ q2 ≠ r) (e3 : r2 ≠ p ∧ r2 ≠ q ∧ r2 ≠ r) (f2 : 2 ≠ p ∧ 2 ≠ q ∧ 2 ≠ r) (f3 : 3 ≠ p ∧ 3 ≠ q ∧ 3 ≠ r) : am_C l yX8_copyVertices cX8_copyVertices 5 none 1 0 0 X [.ref 1, .int (nI n), .ref vb, .ref va] M (fun v' M' => v' = none ∧ cpR hm n p q r p2 q2 r2 nv M M') := by
  refine am_C.of (by decide) (by simp [Value.category, va_rf]) (Nat.le_of_ble_eq_true rfl) ?_
  refine r_iconst (nI 0) dX8_copyVertices_0 (by decide) ?_
  refine r_istore _ dX8_copyVertices_1 (by decide) rfl ?_
  exact l_X8_copyVertices hva hp hq hr hpo hqo hro hvb hp2 hq2 hr2 hpo2 hqo2 hro2 h5 hnv hH hn hz d1 d2 d3 e1 e2 e3 f2 f3 nv 0 M (by omega) hL cpR_0
set_option maxHeartbeats 4000000 in
set_option maxRecDepth 100000 in
theorem c_X8_keepMark {l : Launch} {X : Nat × (Nat → Int32)} {M : am_M} (hL : Lay M) {g : tG} {n : Nat} (hX : absX M g) (hB : gB g) (hn : n < 5) : am_C l yX8_keepMark cX8_keepMark 3 none 2 0 0 X [.ref 1, .int (nI n)] M (fun v M' => v = none ∧ absX M' (g_mark n g) ∧ Lay M' ∧ am_gr (fun x => x ≤ 92) M M') := by
  refine am_C.of (by decide) (by simp [Value.category, va_rf]) (Nat.le_of_ble_eq_true rfl) ?_
  obtain ⟨p, q, h2, h3, hpq, -⟩ := hX.2.2.2.2.2.2.1 n hn
  have hq : q = 28 + 13 * n + 3 ∨ q = 28 + 13 * n + 8 := by omega
  have hp : p = 28 + 13 * n + 3 ∨ p = 28 + 13 * n + 8 := by omega
  have hL0 := hL
  have hpo := (mk_facts hL hn hp).1
  have hqo := (mk_facts hL hn hq).1
  refine r_aload_n dX8_keepMark_0 rfl ?_
  refine r_getF kX8 (k := 6) (by decide) rfl fl_X8_51 (lay_ok hL rfl) (lay_r hL rfl) dX8_keepMark_1 ?_
  refine r_iload_n dX8_keepMark_4 rfl ?_
  refine r_aaldF (Or.inr rfl) (lay_ok hL rfl) (by omega) (by decide) (lay_r hL (rf_row hn)) dX8_keepMark_5 ?_
  refine r_cV ca_yX6_nextMark ml_X8_298 im_yX6_nextMark se_yX6_nextMark (by decide) rfl (lay_ok hL (sh_n0 hn)) (c_X6_nextMark hL hn h2 h3 hpo hqo) ⟨by decide, by decide⟩ (by first | decide | omega) (by first | decide | omega) rfl (Nat.le_of_ble_eq_true rfl) dX8_keepMark_6 ?_
  have hne1 : ∀ z, z ≠ q → mI (wI (wR (wR M (28 + 13 * n) 3 (some p)) (28 + 13 * n) 2 (some q)) q 1 (mI M (28 + 13 * n) 4)) z = mI M z := fun z hz => by rw [mI_wI_n _ _ _ hz]; rfl
  generalize hM1 : wI (wR (wR M (28 + 13 * n) 3 (some p)) (28 + 13 * n) 2 (some q)) q 1 (mI M (28 + 13 * n) 4) = M1 at hne1 ⊢
  have hL : Lay M1 := by rw [← hM1]; exact lay_wI (lay_wR (lay_wR hL _ (rf_n0_3 hn)) _ (rf_n0_2 hn)) _ _ _
  obtain ⟨hqo, m1, m2, m3, m4, m5, m6, m7, m8⟩ := mk_facts hL hn hq
  refine r_astore_n _ dX8_keepMark_9 (by decide) rfl ?_
  refine r_aload_n dX8_keepMark_10 rfl ?_
  refine r_iload_n dX8_keepMark_11 rfl ?_
  refine r_aload_n dX8_keepMark_12 rfl ?_
  refine r_getF kX8 (k := 1) (by decide) rfl fl_X8_21 (lay_ok hL rfl) (lay_r hL rfl) dX8_keepMark_13 ?_
  refine r_aload_n dX8_keepMark_16 rfl ?_
  refine r_getF (r := (q + 1)) kX4 (k := 0) (by decide) rfl fl_X8_201 hqo m1 dX8_keepMark_17 ?_
  refine r_callV ca_yX8_copyVertices ml_X8_204 im_yX8_copyVertices se_yX8_copyVertices (by decide) rfl (lay_ok hL rfl) (c_X8_copyVertices hL m2 m3 m4 m5 m6 m7 m8 (vb := 8) (p2 := 9) (q2 := 10) (r2 := 11) (lay_ok hL rfl) (lay_r hL rfl) (lay_r hL rfl) (lay_r hL rfl) (lay_ok hL rfl) (lay_ok hL rfl) (lay_ok hL rfl) (hm := ga g 0) (nv := gs g 1) (n := n) (by rw [hne1 2 (by omega)]; exact hX.1.2.1) hB.2.2.1 (fun v hv => ⟨by rw [hne1 3 (by omega)]; exact (hX.2.1 v hv).1, by have := (hB.2.2.2.2.2.2.2.2.2.2.1 v hv).1; have := hB.2.1; omega⟩) hn (fun v hv => by rw [hne1 11 (by omega), (hX.2.1 v hv).2.2.2.2]; have := (hB.2.2.2.2.2.2.2.2.2.2.1 v hv).2; rcases (show ga g 1 v = 0 ∨ ga g 1 v = 1 by omega) with z | z <;> rw [z]; exact Or.inl rfl; exact Or.inr rfl) (by omega) (by omega) (by omega) (by omega) (by omega) (by omega) (by omega) (by omega)) ⟨by decide, by decide⟩ (by first | decide | omega) (by first | decide | omega) rfl (Nat.le_of_ble_eq_true rfl) dX8_keepMark_20 (fun v0 M2 hp1 => ?_)
  obtain ⟨rfl, hc⟩ := hp1
  have hLn := hc.1.lay hL
  rw [← hM1] at hc
  obtain ⟨hA, hg⟩ := absX_mark hL0.1 hX hB hn h2 h3 hc
  exact r_vret rfl dX8_keepMark_23 ⟨rfl, hA, hLn, hg⟩
set_option maxHeartbeats 4000000 in
set_option maxRecDepth 100000 in
theorem c_X8_isMarkRound {l : Launch} {X : Nat × (Nat → Int32)} {M : am_M} (hL : Lay M) {r e : Nat} (he : mI M 1 9 = nI e) (he2 : e ≤ 50) (hr : r ≤ 200) : am_F l yX8_isMarkRound cX8_isMarkRound 2 (some .boolean) 0 0 0 X [.ref 1, .int (nI r)] M (some (.int (if r = 0 ∨ (0 < e ∧ r % e = 0) then 1 else 0))) (M) := by
  refine am_C.of (by decide) (by simp [Value.category, va_rf]) (Nat.le_of_ble_eq_true rfl) ?_
  refine r_iload_n dX8_isMarkRound_0 rfl ?_
  refine r_if_eq 20 dX8_isMarkRound_1 (by decide) (fun c1 => ?_) (fun c1 => ?_)
  · refine r_iconst (1) dX8_isMarkRound_20 (by decide) ?_
    refine r_goto 25 dX8_isMarkRound_21 (by decide) ?_
    exact r_iret (Or.inr ⟨rfl, by first | exact Or.inl rfl | exact Or.inr rfl⟩) dX8_isMarkRound_25 ⟨by
      have z0 : nI r = 0 ↔ r = 0 := by rw [show (0 : Int32) = nI 0 from rfl]; exact nI_eq (by omega) (by decide)
      have z1 : nI e ≤ 0 ↔ ¬ 0 < e := by rw [show (0 : Int32) = nI 0 from rfl, nI_leI (by omega) (by decide)]; omega
      have z2 : nI (r % e) = 0 ↔ r % e = 0 := by rw [show (0 : Int32) = nI 0 from rfl]; exact nI_eq (by have := Nat.mod_le r e; omega) (by decide)
      simp only [z0, z1, z2] at *
      congr 2
      symm
      first | exact if_pos (by omega) | exact if_neg (by omega), rfl⟩
  · refine r_aload_n dX8_isMarkRound_4 rfl ?_
    refine r_getE (nI e) kX8 (k := 9) (by decide) rfl fl_X8_78 (lay_ok hL rfl) dX8_isMarkRound_5 he ?_
    refine r_if_le 24 dX8_isMarkRound_8 (by decide) (fun c8 => ?_) (fun c8 => ?_)
    · refine r_iconst (0) dX8_isMarkRound_24 (by decide) ?_
      exact r_iret (Or.inr ⟨rfl, by first | exact Or.inl rfl | exact Or.inr rfl⟩) dX8_isMarkRound_25 ⟨by
      have z0 : nI r = 0 ↔ r = 0 := by rw [show (0 : Int32) = nI 0 from rfl]; exact nI_eq (by omega) (by decide)
      have z1 : nI e ≤ 0 ↔ ¬ 0 < e := by rw [show (0 : Int32) = nI 0 from rfl, nI_leI (by omega) (by decide)]; omega
      have z2 : nI (r % e) = 0 ↔ r % e = 0 := by rw [show (0 : Int32) = nI 0 from rfl]; exact nI_eq (by have := Nat.mod_le r e; omega) (by decide)
      simp only [z0, z1, z2] at *
      congr 2
      symm
      first | exact if_pos (by omega) | exact if_neg (by omega), rfl⟩
    · refine r_iload_n dX8_isMarkRound_11 rfl ?_
      refine r_aload_n dX8_isMarkRound_12 rfl ?_
      refine r_getE (nI e) kX8 (k := 9) (by decide) rfl fl_X8_78 (lay_ok hL rfl) dX8_isMarkRound_13 he ?_
      have he0 : 0 < e := by rcases Nat.eq_zero_or_pos e with z | z; exact absurd (by rw [z]; decide) c8; exact z
      refine r_irem dX8_isMarkRound_16 (nI_ne0 he0 (by omega)) ?_
      refine r_top (nI (r % e)) (pk_rem (by omega) he0 (by omega)) ?_
      refine r_if_ne 24 dX8_isMarkRound_17 (by decide) (fun c17 => ?_) (fun c17 => ?_)
      · refine r_iconst (0) dX8_isMarkRound_24 (by decide) ?_
        exact r_iret (Or.inr ⟨rfl, by first | exact Or.inl rfl | exact Or.inr rfl⟩) dX8_isMarkRound_25 ⟨by
      have z0 : nI r = 0 ↔ r = 0 := by rw [show (0 : Int32) = nI 0 from rfl]; exact nI_eq (by omega) (by decide)
      have z1 : nI e ≤ 0 ↔ ¬ 0 < e := by rw [show (0 : Int32) = nI 0 from rfl, nI_leI (by omega) (by decide)]; omega
      have z2 : nI (r % e) = 0 ↔ r % e = 0 := by rw [show (0 : Int32) = nI 0 from rfl]; exact nI_eq (by have := Nat.mod_le r e; omega) (by decide)
      simp only [z0, z1, z2] at *
      congr 2
      symm
      first | exact if_pos (by omega) | exact if_neg (by omega), rfl⟩
      · refine r_iconst (1) dX8_isMarkRound_20 (by decide) ?_
        refine r_goto 25 dX8_isMarkRound_21 (by decide) ?_
        exact r_iret (Or.inr ⟨rfl, by first | exact Or.inl rfl | exact Or.inr rfl⟩) dX8_isMarkRound_25 ⟨by
      have z0 : nI r = 0 ↔ r = 0 := by rw [show (0 : Int32) = nI 0 from rfl]; exact nI_eq (by omega) (by decide)
      have z1 : nI e ≤ 0 ↔ ¬ 0 < e := by rw [show (0 : Int32) = nI 0 from rfl, nI_leI (by omega) (by decide)]; omega
      have z2 : nI (r % e) = 0 ↔ r % e = 0 := by rw [show (0 : Int32) = nI 0 from rfl]; exact nI_eq (by have := Nat.mod_le r e; omega) (by decide)
      simp only [z0, z1, z2] at *
      congr 2
      symm
      first | exact if_pos (by omega) | exact if_neg (by omega), rfl⟩
