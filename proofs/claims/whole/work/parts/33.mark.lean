/-! MARKS, AND A NODE COMES INTO A ROUND: the memory -/
theorem mk_facts {M : am_M} (hL : Lay M) {n q : Nat} (hn : n < 5) (hq : q = 28 + 13 * n + 3 ∨ q = 28 + 13 * n + 8) : am_ok M q 4 0 ∧ mR M q 0 = some (q + 1) ∧ am_ok M (q + 1) 7 0 ∧ mR M (q + 1) 0 = some (q + 2) ∧ mR M (q + 1) 1 = some (q + 3) ∧ mR M (q + 1) 2 = some (q + 4) ∧ am_ok M (q + 2) 10 16 ∧ am_ok M (q + 3) 10 16 ∧ am_ok M (q + 4) 11 16 := by
  rcases hq with rfl | rfl
  · exact ⟨lay_ok hL (sh_n3 hn), lay_r hL (rf_n3_0 hn), lay_ok hL (sh_n4 hn), lay_r hL (rf_n4_0 hn), lay_r hL (rf_n4_1 hn), lay_r hL (rf_n4_2 hn), lay_ok hL (sh_n5 hn), lay_ok hL (sh_n6 hn), lay_ok hL (sh_n7 hn)⟩
  · exact ⟨lay_ok hL (sh_n8 hn), lay_r hL (rf_n8_0 hn), lay_ok hL (sh_n9 hn), lay_r hL (rf_n9_0 hn), lay_r hL (rf_n9_1 hn), lay_r hL (rf_n9_2 hn), lay_ok hL (sh_n10 hn), lay_ok hL (sh_n11 hn), lay_ok hL (sh_n12 hn)⟩
/-- of the vertices below i those of n are copied from p2, q2, r2 to p, q, r -/
def cpR (hm : Nat → Nat) (n p q r p2 q2 r2 i : Nat) (M N : am_M) : Prop := am_fr (fun x => x = p ∨ x = q ∨ x = r) M N ∧ ∀ v, (v < i → hm v = n → mI N p v = mI M p2 v ∧ mI N q v = mI M q2 v ∧ mI N r v = mI M r2 v) ∧ (¬ (v < i ∧ hm v = n) → mI N p v = mI M p v ∧ mI N q v = mI M q v ∧ mI N r v = mI M r v)
theorem cpR_0 {hm : Nat → Nat} {n p q r p2 q2 r2 : Nat} {M : am_M} : cpR hm n p q r p2 q2 r2 0 M M := ⟨am_fr.rf, fun v => ⟨fun h => absurd h (by omega), fun _ => ⟨rfl, rfl, rfl⟩⟩⟩
theorem cpR_no {hm : Nat → Nat} {n p q r p2 q2 r2 i : Nat} {M N : am_M} (h : cpR hm n p q r p2 q2 r2 i M N) (hi : hm i ≠ n) : cpR hm n p q r p2 q2 r2 (i + 1) M N := by
  refine ⟨h.1, fun v => ⟨fun hv he => ?_, fun hv => (h.2 v).2 (fun e => hv ⟨by omega, e.2⟩)⟩⟩
  have : v ≠ i := fun e => hi (e ▸ he)
  exact (h.2 v).1 (by omega) he
theorem cpR_yes {hm : Nat → Nat} {n p q r p2 q2 r2 i : Nat} {M N : am_M} (h : cpR hm n p q r p2 q2 r2 i M N) (hi : hm i = n) (d1 : p ≠ q) (d2 : p ≠ r) (d3 : q ≠ r) (e1 : p2 ≠ p ∧ p2 ≠ q ∧ p2 ≠ r) (e2 : q2 ≠ p ∧ q2 ≠ q ∧ q2 ≠ r) (e3 : r2 ≠ p ∧ r2 ≠ q ∧ r2 ≠ r) : cpR hm n p q r p2 q2 r2 (i + 1) M (wI (wI (wI N p i (mI N p2 i)) q i (mI N q2 i)) r i (mI N r2 i)) := by
  have f : am_fr (fun x => x = p ∨ x = q ∨ x = r) N (wI (wI (wI N p i (mI N p2 i)) q i (mI N q2 i)) r i (mI N r2 i)) := ⟨rfl, rfl, rfl, fun x hx => by rw [mI_wI_n _ _ _ (fun e => hx (Or.inr (Or.inr e))), mI_wI_n _ _ _ (fun e => hx (Or.inr (Or.inl e))), mI_wI_n _ _ _ (fun e => hx (Or.inl e))]⟩
  have k : ∀ z, z ≠ p ∧ z ≠ q ∧ z ≠ r → mI N z = mI M z := fun z hz => h.1.2.2.2 z (fun e => by rcases e with e | e | e; exact hz.1 e; exact hz.2.1 e; exact hz.2.2 e)
  have vp : ∀ v, mI (wI (wI (wI N p i (mI N p2 i)) q i (mI N q2 i)) r i (mI N r2 i)) p v = if v = i then mI M p2 i else mI N p v := fun v => by rw [mI_wI_n _ _ _ d2, mI_wI_n _ _ _ d1, mI_wI, k p2 e1]; by_cases c : v = i <;> simp [c]
  have vq : ∀ v, mI (wI (wI (wI N p i (mI N p2 i)) q i (mI N q2 i)) r i (mI N r2 i)) q v = if v = i then mI M q2 i else mI N q v := fun v => by rw [mI_wI_n _ _ _ d3, mI_wI, mI_wI_n _ _ _ (Ne.symm d1), k q2 e2]; by_cases c : v = i <;> simp [c]
  have vr : ∀ v, mI (wI (wI (wI N p i (mI N p2 i)) q i (mI N q2 i)) r i (mI N r2 i)) r v = if v = i then mI M r2 i else mI N r v := fun v => by rw [mI_wI, mI_wI_n _ _ _ (Ne.symm d3), mI_wI_n _ _ _ (Ne.symm d2), k r2 e3]; by_cases c : v = i <;> simp [c]
  refine ⟨h.1.tr f, fun v => ⟨fun hv he => ?_, fun hv => ?_⟩⟩
  · rw [vp, vq, vr]
    by_cases c : v = i
    · subst c
      simp
    · rw [if_neg c, if_neg c, if_neg c]
      exact (h.2 v).1 (by omega) he
  · have c : v ≠ i := fun e => hv ⟨by omega, e ▸ hi⟩
    rw [vp, vq, vr, if_neg c, if_neg c, if_neg c]
    exact (h.2 v).2 (fun e => hv ⟨by omega, e.2⟩)
/-- the marks of n are swapped, the newest is written anew -/
theorem absX_mark {M M' : am_M} {g : tG} {n p q : Nat} (hN : 125 ≤ mN M) (k : absX M g) (hB : gB g) (hn : n < 5) (h2 : mR M (28 + 13 * n) 2 = some p) (h3 : mR M (28 + 13 * n) 3 = some q)
    (hc : cpR (ga g 0) n (q + 2) (q + 3) (q + 4) 9 10 11 (gs g 1) (wI (wR (wR M (28 + 13 * n) 3 (some p)) (28 + 13 * n) 2 (some q)) q 1 (mI M (28 + 13 * n) 4)) M') : absX M' (g_mark n g) ∧ am_gr (fun x => x ≤ 92) M M' := by
  obtain ⟨k1, k2, k3, k4, k5, k6, k7, k8⟩ := k
  obtain ⟨p', q', e1, e2, e3, e4, e5⟩ := k7 n hn
  cases h2.symm.trans e1
  cases h3.symm.trans e2
  generalize hM1 : wI (wR (wR M (28 + 13 * n) 3 (some p)) (28 + 13 * n) 2 (some q)) q 1 (mI M (28 + 13 * n) 4) = M1 at hc
  have g1 : am_gr (fun x => x = 28 + 13 * n ∨ x = q) M M1 := by rw [← hM1]; exact ((am_gr.wR _ _ (Or.inl rfl)).tr (am_gr.wR _ _ (Or.inl rfl))).tr (am_gr.wI _ _ (Or.inr rfl))
  have gI : ∀ x, x ≠ q → mI M1 x = mI M x := fun x hx => by rw [← hM1, mI_wI_n _ _ _ hx]; rfl
  have n1 : mN M1 = mN M := by rw [← hM1]; rfl
  have r1 : ∀ x j, mR M1 x j = if x = 28 + 13 * n ∧ j = 2 then some q else if x = 28 + 13 * n ∧ j = 3 then some p else mR M x j := fun x j => by rw [← hM1, mR_wI, mR_wR, mR_wR]
  have q1 : mI M1 q 1 = nI (ga g 4 n) := by rw [← hM1, mI_wI, if_pos ⟨rfl, rfl⟩]; exact (k4 n hn).1
  have g2 : am_gr (fun x => x = q + 2 ∨ x = q + 3 ∨ x = q + 4) M1 M' := hc.1.gr
  have h : am_gr (fun x => x = 28 + 13 * n ∨ x = q ∨ x = q + 2 ∨ x = q + 3 ∨ x = q + 4) M M' := (g1.wd (fun x _ e => by rcases e with e | e; exact Or.inl e; exact Or.inr (Or.inl e))).tr (g2.wd (fun x _ e => Or.inr (Or.inr e)))
  have hq : q = 28 + 13 * n + 8 ∨ q = 28 + 13 * n + 3 := by rcases e3 with e | e; exact Or.inl e.2; exact Or.inr e.2
  have nl : ∀ x, 126 ≤ x → x ≤ mN M → ¬ (x = 28 + 13 * n ∨ x = q ∨ x = q + 2 ∨ x = q + 3 ∨ x = q + 4) := fun x h1 h2 e => by omega
  have i2 : ∀ x, x ≠ q → x ≠ q + 2 → x ≠ q + 3 → x ≠ q + 4 → mI M' x = mI M x := fun x a1 a2 a3 a4 => by rw [hc.1.2.2.2 x (fun e => by omega), gI x a1]
  have r2 : ∀ x j, mR M' x j = mR M1 x j := fun x j => by rw [hc.1.2.2.1]
  refine ⟨⟨k1.gr h hN (by omega) (by omega) (by omega), k2.gr h hN (by omega) (by omega) (by omega) (by omega) (by omega), k3.gr h hN (by omega) (by omega) (by omega), fun m hm => ?_, k5.gr h hN (by omega) (by omega) nl, k6.gr h hN (fun m hm => by omega) (fun m hm => by omega) nl, fun m hm => ?_, fun m hm v hv => ?_⟩, h.wd (fun x _ e => by omega)⟩
  · rw [i2 _ (by omega) (by omega) (by omega) (by omega)]
    exact k4 m hm
  · by_cases c : m = n
    · subst c
      refine ⟨q, p, by rw [r2, r1, if_pos ⟨rfl, rfl⟩], by rw [r2, r1, if_neg (by omega), if_pos ⟨rfl, rfl⟩], by omega, ⟨?_, fun _ v hv he => ?_⟩, ⟨?_, fun hne v hv he => ?_⟩⟩
      · rw [hc.1.2.2.2 q (fun e => by omega), q1]
        show _ = mkI (if m = m then (if 1 = 0 then gm g m 1 else some (ga g 4 m)) else gm g m 1)
        simp [mkI]
      · have hv' : v < gs g 1 := hv
        have he' : ga g 0 v = m := he
        obtain ⟨c1, c2, c3⟩ := (hc.2 v).1 hv' he'
        obtain ⟨-, -, v9, v10, v11⟩ := k2 v hv'
        show _ = (if m = m then (if 1 = 0 then gv g m 1 v else (gi g 1 v, gi g 2 v, ga g 1 v)) else gv g m 1 v).1 ∧ _ = (if m = m then (if 1 = 0 then gv g m 1 v else (gi g 1 v, gi g 2 v, ga g 1 v)) else gv g m 1 v).2.1 ∧ _ = nI (if m = m then (if 1 = 0 then gv g m 1 v else (gi g 1 v, gi g 2 v, ga g 1 v)) else gv g m 1 v).2.2
        rw [c1, c2, c3, gI 9 (by omega), gI 10 (by omega), gI 11 (by omega), v9, v10, v11]
        simp
      · rw [i2 p (by omega) (by omega) (by omega) (by omega)]
        show _ = mkI (if m = m then (if 0 = 0 then gm g m 1 else some (ga g 4 m)) else gm g m 0)
        simp only [if_true]
        exact e4.1
      · have hne' : gm g m 1 ≠ none := by
          have : (if m = m then (if 0 = 0 then gm g m 1 else some (ga g 4 m)) else gm g m 0) ≠ none := hne
          simpa using this
        obtain ⟨c1, c2, c3⟩ := e4.2 hne' v hv he
        show _ = (if m = m then (if 0 = 0 then gv g m 1 v else (gi g 1 v, gi g 2 v, ga g 1 v)) else gv g m 0 v).1 ∧ _ = (if m = m then (if 0 = 0 then gv g m 1 v else (gi g 1 v, gi g 2 v, ga g 1 v)) else gv g m 0 v).2.1 ∧ _ = nI (if m = m then (if 0 = 0 then gv g m 1 v else (gi g 1 v, gi g 2 v, ga g 1 v)) else gv g m 0 v).2.2
        simp only [if_true]
        rw [i2 (p + 2) (by omega) (by omega) (by omega) (by omega), i2 (p + 3) (by omega) (by omega) (by omega) (by omega), i2 (p + 4) (by omega) (by omega) (by omega) (by omega)]
        exact ⟨c1, c2, c3⟩
    · obtain ⟨p', q', f1, f2, f3, f4, f5⟩ := k7 m hm
      have cg : ∀ i, gm (g_mark n g) m i = gm g m i := fun i => if_neg c
      have cv : ∀ i v, gv (g_mark n g) m i v = gv g m i v := fun i v => if_neg c
      refine ⟨p', q', by rw [r2, r1, if_neg (by omega), if_neg (by omega)]; exact f1, by rw [r2, r1, if_neg (by omega), if_neg (by omega)]; exact f2, f3, ?_, ?_⟩
      · refine ⟨by rw [cg, i2 p' (by omega) (by omega) (by omega) (by omega)]; exact f4.1, fun hne v hv he => ?_⟩
        rw [cg] at hne
        rw [cv, i2 (p' + 2) (by omega) (by omega) (by omega) (by omega), i2 (p' + 3) (by omega) (by omega) (by omega) (by omega), i2 (p' + 4) (by omega) (by omega) (by omega) (by omega)]
        exact f4.2 hne v hv he
      · refine ⟨by rw [cg, i2 q' (by omega) (by omega) (by omega) (by omega)]; exact f5.1, fun hne v hv he => ?_⟩
        rw [cg] at hne
        rw [cv, i2 (q' + 2) (by omega) (by omega) (by omega) (by omega), i2 (q' + 3) (by omega) (by omega) (by omega) (by omega), i2 (q' + 4) (by omega) (by omega) (by omega) (by omega)]
        exact f5.2 hne v hv he
  · have base := k8 m hm v hv
    by_cases c : m = n
    · subst c
      have hb : mI M' (q + 4) v = 0 ∨ mI M' (q + 4) v = 1 := by
        by_cases cv : v < gs g 1 ∧ ga g 0 v = m
        · rw [((hc.2 v).1 cv.1 cv.2).2.2, gI 11 (by omega), (k2 v cv.1).2.2.2.2]
          have := (hB.2.2.2.2.2.2.2.2.2.2.1 v cv.1).2
          rcases (show ga g 1 v = 0 ∨ ga g 1 v = 1 by omega) with z | z <;> rw [z]
          · exact Or.inl rfl
          · exact Or.inr rfl
        · rw [((hc.2 v).2 cv).2.2, gI _ (by omega)]
          rcases hq with z | z <;> rw [z]
          · exact base.2
          · exact base.1
      rcases hq with z | z
      · rw [z] at hb
        exact ⟨by rw [i2 _ (by omega) (by omega) (by omega) (by omega)]; exact base.1, hb⟩
      · rw [z] at hb
        exact ⟨hb, by rw [i2 _ (by omega) (by omega) (by omega) (by omega)]; exact base.2⟩
    · rw [i2 _ (by omega) (by omega) (by omega) (by omega), i2 _ (by omega) (by omega) (by omega) (by omega)]
      exact base
