/-! THE REFERENCE'S MEMORY: nodes, marks, shifts, the net -/
theorem absM_node {M : am_M} {g : tG} (hN : 125 ≤ mN M) (k : absM M g) {n : Nat} (hn : n < 5) (j v : Nat) (hj : j = 4 ∨ j = 5 ∨ j = 6) : absM (wI M (98 + j) n (nI v)) (ua g j n v) := by
  have h : am_gr (fun x => x = 98 + j) M (wI M (98 + j) n (nI v)) := am_gr.wI _ _ rfl
  obtain ⟨k1, k2, k3, k4, k5, k6, k7, k8⟩ := k
  have e0 : ∀ i, i ≠ j → ga (ua g j n v) i = ga g i := fun i hi => ga_uaf g n v hi
  refine ⟨k1.gr h hN (by omega) (by omega), ?_, ?_, fun m hm => ?_, k5.gr h hN (by omega) (fun x a b => by omega), k6.gr h hN (fun x a b => by omega), k7.gr h hN (fun x a b => by omega), k8.gr h hN (by omega) (by omega) (by omega)⟩
  · have := k2.gr h hN (fun x a b => by omega)
    unfold yV at this ⊢
    rw [e0 0 (by omega), e0 1 (by omega)]
    exact this
  · have := k3.gr h hN (fun x a b => by omega)
    unfold yA at this ⊢
    rw [e0 2 (by omega), e0 3 (by omega)]
    exact this
  · obtain ⟨z1, z2, z3⟩ := k4 m hm
    have q : ∀ x i, x = 98 + i → (i = 4 ∨ i = 5 ∨ i = 6) → mI M x m = nI (ga g i m) → mI (wI M (98 + j) n (nI v)) x m = nI (ga (ua g j n v) i m) := fun x i hx hi e => by
      rw [mI_wI, ga_ua]
      by_cases c : i = j ∧ m = n
      · rw [if_pos c, if_pos (show x = 98 + j ∧ m = n by omega)]
      · rw [if_neg c, if_neg (show ¬ (x = 98 + j ∧ m = n) by omega)]; exact e
    exact ⟨q 102 4 rfl (by omega) z1, q 103 5 rfl (by omega) z2, q 104 6 rfl (by omega) z3⟩
theorem gB_ua4 {g : tG} (hB : gB g) (n : Nat) {r : Nat} (hr : r ≤ 200) : gB (ua g 4 n r) := by
  obtain ⟨b0, b1, b2, b3, b4, b5, b6, b7, b8, b9, bV, bA, bN, bl, bn, bh⟩ := hB
  refine ⟨b0, b1, b2, b3, b4, b5, b6, b7, b8, b9, fun v hv => ?_, fun a ha => ?_, fun m hm => ?_, bl, bn, bh⟩
  · rw [ga_uaf _ _ _ (show 0 ≠ 4 by decide), ga_uaf _ _ _ (show 1 ≠ 4 by decide)]
    exact bV v hv
  · rw [ga_uaf _ _ _ (show 2 ≠ 4 by decide), ga_uaf _ _ _ (show 3 ≠ 4 by decide)]
    exact bA a ha
  · rw [ga_uaf _ _ _ (show 5 ≠ 4 by decide), ga_uaf _ _ _ (show 6 ≠ 4 by decide), ga_ua]
    refine ⟨?_, (bN m hm).2⟩
    split
    · exact hr
    · exact (bN m hm).1
theorem gB_set {g : tG} (hB : gB g) {t : Option tL} (ht : ∀ u, t = some u → okL g u) (w n o : Nat) : gB (ul g (l_set (gl g) w n o t)) := by
  obtain ⟨b0, b1, b2, b3, b4, b5, b6, b7, b8, b9, bV, bA, bN, bl, bn, bh⟩ := hB
  refine ⟨b0, b1, b2, b3, b4, b5, b6, b7, b8, b9, bV, bA, bN, bl, bn, fun k m q u hu => ?_⟩
  have hu : (if k = w ∧ m = n ∧ q = o then t else gl g k m q) = some u := hu
  split at hu
  · exact ht u hu
  · exact bh k m q u hu
theorem absM_glcg {M : am_M} {g : tG} (k : absM M g) {f : Nat → Nat → Nat → Option tL} (h : ∀ w n o, w < 4 → n < 5 → o < 5 → f w n o = gl g w n o) : absM M (ul g f) := by
  obtain ⟨k1, k2, k3, k4, k5, k6, k7, k8⟩ := k
  refine ⟨k1, k2, k3, k4, k5, fun n o w hn ho hw => ?_, k7, k8⟩
  show yO M _ (f w n o) ∧ yO M _ (f (2 + w) n o)
  rw [h w n o (by omega) hn ho, h (2 + w) n o (by omega) hn ho]
  exact k6 n o w hn ho hw
def t_sh (g : tG) (n k o : Nat) : Option tL := if k = 0 then gl g 1 n o else if k = 2 then gl g 3 n o else if k = 1 ∨ k = 3 then none else gl g k n o
def g_shP (n i : Nat) (g : tG) : tG := ul g (fun k n' o => if n' = n ∧ o < i then t_sh g n k o else gl g k n' o)
theorem shP_0 (n : Nat) (g : tG) : g_shP n 0 g = g := by
  show ul g _ = ul g (gl g)
  congr 1
  funext k n' o
  rw [if_neg (by omega)]
theorem ul_ul (g : tG) (f f' : Nat → Nat → Nat → Option tL) : ul (ul g f) f' = ul g f' := rfl
theorem gl_ul (g : tG) (f : Nat → Nat → Nat → Option tL) : gl (ul g f) = f := rfl
theorem shP_s (n i : Nat) (g : tG) : g_shP n (i + 1) g = ul g (l_set (l_set (l_set (l_set (gl (g_shP n i g)) 0 n i (gl g 1 n i)) 1 n i none) 2 n i (gl g 3 n i)) 3 n i none) := by
  show ul g _ = ul g _
  congr 1
  funext k n' o
  simp only [l_set, g_shP, gl_ul]
  by_cases c : n' = n ∧ o = i
  · obtain ⟨rfl, rfl⟩ := c
    rw [if_pos ⟨rfl, by omega⟩]
    unfold t_sh
    by_cases k0 : k = 0
    · subst k0; simp
    · by_cases k1 : k = 1
      · subst k1; simp
      · by_cases k2 : k = 2
        · subst k2; simp
        · by_cases k3 : k = 3
          · subst k3; simp
          · simp [k0, k1, k2, k3]
  · have c' : ∀ j, ¬ (k = j ∧ n' = n ∧ o = i) := fun j z => c z.2
    rw [if_neg (c' 3), if_neg (c' 2), if_neg (c' 1), if_neg (c' 0)]
    by_cases d : n' = n ∧ o < i
    · rw [if_pos d, if_pos (show n' = n ∧ o < i + 1 by omega)]
    · rw [if_neg d, if_neg (show ¬ (n' = n ∧ o < i + 1) by omega)]
theorem gB_shP {g : tG} (hB : gB g) (n i : Nat) : gB (g_shP n i g) := by
  obtain ⟨b0, b1, b2, b3, b4, b5, b6, b7, b8, b9, bV, bA, bN, bl, bn, bh⟩ := hB
  refine ⟨b0, b1, b2, b3, b4, b5, b6, b7, b8, b9, bV, bA, bN, bl, bn, fun k m q u hu => ?_⟩
  have hu : (if m = n ∧ q < i then t_sh g n k q else gl g k m q) = some u := hu
  split at hu
  · unfold t_sh at hu
    split at hu
    · exact bh _ _ _ u hu
    · split at hu
      · exact bh _ _ _ u hu
      · split at hu
        · cases hu
        · exact bh _ _ _ u hu
  · exact bh k m q u hu
theorem absM_shift {M : am_M} {g : tG} {n : Nat} (k : absM M (g_shP n 5 g)) : absM M (g_shift n g) := by
  refine absM_glcg (g := g_shP n 5 g) k (f := gl (g_shift n g)) (fun w n' o hw hn' ho => ?_)
  show (if n' = n then (if w = 0 then gl g 1 n o else if w = 2 then gl g 3 n o else if w = 1 ∨ w = 3 then none else gl g w n o) else gl g w n' o) = if n' = n ∧ o < 5 then t_sh g n w o else gl g w n' o
  by_cases c : n' = n
  · rw [if_pos c, if_pos (show n' = n ∧ o < 5 from ⟨c, ho⟩)]; rfl
  · rw [if_neg c, if_neg (show ¬ (n' = n ∧ o < 5) from fun z => c z.1)]
/-- a letter's place is emptied -/
theorem absM_none {M : am_M} {g : tG} (hN : 125 ≤ mN M) (hB : gB g) (hA : absM M g) {k n o : Nat} (hk : k < 4) (hn : n < 5) (ho : o < 5) : absM (wI M 105 (slotOf k n o) 0) (ul g (l_set (gl g) k n o none)) ∧ sfr (fun s => s = slotOf k n o) M (wI M 105 (slotOf k n o) 0) := by
  have h : sfr (fun s => s = slotOf k n o) M (wI M 105 (slotOf k n o) 0) := sfr.w1 (by decide) (by decide)
  have hs : slotOf k n o < 160 := by unfold slotOf; split <;> omega
  obtain ⟨j, hj, hj2⟩ := hA.2.2.2.2.2.2.2.2.2 _ hs
  refine ⟨absM_set hN hB hA hk hn ho h (yZ_sf hA.2.2.2.2.2.2.2 h (Or.inl (by rw [mI_wI, if_pos ⟨rfl, rfl⟩])) ⟨j, hj, by rw [mI_wI_n _ _ _ (by decide)]; exact hj2⟩) ?_, h⟩
  show mI (wI M 105 (slotOf k n o) 0) 105 (slotOf k n o) = 0
  rw [mI_wI, if_pos ⟨rfl, rfl⟩]
/-- blocks of marks -/
def cpB (p i : Nat) (F : Nat → Nat → Int32) (M N : am_M) : Prop := am_fr (fun x => 116 ≤ x ∧ x ≤ 118) M N ∧ ∀ x, 116 ≤ x → x ≤ 118 → ∀ j, mI N x j = if p ≤ j ∧ j < p + i then F x (j - p) else mI M x j
theorem cpB_0 {p : Nat} {F : Nat → Nat → Int32} {M : am_M} : cpB p 0 F M M := ⟨am_fr.rf, fun x _ _ j => by rw [if_neg (by omega)]⟩
theorem cpB_s {p i : Nat} {F : Nat → Nat → Int32} {M N : am_M} (h : cpB p i F M N) : cpB p (i + 1) F M (wI (wI (wI N 116 (p + i) (F 116 i)) 117 (p + i) (F 117 i)) 118 (p + i) (F 118 i)) := by
  refine ⟨h.1.tr (((am_fr.wI _ _ (by decide)).tr (am_fr.wI _ _ (by decide))).tr (am_fr.wI _ _ (by decide))), fun x h1 h2 j => ?_⟩
  have e : mI (wI (wI (wI N 116 (p + i) (F 116 i)) 117 (p + i) (F 117 i)) 118 (p + i) (F 118 i)) x j = if j = p + i then F x i else mI N x j := by
    rcases (show x = 116 ∨ x = 117 ∨ x = 118 by omega) with rfl | rfl | rfl
    · rw [mI_wI_n _ _ _ (by decide), mI_wI_n _ _ _ (by decide), mI_wI]
      by_cases c : j = p + i
      · rw [if_pos ⟨rfl, c⟩, if_pos c]
      · rw [if_neg (fun z => c z.2), if_neg c]
    · rw [mI_wI_n _ _ _ (by decide), mI_wI, mI_wI_n _ _ _ (by decide)]
      by_cases c : j = p + i
      · rw [if_pos ⟨rfl, c⟩, if_pos c]
      · rw [if_neg (fun z => c z.2), if_neg c]
    · rw [mI_wI, mI_wI_n _ _ _ (by decide), mI_wI_n _ _ _ (by decide)]
      by_cases c : j = p + i
      · rw [if_pos ⟨rfl, c⟩, if_pos c]
      · rw [if_neg (fun z => c z.2), if_neg c]
  rw [e, h.2 x h1 h2 j]
  by_cases c : j = p + i
  · rw [if_pos c, if_pos (show p ≤ j ∧ j < p + (i + 1) by omega), show j - p = i by omega]
  · rw [if_neg c]
    by_cases d : p ≤ j ∧ j < p + i
    · rw [if_pos d, if_pos (show p ≤ j ∧ j < p + (i + 1) by omega)]
    · rw [if_neg d, if_neg (show ¬ (p ≤ j ∧ j < p + (i + 1)) by omega)]
/-- marks change: all else stays -/
theorem absM_marks {M N : am_M} {g h : tG} (hN : 125 ≤ mN M) (k : absM M g) (hf : am_fr (fun x => 115 ≤ x ∧ x ≤ 118) M N) (e1 : gs h = gs g) (e2 : ga h = ga g) (e3 : gi h = gi g) (e4 : gn h = gn g) (e5 : gl h = gl g) (hK : yK N h) (hz : ∀ s, s < 160 → mI N 118 s = 0 ∨ mI N 118 s = 1) : absM N h := by
  have f := hf.gr
  obtain ⟨k1, k2, k3, k4, k5, k6, k7, k8⟩ := k
  refine ⟨?_, ?_, ?_, ?_, ?_, ?_, hK, ?_⟩
  · have := k1.gr f hN (by omega) (by omega)
    unfold yS at this ⊢
    rw [e1]; exact this
  · have := k2.gr f hN (fun x a b => by omega)
    unfold yV at this ⊢
    rw [e1, e2, e3]; exact this
  · have := k3.gr f hN (fun x a b => by omega)
    unfold yA at this ⊢
    rw [e1, e2, e3]; exact this
  · have := k4.gr f hN (fun x a b => by omega)
    unfold yN at this ⊢
    rw [e2]; exact this
  · have := k5.gr f hN (by omega) (fun x a b => by omega)
    unfold yE at this ⊢
    rw [e4]; exact this
  · have := k6.gr f hN (fun x a b => by omega)
    unfold yH at this ⊢
    rw [e5]; exact this
  · refine ⟨?_, hz, ?_⟩
    · rw [hf.2.2.2 105 (by omega)]; exact k8.1
    · rw [hf.2.2.2 111 (by omega)]; exact k8.2.2
theorem absM_mark {M N1 N2 : am_M} {g : tG} {n : Nat} (hN : 125 ≤ mN M) (hB : gB g) (k : absM M g) (hn : n < 5) (h1 : cpB (16 * (2 * n)) 16 (fun x j => mI M x (16 * (2 * n + 1) + j)) (wI M 115 (2 * n) (mI M 115 (2 * n + 1))) N1) (h2 : cpB (16 * (2 * n + 1)) (gs g 1) (fun x j => if x = 116 then gi g 1 j else if x = 117 then gi g 2 j else nI (ga g 1 j)) (wI N1 115 (2 * n + 1) (nI (ga g 4 n))) N2) : absM N2 (g_mark n g) := by
  have b2 := hB.2.2.1
  have e115 : ∀ j, mI N2 115 j = if j = 2 * n + 1 then nI (ga g 4 n) else if j = 2 * n then mI M 115 (2 * n + 1) else mI M 115 j := fun j => by
    rw [h2.1.2.2.2 115 (by omega), mI_wI]
    by_cases c : j = 2 * n + 1
    · rw [if_pos ⟨rfl, c⟩, if_pos c]
    · rw [if_neg (fun z => c z.2), if_neg c, h1.1.2.2.2 115 (by omega), mI_wI]
      by_cases d : j = 2 * n
      · rw [if_pos ⟨rfl, d⟩, if_pos d]
      · rw [if_neg (fun z => d z.2), if_neg d]
  have ex : ∀ x, 116 ≤ x → x ≤ 118 → ∀ j, mI N2 x j = if 16 * (2 * n + 1) ≤ j ∧ j < 16 * (2 * n + 1) + gs g 1 then (if x = 116 then gi g 1 (j - 16 * (2 * n + 1)) else if x = 117 then gi g 2 (j - 16 * (2 * n + 1)) else nI (ga g 1 (j - 16 * (2 * n + 1)))) else if 16 * (2 * n) ≤ j ∧ j < 16 * (2 * n) + 16 then mI M x (16 * (2 * n + 1) + (j - 16 * (2 * n))) else mI M x j := fun x a b j => by
    rw [h2.2 x a b, mI_wI_n _ _ _ (by omega), h1.2 x a b, mI_wI_n _ _ _ (by omega)]
  have hf : am_fr (fun x => 115 ≤ x ∧ x ≤ 118) M N2 := ((((am_fr.wI (S := fun x => 115 ≤ x ∧ x ≤ 118) _ _ (by decide)).tr (h1.1.wd (fun x a => by show 115 ≤ x ∧ x ≤ 118; omega))).tr (am_fr.wI _ _ (by decide))).tr (h2.1.wd (fun x a => by show 115 ≤ x ∧ x ≤ 118; omega)))
  refine absM_marks hN k hf rfl rfl rfl rfl rfl (fun m i hm hi => ?_) (fun s hs => ?_)
  · obtain ⟨z0, z1⟩ := k.2.2.2.2.2.2.1 m i hm hi
    by_cases c : m = n
    · subst c
      rcases (show i = 0 ∨ i = 1 by omega) with rfl | rfl
      · obtain ⟨y0, y1⟩ := k.2.2.2.2.2.2.1 m 1 hm (by decide)
        have em : gm (g_mark m g) m 0 = gm g m 1 := by show (if m = m then (if 0 = 0 then gm g m 1 else some (ga g 4 m)) else gm g m 0) = _; rw [if_pos rfl, if_pos rfl]
        have ev : ∀ v, gv (g_mark m g) m 0 v = gv g m 1 v := fun v => by show (if m = m then (if 0 = 0 then gv g m 1 v else _) else gv g m 0 v) = _; rw [if_pos rfl, if_pos rfl]
        refine ⟨by rw [em, e115, if_neg (by omega), if_pos (by omega)]; exact y0, fun hne v hv => ?_⟩
        rw [em] at hne
        have hv : v < gs g 1 := hv
        rw [ev, ex 116 (by decide) (by decide), ex 117 (by decide) (by decide), ex 118 (by decide) (by decide), if_neg (by omega), if_pos (by omega), if_neg (by omega), if_pos (by omega), if_neg (by omega), if_pos (by omega), show 16 * (2 * m + 0) + v - 16 * (2 * m) = v by omega]
        exact y1 hne v hv
      · have em : gm (g_mark m g) m 1 = some (ga g 4 m) := by show (if m = m then (if 1 = 0 then gm g m 1 else some (ga g 4 m)) else gm g m 1) = _; rw [if_pos rfl, if_neg (by decide)]
        have ev : ∀ v, gv (g_mark m g) m 1 v = (gi g 1 v, gi g 2 v, ga g 1 v) := fun v => by show (if m = m then (if 1 = 0 then _ else (gi g 1 v, gi g 2 v, ga g 1 v)) else gv g m 1 v) = _; rw [if_pos rfl, if_neg (by decide)]
        refine ⟨by rw [em, e115, if_pos rfl]; rfl, fun hne v hv => ?_⟩
        have hv : v < gs g 1 := hv
        have p : 16 * (2 * m + 1) ≤ 16 * (2 * m + 1) + v ∧ 16 * (2 * m + 1) + v < 16 * (2 * m + 1) + gs g 1 := by omega
        rw [ev, ex 116 (by decide) (by decide), ex 117 (by decide) (by decide), ex 118 (by decide) (by decide), if_pos p, if_pos p, if_pos p, show 16 * (2 * m + 1) + v - 16 * (2 * m + 1) = v by omega]
        exact ⟨rfl, rfl, rfl⟩
    · have em : gm (g_mark n g) m i = gm g m i := if_neg c
      have ev : ∀ v, gv (g_mark n g) m i v = gv g m i v := fun v => if_neg c
      refine ⟨by rw [em, e115, if_neg (by omega), if_neg (by omega)]; exact z0, fun hne v hv => ?_⟩
      rw [em] at hne
      have hv : v < gs g 1 := hv
      rw [ev, ex 116 (by decide) (by decide), ex 117 (by decide) (by decide), ex 118 (by decide) (by decide), if_neg (by omega), if_neg (by omega), if_neg (by omega), if_neg (by omega), if_neg (by omega), if_neg (by omega)]
      exact z1 hne v hv
  · rw [ex 118 (by decide) (by decide)]
    by_cases c : 16 * (2 * n + 1) ≤ s ∧ s < 16 * (2 * n + 1) + gs g 1
    · rw [if_pos c, if_neg (by decide), if_neg (by decide)]
      have := (hB.2.2.2.2.2.2.2.2.2.2.1 (s - 16 * (2 * n + 1)) (by omega)).2
      rcases (show ga g 1 (s - 16 * (2 * n + 1)) = 0 ∨ ga g 1 (s - 16 * (2 * n + 1)) = 1 by omega) with z | z <;> rw [z]
      · exact Or.inl rfl
      · exact Or.inr rfl
    · rw [if_neg c]
      by_cases d : 16 * (2 * n) ≤ s ∧ s < 16 * (2 * n) + 16
      · rw [if_pos d]; exact k.2.2.2.2.2.2.2.2.1 _ (by omega)
      · rw [if_neg d]; exact k.2.2.2.2.2.2.2.2.1 s hs
/-- a letter is taken out of the net -/
theorem absM_out {M N : am_M} {g : tG} {i : Nat} (hN : 125 ≤ mN M) (hB : gB g) (hA : absM M g) (hi : i < (gn g).length) (h : sfr (fun s => s < 60) (wI M 93 18 (nI ((gn g).length - 1))) N) (hz : yZ N) (hE : ∀ s t, ((gn g).eraseIdx i)[s]? = some t → yO N s (some t)) : absM N (g_out i g) := by
  have el : ((gn g).eraseIdx i).length = (gn g).length - 1 := by rw [List.length_eraseIdx, if_pos hi]
  have a1 := absM_len hN hB hA ((gn g).take ((gn g).length - 1)) sfr.rf hA.2.2.2.2.2.2.2 (fun s t ht => by
    have hs := (List.getElem?_eq_some_iff.mp ht).1
    rw [List.length_take] at hs
    rw [List.getElem?_take_of_lt (by omega)] at ht
    exact hA.2.2.2.2.1.2 s t ht)
  rw [show ((gn g).take ((gn g).length - 1)).length = (gn g).length - 1 by rw [List.length_take]; omega] at a1
  refine absM_slots (M := wI M 93 18 (nI ((gn g).length - 1))) (g := un g ((gn g).take ((gn g).length - 1))) hN a1 h hz _ (gl g) (by rw [el]; show _ = ((gn g).take ((gn g).length - 1)).length; rw [List.length_take]; omega) hE (fun n o w hn ho hw => ⟨(a1.2.2.2.2.2.1 n o w hn ho hw).1.sf h (by show ¬ _ < 60; omega) (gB_len hB), (a1.2.2.2.2.2.1 n o w hn ho hw).2.sf h (by show ¬ _ < 60; omega) (gB_len hB)⟩)
