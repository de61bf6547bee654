/-! GOING BACK AND MOVING: states and cells -/
theorem tG_ext {g h : tG} (a1 : gs g = gs h) (a2 : ga g = ga h) (a3 : gi g = gi h) (a4 : gn g = gn h) (a5 : gl g = gl h) (a6 : gm g = gm h) (a7 : gv g = gv h) : g = h := by
  obtain ⟨x1, x2, x3, x4, x5, x6, x7⟩ := g
  obtain ⟨y1, y2, y3, y4, y5, y6, y7⟩ := h
  have a1 : x1 = y1 := a1
  have a2 : x2 = y2 := a2
  have a3 : x3 = y3 := a3
  have a4 : x4 = y4 := a4
  have a5 : x5 = y5 := a5
  have a6 : x6 = y6 := a6
  have a7 : x7 = y7 := a7
  rw [a1, a2, a3, a4, a5, a6, a7]
def resP (n : Nat) (g : tG) (i : Nat) : tG := itr (fun v => g_restore n v) i g
theorem resP_f (n : Nat) (g : tG) : ∀ i, gs (resP n g i) = gs g ∧ gn (resP n g i) = gn g ∧ gl (resP n g i) = gl g ∧ gm (resP n g i) = gm g ∧ gv (resP n g i) = gv g ∧ (∀ k m, ga (resP n g i) k m = if k = 1 ∧ m < i ∧ ga g 0 m = n then (gv g n 1 m).2.2 else ga g k m) ∧ (∀ k m, gi (resP n g i) k m = if k = 1 ∧ m < i ∧ ga g 0 m = n then (gv g n 1 m).1 else if k = 2 ∧ m < i ∧ ga g 0 m = n then (gv g n 1 m).2.1 else gi g k m)
  | 0 => ⟨rfl, rfl, rfl, rfl, rfl, fun k m => by rw [if_neg (by omega)]; rfl, fun k m => by rw [if_neg (by omega), if_neg (by omega)]; rfl⟩
  | i + 1 => by
    obtain ⟨h1, h2, h3, h4, h5, h6, h7⟩ := resP_f n g i
    have e : resP n g (i + 1) = g_restore n i (resP n g i) := rfl
    have e0 : ga (resP n g i) 0 i = ga g 0 i := by rw [h6, if_neg (by omega)]
    by_cases c : ga g 0 i = n
    · have e1 : resP n g (i + 1) = ua (ui (ui (resP n g i) 1 i (gv g n 1 i).1) 2 i (gv g n 1 i).2.1) 1 i (gv g n 1 i).2.2 := by
        rw [e]
        unfold g_restore
        rw [e0, if_pos c, h5]
      rw [e1]
      refine ⟨h1, h2, h3, h4, h5, fun k m => ?_, fun k m => ?_⟩
      · rw [ga_ua]
        show (if k = 1 ∧ m = i then _ else ga (resP n g i) k m) = _
        rw [h6]
        by_cases d : m = i
        · subst d
          by_cases d1 : k = 1
          · rw [if_pos ⟨d1, rfl⟩, if_pos ⟨d1, by omega, c⟩]
          · rw [if_neg (fun z => d1 z.1), if_neg (fun z => d1 z.1), if_neg (fun z => d1 z.1)]
        · rw [if_neg (fun z => d z.2)]
          by_cases d2 : k = 1 ∧ m < i ∧ ga g 0 m = n
          · rw [if_pos d2, if_pos ⟨d2.1, by omega, d2.2.2⟩]
          · rw [if_neg d2, if_neg (fun z => d2 ⟨z.1, by omega, z.2.2⟩)]
      · rw [gi_ua, gi_ui, gi_ui, h7]
        by_cases d : m = i
        · subst d
          by_cases d1 : k = 1
          · rw [if_neg (by omega), if_pos ⟨d1, rfl⟩, if_pos ⟨d1, by omega, c⟩]
          · by_cases d2 : k = 2
            · rw [if_pos ⟨d2, rfl⟩, if_neg (by omega), if_pos ⟨d2, by omega, c⟩]
            · rw [if_neg (by omega), if_neg (by omega), if_neg (by omega), if_neg (by omega), if_neg (by omega), if_neg (by omega)]
        · rw [if_neg (fun z => d z.2), if_neg (fun z => d z.2)]
          by_cases d1 : k = 1 ∧ m < i ∧ ga g 0 m = n
          · rw [if_pos d1, if_pos ⟨d1.1, by omega, d1.2.2⟩]
          · have d1' : ¬ (k = 1 ∧ m < i + 1 ∧ ga g 0 m = n) := fun z => d1 ⟨z.1, by omega, z.2.2⟩
            rw [if_neg d1, if_neg d1']
            by_cases d2 : k = 2 ∧ m < i ∧ ga g 0 m = n
            · rw [if_pos d2, if_pos ⟨d2.1, by omega, d2.2.2⟩]
            · rw [if_neg d2, if_neg (fun z => d2 ⟨z.1, by omega, z.2.2⟩)]
    · have e1 : resP n g (i + 1) = resP n g i := by
        rw [e]
        unfold g_restore
        rw [e0, if_neg c]
      rw [e1]
      refine ⟨h1, h2, h3, h4, h5, fun k m => ?_, fun k m => ?_⟩
      · rw [h6]
        by_cases d2 : k = 1 ∧ m < i ∧ ga g 0 m = n
        · rw [if_pos d2, if_pos ⟨d2.1, by omega, d2.2.2⟩]
        · rw [if_neg d2, if_neg (fun z => d2 ⟨z.1, by have : m ≠ i := (fun y => c (y ▸ z.2.2)); omega, z.2.2⟩)]
      · rw [h7]
        by_cases d1 : k = 1 ∧ m < i ∧ ga g 0 m = n
        · rw [if_pos d1, if_pos ⟨d1.1, by omega, d1.2.2⟩]
        · have d1' : ¬ (k = 1 ∧ m < i + 1 ∧ ga g 0 m = n) := fun z => d1 ⟨z.1, by have : m ≠ i := (fun y => c (y ▸ z.2.2)); omega, z.2.2⟩
          rw [if_neg d1, if_neg d1']
          by_cases d2 : k = 2 ∧ m < i ∧ ga g 0 m = n
          · rw [if_pos d2, if_pos ⟨d2.1, by omega, d2.2.2⟩]
          · rw [if_neg d2, if_neg (fun z => d2 ⟨z.1, by have : m ≠ i := (fun y => c (y ▸ z.2.2)); omega, z.2.2⟩)]
theorem backM_f (n m : Nat) (g : tG) : gs (g_backM n m g) = gs g ∧ ga (g_backM n m g) = ga g ∧ gi (g_backM n m g) = gi g ∧ gn (g_backM n m g) = gn g ∧ gl (g_backM n m g) = gl g := by
  unfold g_backM
  split <;> exact ⟨rfl, rfl, rfl, rfl, rfl⟩
def g_b0 (n m : Nat) (g : tG) : tG := ua (ua (ua (g_forget n (g_backM n m g)) 4 n m) 5 n 0) 6 n 0
theorem back1_eq (n m : Nat) (g : tG) : g_back1 n m g = resP n (g_b0 n m g) (gs g 1) := by
  obtain ⟨f1, f2, f3, f4, f5⟩ := backM_f n m g
  obtain ⟨p1, p2, p3, p4, p5, p6, p7⟩ := resP_f n (g_backM n m g) (gs g 1)
  obtain ⟨q1, q2, q3, q4, q5, q6, q7⟩ := resP_f n (g_b0 n m g) (gs g 1)
  have hv : gv (g_b0 n m g) = gv (g_backM n m g) := rfl
  have h0 : ∀ j, ga (g_b0 n m g) 0 j = ga (g_backM n m g) 0 j := fun j => by
    unfold g_b0
    rw [ga_ua, if_neg (by omega), ga_ua, if_neg (by omega), ga_ua, if_neg (by omega)]
    rfl
  refine tG_ext ?_ ?_ ?_ ?_ ?_ ?_ ?_
  · rw [q1]; exact p1
  · funext k j
    rw [q6, hv, h0]
    show ga (ua (ua (ua (resP n (g_backM n m g) (gs g 1)) 4 n m) 5 n 0) 6 n 0) k j = _
    rw [ga_ua, ga_ua, ga_ua, p6]
    unfold g_b0
    rw [ga_ua, ga_ua, ga_ua]
    show _ = if k = 1 ∧ j < gs g 1 ∧ ga (g_backM n m g) 0 j = n then _ else if k = 6 ∧ j = n then 0 else if k = 5 ∧ j = n then 0 else if k = 4 ∧ j = n then m else ga (g_backM n m g) k j
    by_cases c : k = 1 ∧ j < gs g 1 ∧ ga (g_backM n m g) 0 j = n
    · rw [if_pos c, if_neg (by omega), if_neg (by omega), if_neg (by omega), if_pos c]
    · rw [if_neg c, if_neg c]
  · funext k j
    rw [q7, hv, h0]
    show gi (resP n (g_backM n m g) (gs g 1)) k j = _
    rw [p7]
    rfl
  · rw [q2]; exact p2
  · rw [q3]
    show (fun k n' o => if n' = n then none else gl (resP n (g_backM n m g) (gs g 1)) k n' o) = _
    rw [p3]
    rfl
  · rw [q4]; exact p4
  · rw [q5]; exact p5
theorem back1_f (n m : Nat) (g : tG) : gs (g_back1 n m g) = gs g ∧ gn (g_back1 n m g) = gn g ∧ gl (g_back1 n m g) = (fun k n' o => if n' = n then none else gl g k n' o) ∧ gm (g_back1 n m g) = gm (g_backM n m g) ∧ gv (g_back1 n m g) = gv (g_backM n m g) ∧ (∀ k j, ga (g_back1 n m g) k j = if k = 1 ∧ j < gs g 1 ∧ ga g 0 j = n then (gv (g_backM n m g) n 1 j).2.2 else if k = 6 ∧ j = n then 0 else if k = 5 ∧ j = n then 0 else if k = 4 ∧ j = n then m else ga g k j) ∧ (∀ k j, gi (g_back1 n m g) k j = if k = 1 ∧ j < gs g 1 ∧ ga g 0 j = n then (gv (g_backM n m g) n 1 j).1 else if k = 2 ∧ j < gs g 1 ∧ ga g 0 j = n then (gv (g_backM n m g) n 1 j).2.1 else gi g k j) := by
  obtain ⟨f1, f2, f3, f4, f5⟩ := backM_f n m g
  obtain ⟨q1, q2, q3, q4, q5, q6, q7⟩ := resP_f n (g_b0 n m g) (gs g 1)
  have hg : ∀ k j, ga (g_b0 n m g) k j = if k = 6 ∧ j = n then 0 else if k = 5 ∧ j = n then 0 else if k = 4 ∧ j = n then m else ga g k j := fun k j => by
    unfold g_b0
    rw [ga_ua, ga_ua, ga_ua]
    show (if k = 6 ∧ j = n then 0 else if k = 5 ∧ j = n then 0 else if k = 4 ∧ j = n then m else ga (g_backM n m g) k j) = _
    rw [f2]
  have h0 : ∀ j, ga (g_b0 n m g) 0 j = ga g 0 j := fun j => by rw [hg, if_neg (by omega), if_neg (by omega), if_neg (by omega)]
  rw [back1_eq]
  refine ⟨q1.trans f1, q2.trans f4, q3.trans ?_, q4, q5, fun k j => ?_, fun k j => ?_⟩
  · show (fun k n' o => if n' = n then none else gl (g_backM n m g) k n' o) = _
    rw [f5]
  · rw [q6, h0, hg]
    rfl
  · rw [q7, h0]
    show _ = if _ then _ else if _ then _ else gi g k j
    rw [← f3]
    rfl
theorem gB_forget {g : tG} (hB : gB g) (n : Nat) : gB (g_forget n g) := by
  obtain ⟨b0, b1, b2, b3, b4, b5, b6, b7, b8, b9, bV, bA, bN, bl, bn, bh⟩ := hB
  refine ⟨b0, b1, b2, b3, b4, b5, b6, b7, b8, b9, bV, bA, bN, bl, bn, fun k m q u hu => ?_⟩
  have hu : (if m = n then none else gl g k m q) = some u := hu
  split at hu
  · cases hu
  · exact bh k m q u hu
theorem gB_back1 {g : tG} (hB : gB g) {n m : Nat} (hm : m ≤ 200) (hv : ∀ v, v < gs g 1 → (gv (g_backM n m g) n 1 v).2.2 ≤ 1) : gB (g_back1 n m g) := by
  obtain ⟨q1, q2, q3, q4, q5, q6, q7⟩ := back1_f n m g
  obtain ⟨b0, b1, b2, b3, b4, b5, b6, b7, b8, b9, bV, bA, bN, bl, bn, bh⟩ := hB
  have ok : ∀ t, okL g t → okL (g_back1 n m g) t := fun t ⟨h1, h2, h3, h4, h5, h6, h7, h8⟩ => ⟨by rw [q1]; exact h1, h2, by rw [q1]; exact h3, by rw [q1]; exact h4, h5, h6, h7, fun x hx => ⟨by rw [q1]; exact (h8 x hx).1, (h8 x hx).2⟩⟩
  unfold gB
  rw [q1, q2, q3]
  refine ⟨b0, b1, b2, b3, b4, b5, b6, b7, b8, b9, fun v hv2 => ?_, fun a ha => ?_, fun j hj => ?_, bl, fun t ht => ok t (bn t ht), fun k j o t ht => ok t ?_⟩
  · rw [q6, q6, if_neg (by omega), if_neg (by omega), if_neg (by omega), if_neg (by omega)]
    refine ⟨(bV v hv2).1, ?_⟩
    split
    · exact hv v hv2
    · rw [if_neg (by omega), if_neg (by omega), if_neg (by omega)]
      exact (bV v hv2).2
  · rw [q6, q6, if_neg (by omega), if_neg (by omega), if_neg (by omega), if_neg (by omega), if_neg (by omega), if_neg (by omega), if_neg (by omega), if_neg (by omega)]
    exact bA a ha
  · obtain ⟨c1, c2, c3⟩ := bN j hj
    rw [q6, q6, q6]
    refine ⟨?_, ?_, ?_⟩
    · rw [if_neg (by omega), if_neg (by omega), if_neg (by omega)]
      split
      · exact hm
      · exact c1
    · rw [if_neg (by omega), if_neg (by omega)]
      split
      · omega
      · rw [if_neg (by omega)]; exact c2
    · rw [if_neg (by omega)]
      split
      · omega
      · rw [if_neg (by omega), if_neg (by omega)]; exact c3
  · have ht : (if j = n then none else gl g k j o) = some t := ht
    split at ht
    · cases ht
    · exact bh k j o t ht
/-- the round of a node without letters -/
theorem absX_round {M : am_M} {g : tG} {n : Nat} (hN : 125 ≤ mN M) (k : absX M g) (hn : n < 5) (r : Nat) (hl : ∀ k o, gl g k n o = none) : absX (wI M (28 + 13 * n) 4 (nI r)) (ua g 4 n r) := by
  obtain ⟨k1, k2, k3, k4, k5, k6, k7, k8⟩ := k
  have h : am_gr (fun x => x = 28 + 13 * n) M (wI M (28 + 13 * n) 4 (nI r)) := am_gr.wI _ _ rfl
  have nl : ∀ x, 126 ≤ x → x ≤ mN M → ¬ x = 28 + 13 * n := fun x h1 h2 e => by omega
  have e0 : ∀ i, i ≠ 4 → ga (ua g 4 n r) i = ga g i := fun i hi => ga_uaf g n r hi
  refine ⟨k1.gr h hN (by omega) (by omega) (by omega), ?_, ?_, fun m hm => ?_, k5.gr h hN (by omega) (by omega) nl, fun m o w hm ho hw => ?_, ?_, k8.gr h hN (fun m j hm h1 h2 => by omega)⟩
  · have := k2.gr h hN (by omega) (by omega) (by omega) (by omega) (by omega)
    unfold xV at this ⊢
    rw [e0 0 (by omega), e0 1 (by omega)]
    exact this
  · have := k3.gr h hN (by omega) (by omega) (by omega)
    unfold xA at this ⊢
    rw [e0 2 (by omega), e0 3 (by omega)]
    exact this
  · obtain ⟨e1, e2, e3⟩ := k4 m hm
    rw [mI_wI, mI_wI, mI_wI, e0 5 (by omega), e0 6 (by omega), ga_ua]
    refine ⟨?_, by rw [if_neg (by omega)]; exact e2, by rw [if_neg (by omega)]; exact e3⟩
    by_cases c : m = n
    · rw [if_pos (by omega), if_pos (by omega)]
    · rw [if_neg (by omega), if_neg (by omega)]; exact e1
  · have h6 := k6.gr h hN (fun m hm => by omega) (fun m hm => by omega) nl
    show isO _ _ (gl g w m o) ∧ isO _ _ (gl g (2 + w) m o)
    rw [ga_ua]
    by_cases c : m = n
    · subst c
      rw [if_pos ⟨rfl, rfl⟩, hl, hl]
      have z : ∀ p, p < 2 → mR (wI M (28 + 13 * m) 4 (nI r)) (28 + 13 * m + 1) (p * 5 + o) = none ∧ mR (wI M (28 + 13 * m) 4 (nI r)) (28 + 13 * m + 2) (p * 5 + o) = none := fun p hp => by
        obtain ⟨u1, u2⟩ := h6 m o 0 hm ho (by omega)
        obtain ⟨u3, u4⟩ := h6 m o 1 hm ho (by omega)
        rw [hl] at u1 u2 u3 u4
        have u1 := isO_none u1
        have u2 := isO_none u2
        have u3 := isO_none u3
        have u4 := isO_none u4
        rcases (show p = (ga g 4 m + 0) % 2 ∨ p = (ga g 4 m + 1) % 2 by omega) with y | y
        · refine ⟨by rw [y]; exact u1, ?_⟩
          rw [show p = (ga g 4 m + 1 + 1) % 2 by omega]; exact u4
        · refine ⟨by rw [y]; exact u3, ?_⟩
          rw [show p = (ga g 4 m + 1 + 0) % 2 by omega]; exact u2
      rw [(z _ (by omega)).1, (z _ (by omega)).2]
      exact ⟨trivial, trivial⟩
    · rw [if_neg (by omega)]
      exact h6 m o w hm ho hw
  · intro m hm
    obtain ⟨p, q, e1, e2, e3, e4, e5⟩ := k7 m hm
    refine ⟨p, q, e1, e2, e3, ?_, ?_⟩
    · have := mkV.gr h (by omega) (fun j hj => by omega) e4
      unfold mkV at this ⊢
      rw [e0 0 (by omega)]
      exact this
    · have := mkV.gr h (by omega) (fun j hj => by omega) e5
      unfold mkV at this ⊢
      rw [e0 0 (by omega)]
      exact this
/-- the older mark becomes the newest -/
theorem absX_swap {M : am_M} {g : tG} {n m p q : Nat} (hN : 125 ≤ mN M) (k : absX M g) (hn : n < 5) (h2 : mR M (28 + 13 * n) 2 = some p) (h3 : mR M (28 + 13 * n) 3 = some q) (c1 : gm g n 1 ≠ some m) (c0 : gm g n 0 = some m) : absX (wI (wR (wR M (28 + 13 * n) 3 (some p)) (28 + 13 * n) 2 (some q)) p 1 (-1)) (g_backM n m g) := by
  obtain ⟨k1, k2, k3, k4, k5, k6, k7, k8⟩ := k
  obtain ⟨p', q', e1, e2, e3, e4, e5⟩ := k7 n hn
  cases h2.symm.trans e1
  cases h3.symm.trans e2
  have eb : g_backM n m g = uv (um g (fun n' i => if n' = n then (if i = 0 then none else some m) else gm g n' i)) (fun n' i v => if n' = n ∧ i ≠ 0 then gv g n 0 v else gv g n' i v) := if_neg c1
  rw [eb]
  have h : am_gr (fun x => x = 28 + 13 * n ∨ x = p) M (wI (wR (wR M (28 + 13 * n) 3 (some p)) (28 + 13 * n) 2 (some q)) p 1 (-1)) := ((am_gr.wR _ _ (Or.inl rfl)).tr (am_gr.wR _ _ (Or.inl rfl))).tr (am_gr.wI _ _ (Or.inr rfl))
  have r1 : ∀ x j, mR (wI (wR (wR M (28 + 13 * n) 3 (some p)) (28 + 13 * n) 2 (some q)) p 1 (-1)) x j = if x = 28 + 13 * n ∧ j = 2 then some q else if x = 28 + 13 * n ∧ j = 3 then some p else mR M x j := fun x j => by rw [mR_wI, mR_wR, mR_wR]
  have i1 : ∀ x, x ≠ p → mI (wI (wR (wR M (28 + 13 * n) 3 (some p)) (28 + 13 * n) 2 (some q)) p 1 (-1)) x = mI M x := fun x hx => by rw [mI_wI_n _ _ _ hx]; rfl
  have i2 : mI (wI (wR (wR M (28 + 13 * n) 3 (some p)) (28 + 13 * n) 2 (some q)) p 1 (-1)) p 1 = -1 := by rw [mI_wI, if_pos ⟨rfl, rfl⟩]
  generalize wI (wR (wR M (28 + 13 * n) 3 (some p)) (28 + 13 * n) 2 (some q)) p 1 (-1) = M' at h r1 i1 i2 ⊢
  have nl : ∀ x, 126 ≤ x → x ≤ mN M → ¬ (x = 28 + 13 * n ∨ x = p) := fun x h1 h2 e => by omega
  refine ⟨k1.gr h hN (by omega) (by omega) (by omega), k2.gr h hN (by omega) (by omega) (by omega) (by omega) (by omega), k3.gr h hN (by omega) (by omega) (by omega), fun j hj => ?_, k5.gr h hN (by omega) (by omega) nl, k6.gr h hN (fun m hm => by omega) (fun m hm => by omega) nl, fun j hj => ?_, fun j hj v hv => ?_⟩
  · rw [i1 _ (by omega)]
    exact k4 j hj
  · by_cases c : j = n
    · subst c
      refine ⟨q, p, by rw [r1, if_pos ⟨rfl, rfl⟩], by rw [r1, if_neg (by omega), if_pos ⟨rfl, rfl⟩], by omega, ⟨?_, fun _ v hv he => ?_⟩, ⟨?_, fun hne v hv he => ?_⟩⟩
      · rw [i1 q (by omega), e5.1, c0]
        show _ = mkI (if j = j then (if 1 = 0 then none else some m) else gm g j 1)
        simp
      · show _ = (if j = j ∧ 1 ≠ 0 then gv g j 0 v else gv g j 1 v).1 ∧ _ = (if j = j ∧ 1 ≠ 0 then gv g j 0 v else gv g j 1 v).2.1 ∧ _ = nI (if j = j ∧ 1 ≠ 0 then gv g j 0 v else gv g j 1 v).2.2
        rw [i1 (q + 2) (by omega), i1 (q + 3) (by omega), i1 (q + 4) (by omega), if_pos ⟨rfl, by decide⟩]
        exact e5.2 (by rw [c0]; exact fun z => by cases z) v hv he
      · rw [i2]
        show _ = mkI (if j = j then (if 0 = 0 then none else some m) else gm g j 0)
        simp [mkI]
      · exact absurd (show (if j = j then (if 0 = 0 then none else some m) else gm g j 0) = none by simp) hne
    · obtain ⟨p', q', f1, f2, f3, f4, f5⟩ := k7 j hj
      have w : ∀ i, gm (uv (um g (fun n' i => if n' = n then (if i = 0 then none else some m) else gm g n' i)) (fun n' i v => if n' = n ∧ i ≠ 0 then gv g n 0 v else gv g n' i v)) j i = gm g j i := fun i => if_neg c
      have w2 : ∀ i v, gv (uv (um g (fun n' i => if n' = n then (if i = 0 then none else some m) else gm g n' i)) (fun n' i v => if n' = n ∧ i ≠ 0 then gv g n 0 v else gv g n' i v)) j i v = gv g j i v := fun i v => if_neg (fun z => c z.1)
      refine ⟨p', q', by rw [r1, if_neg (by omega), if_neg (by omega)]; exact f1, by rw [r1, if_neg (by omega), if_neg (by omega)]; exact f2, f3, ?_, ?_⟩
      · refine ⟨by rw [w, i1 p' (by omega)]; exact f4.1, fun hne v hv he => ?_⟩
        rw [w] at hne
        rw [w2, i1 (p' + 2) (by omega), i1 (p' + 3) (by omega), i1 (p' + 4) (by omega)]
        exact f4.2 hne v hv he
      · refine ⟨by rw [w, i1 q' (by omega)]; exact f5.1, fun hne v hv he => ?_⟩
        rw [w] at hne
        rw [w2, i1 (q' + 2) (by omega), i1 (q' + 3) (by omega), i1 (q' + 4) (by omega)]
        exact f5.2 hne v hv he
  · rw [i1 _ (by omega), i1 _ (by omega)]
    exact k8 j hj v hv
/-- vertices are given back what the mark holds -/
theorem absX_restore {M N : am_M} {h : tG} {n p : Nat} (hN : 125 ≤ mN M) (k : absX M h) (hn : n < 5) (h2 : mR M (28 + 13 * n) 2 = some p) (hm : gm h n 1 ≠ none) (hc : cpR (ga h 0) n 9 10 11 (p + 2) (p + 3) (p + 4) (gs h 1) M N) : absX N (resP n h (gs h 1)) ∧ am_gr (fun x => x ≤ 92) M N := by
  obtain ⟨k1, k2, k3, k4, k5, k6, k7, k8⟩ := k
  obtain ⟨p', q', e1, e2, e3, e4, e5⟩ := k7 n hn
  cases h2.symm.trans e1
  obtain ⟨q1, q2, q3, q4, q5, q6, q7⟩ := resP_f n h (gs h 1)
  have hf := hc.1.gr
  have nl : ∀ x, 126 ≤ x → x ≤ mN M → ¬ (x = 9 ∨ x = 10 ∨ x = 11) := fun x h1 h2 e => by omega
  have g0 : ∀ i, i ≠ 1 → ga (resP n h (gs h 1)) i = ga h i := fun i hi => by funext j; rw [q6, if_neg (fun z => hi z.1)]
  have gi0 : ∀ i, i ≠ 1 → i ≠ 2 → gi (resP n h (gs h 1)) i = gi h i := fun i hi hj => by funext j; rw [q7, if_neg (fun z => hi z.1), if_neg (fun z => hj z.1)]
  refine ⟨⟨?_, fun v hv => ?_, ?_, ?_, ?_, ?_, ?_, k8.gr hf hN (fun m j hm h1 h2 => by omega)⟩, hf.wd (fun x _ e => by show x ≤ 92; omega)⟩
  · have := k1.gr hf hN (by omega) (by omega) (by omega)
    unfold xS at this ⊢
    rw [q1]
    exact this
  · rw [q1] at hv
    obtain ⟨v1, v2, v3, v4, v5⟩ := k2 v hv
    rw [g0 0 (by decide), gi0 0 (by decide) (by decide), hc.1.2.2.2 3 (by omega), hc.1.2.2.2 4 (by omega), q7, q7, q6]
    refine ⟨v1, v2, ?_⟩
    by_cases c : ga h 0 v = n
    · obtain ⟨u1, u2, u3⟩ := (hc.2 v).1 hv c
      obtain ⟨w1, w2, w3⟩ := e4.2 hm v hv c
      rw [if_pos ⟨rfl, hv, c⟩, if_neg (by omega), if_pos ⟨rfl, hv, c⟩, if_pos ⟨rfl, hv, c⟩, u1, u2, u3]
      exact ⟨w1, w2, w3⟩
    · obtain ⟨u1, u2, u3⟩ := (hc.2 v).2 (fun z => c z.2)
      rw [if_neg (fun z => c z.2.2), if_neg (fun z => c z.2.2), if_neg (fun z => c z.2.2), if_neg (fun z => c z.2.2), if_neg (fun z => c z.2.2), u1, u2, u3]
      exact ⟨v3, v4, v5⟩
  · have := k3.gr hf hN (by omega) (by omega) (by omega)
    unfold xA at this ⊢
    rw [q1, g0 2 (by decide), g0 3 (by decide), gi0 3 (by decide) (by decide)]
    exact this
  · have := k4.gr hf hN (fun m hm => by omega)
    unfold xN at this ⊢
    rw [g0 4 (by decide), g0 5 (by decide), g0 6 (by decide)]
    exact this
  · have := k5.gr hf hN (by omega) (by omega) nl
    unfold xE at this ⊢
    rw [q2]
    exact this
  · have := k6.gr hf hN (fun m hm => by omega) (fun m hm => by omega) nl
    unfold xH at this ⊢
    rw [q3, g0 4 (by decide)]
    exact this
  · have := k7.gr hf hN (fun m hm => by omega) (fun m j hm h1 h2 => by omega)
    unfold xM mkV at this ⊢
    rw [q1, q4, q5, g0 0 (by decide)]
    exact this
