/-! GOING BACK AND MOVING: the loops' states -/
def backP (m : Nat) (g : tG) (i : Nat) : tG := itr (fun n h => g_write n (g_back1 n m h)) i (us g 7 (gs g 7 + 1))
theorem gB_s7 {g : tG} (hB : gB g) (h : gs g 7 + 1 ≤ 1000) : gB (us g 7 (gs g 7 + 1)) := by
  obtain ⟨b0, b1, b2, b3, b4, b5, b6, b7, b8, b9, bV, bA, bN, bl, bn, bh⟩ := hB
  have ok : ∀ t, okL g t → okL (us g 7 (gs g 7 + 1)) t := fun t ⟨h1, h2, h3, h4, h5, h6, h7, h8⟩ => ⟨Nat.le_succ_of_le h1, h2, h3, h4, h5, h6, h7, h8⟩
  exact ⟨b0, b1, b2, b3, b4, b5, b6, b7, h, b9, bV, bA, bN, bl, fun t ht => ok t (bn t ht), fun k n o t ht => ok t (bh k n o t ht)⟩
theorem backM_gm (n m : Nat) (g : tG) (j i : Nat) : gm (g_backM n m g) j i = if j = n ∧ gm g n 1 ≠ some m then (if i = 0 then none else some m) else gm g j i := by
  unfold g_backM
  by_cases c : gm g n 1 = some m
  · rw [if_pos c, if_neg (fun z => z.2 c)]
  · rw [if_neg c]
    show (if j = n then (if i = 0 then none else some m) else gm g j i) = _
    by_cases d : j = n
    · rw [if_pos d, if_pos (show j = n ∧ gm g n 1 ≠ some m from ⟨d, c⟩)]
    · rw [if_neg d, if_neg (fun z => d z.1)]
theorem backM_gv (n m : Nat) (g : tG) (j i : Nat) : gv (g_backM n m g) j i = if j = n ∧ i ≠ 0 ∧ gm g n 1 ≠ some m then gv g n 0 else gv g j i := by
  unfold g_backM
  by_cases c : gm g n 1 = some m
  · rw [if_pos c, if_neg (fun z => z.2.2 c)]
  · rw [if_neg c]
    funext v
    show (if j = n ∧ i ≠ 0 then gv g n 0 v else gv g j i v) = _
    by_cases d : j = n ∧ i ≠ 0
    · rw [if_pos d, if_pos ⟨d.1, d.2, c⟩]
    · rw [if_neg d, if_neg (fun z => d ⟨z.1, z.2.1⟩)]
theorem backM_new {n m : Nat} {g : tG} (h : gm g n 1 = some m ∨ gm g n 0 = some m) : gm (g_backM n m g) n 1 = some m := by
  rw [backM_gm]
  by_cases c : gm g n 1 = some m
  · rw [if_neg (fun z => z.2 c)]; exact c
  · rw [if_pos (show n = n ∧ gm g n 1 ≠ some m from ⟨rfl, c⟩), if_neg (by decide)]
theorem backM_le {n m : Nat} {g : tG} (hV : ∀ i v, gm g n i ≠ none → v < gs g 1 → (gv g n i v).2.2 ≤ 1) (h : gm g n 1 = some m ∨ gm g n 0 = some m) : ∀ v, v < gs g 1 → (gv (g_backM n m g) n 1 v).2.2 ≤ 1 := fun v hv => by
  rw [backM_gv]
  by_cases c : gm g n 1 = some m
  · rw [if_neg (fun z => z.2.2 c)]
    exact hV 1 v (by rw [c]; exact fun z => by cases z) hv
  · rw [if_pos ⟨rfl, by decide, c⟩]
    rcases h with h | h
    · exact absurd h c
    · exact hV 0 v (by rw [h]; exact fun z => by cases z) hv
theorem backP_i {g : tG} {m : Nat} (hB : gB g) (h7 : gs g 7 + 1 ≤ 1000) (hm : m ≤ 199) (hV : gVB g) (hA : ∀ n, n < gs g 0 → gm g n 1 = some m ∨ gm g n 0 = some m) : ∀ i, i ≤ gs g 0 → gB (backP m g i) ∧ (∀ k, k ≠ 8 → gs (backP m g i) k = gs (us g 7 (gs g 7 + 1)) k) ∧ ga (backP m g i) 0 = ga g 0 ∧ ∀ n, i ≤ n → ∀ j, gm (backP m g i) n j = gm g n j ∧ gv (backP m g i) n j = gv g n j
  | 0, _ => ⟨gB_s7 hB h7, fun _ _ => rfl, rfl, fun _ _ _ => ⟨rfl, rfl⟩⟩
  | i + 1, hi => by
    obtain ⟨p1, p2, p3, p4⟩ := backP_i hB h7 hm hV hA i (by omega)
    have e : backP m g (i + 1) = g_write i (g_back1 i m (backP m g i)) := rfl
    generalize backP m g i = h at p1 p2 p3 p4 e
    have hs1 : gs h 1 = gs g 1 := p2 1 (by decide)
    have hs0 : gs h 0 = gs g 0 := p2 0 (by decide)
    have hx : gm h i 1 = some m ∨ gm h i 0 = some m := by rw [(p4 i (Nat.le_refl _) 1).1, (p4 i (Nat.le_refl _) 0).1]; exact hA i (by omega)
    have hV2 : ∀ j v, gm h i j ≠ none → v < gs h 1 → (gv h i j v).2.2 ≤ 1 := fun j v h1 h2 => by
      rw [(p4 i (Nat.le_refl _) j).2]
      rw [(p4 i (Nat.le_refl _) j).1] at h1
      rw [hs1] at h2
      exact hV i j v h1 h2
    obtain ⟨q1, q2, q3, q4, q5, q6, q7⟩ := back1_f i m h
    have hb := gB_back1 (n := i) (m := m) p1 (by omega) (backM_le hV2 hx)
    have o := sameW_write i (g_back1 i m h)
    rw [e]
    refine ⟨gB_write hb (by rw [q1, hs0]; omega) (by rw [q6, if_neg (by omega), if_neg (by omega), if_neg (by omega), if_pos ⟨rfl, rfl⟩]; exact hm), fun k hk => ?_, ?_, fun n hn j => ⟨?_, ?_⟩⟩
    · rw [o.2.2.2.2 k hk, q1]; exact p2 k hk
    · rw [o.1]
      funext j
      rw [q6, if_neg (by omega), if_neg (by omega), if_neg (by omega), if_neg (by omega), p3]
    · rw [o.2.2.1, q4, backM_gm, if_neg (by omega)]
      exact (p4 n (by omega) j).1
    · rw [o.2.2.2.1, q5, backM_gv, if_neg (by omega)]
      exact (p4 n (by omega) j).2
def movP (v n : Nat) (g : tG) (i : Nat) : tG := itr (fun k h => g_write k (g_move1 k h)) i (us (ua g 0 v n) 7 (gs g 7 + 1))
theorem gB_home {g : tG} (hB : gB g) {v n : Nat} (hn : n < gs g 0) : gB (ua g 0 v n) := by
  obtain ⟨b0, b1, b2, b3, b4, b5, b6, b7, b8, b9, bV, bA, bN, bl, bn, bh⟩ := hB
  refine ⟨b0, b1, b2, b3, b4, b5, b6, b7, b8, b9, fun u hu => ?_, fun a ha => ?_, fun m hm => ?_, bl, bn, bh⟩
  · rw [show ga (ua g 0 v n) 1 u = ga g 1 u from by rw [ga_ua, if_neg (by omega)], ga_ua]
    refine ⟨?_, (bV u hu).2⟩
    split
    · exact hn
    · exact (bV u hu).1
  · rw [ga_ua, ga_ua, if_neg (by omega), if_neg (by omega)]
    exact bA a ha
  · rw [ga_ua, ga_ua, ga_ua, if_neg (by omega), if_neg (by omega), if_neg (by omega)]
    exact bN m hm
theorem gB_move1 {g : tG} (hB : gB g) (k : Nat) : gB (g_move1 k g) := gB_forget hB k
theorem movP_i {g g0 : tG} (hB : gB g0) (h4 : ∀ n, n < gs g0 0 → ga g0 4 n ≤ 199) (F : Nat → tG) (F0 : F 0 = g0) (Fs : ∀ i, F (i + 1) = g_write i (g_move1 i (F i))) : ∀ i, i ≤ gs g0 0 → gB (F i) ∧ (∀ k, k ≠ 8 → gs (F i) k = gs g0 k) ∧ ga (F i) = ga g0 ∧ gi (F i) = gi g0
  | 0, _ => by rw [F0]; exact ⟨hB, fun _ _ => rfl, rfl, rfl⟩
  | i + 1, hi => by
    obtain ⟨p1, p2, p3, p4⟩ := movP_i (g := g) hB h4 F F0 Fs i (by omega)
    have o := sameW_write i (g_move1 i (F i))
    rw [Fs]
    refine ⟨gB_write (gB_move1 p1 i) (by show i < gs (F i) 0; rw [p2 0 (by decide)]; omega) (by show ga (F i) 4 i ≤ 199; rw [p3]; exact h4 i (by omega)), fun k hk => ?_, ?_, ?_⟩
    · rw [o.2.2.2.2 k hk]; exact p2 k hk
    · rw [o.1]; exact p3
    · rw [o.2.1]; exact p4
/-- the marks' contents, where there is no mark, are of no account -/
theorem absX_gv {M : am_M} {g : tG} (k : absX M g) (V : Nat → Nat → Nat → Int32 × Int32 × Nat) (hV : ∀ n i v, n < 5 → i ≤ 1 → gm g n i ≠ none → v < gs g 1 → ga g 0 v = n → V n i v = gv g n i v) : absX M (uv g V) := by
  obtain ⟨k1, k2, k3, k4, k5, k6, k7, k8⟩ := k
  refine ⟨k1, k2, k3, k4, k5, k6, fun m hm => ?_, k8⟩
  obtain ⟨p, q, e1, e2, e3, e4, e5⟩ := k7 m hm
  refine ⟨p, q, e1, e2, e3, ⟨e4.1, fun z v hv he => ?_⟩, ⟨e5.1, fun z v hv he => ?_⟩⟩
  · show _ = (V m 1 v).1 ∧ _ = (V m 1 v).2.1 ∧ _ = nI (V m 1 v).2.2
    rw [hV m 1 v hm (Nat.le_refl _) z hv he]
    exact e4.2 z v hv he
  · show _ = (V m 0 v).1 ∧ _ = (V m 0 v).2.1 ∧ _ = nI (V m 0 v).2.2
    rw [hV m 0 v hm (by decide) z hv he]
    exact e5.2 z v hv he
theorem absX_home {M : am_M} {g : tG} (hN : 125 ≤ mN M) (k : absX M g) {v n : Nat} (hv16 : gs g 1 ≤ 16) : ∃ V, absX (wI M 3 v (nI n)) (uv (ua g 0 v n) V) := by
  have h : am_gr (fun x => x = 3) M (wI M 3 v (nI n)) := am_gr.wI _ _ rfl
  obtain ⟨k1, k2, k3, k4, k5, k6, k7, k8⟩ := k
  have nl : ∀ x, 126 ≤ x → x ≤ mN M → ¬ x = 3 := fun x h1 h2 e => by omega
  have e0 : ∀ i, i ≠ 0 → ga (ua g 0 v n) i = ga g i := fun i hi => ga_uaf g v n hi
  refine ⟨fun m i u => (mI M ((mR M (28 + 13 * m) (if i = 0 then 3 else 2)).getD 0 + 2) u, mI M ((mR M (28 + 13 * m) (if i = 0 then 3 else 2)).getD 0 + 3) u, if mI M ((mR M (28 + 13 * m) (if i = 0 then 3 else 2)).getD 0 + 4) u = 0 then 0 else 1), k1.gr h hN (by omega) (by omega) (by omega), fun u hu => ?_, ?_, ?_, k5.gr h hN (by omega) (by omega) nl, ?_, fun m hm => ?_, k8.gr h hN (fun m j hm h1 h2 => by omega)⟩
  · obtain ⟨t1, t2, t3, t4, t5⟩ := k2 u hu
    have d : ∀ x, x ≠ 3 → mI (wI M 3 v (nI n)) x = mI M x := fun x hx => mI_wI_n _ _ _ hx
    show mI (wI M 3 v (nI n)) 3 u = nI (ga (ua g 0 v n) 0 u) ∧ _ = gi g 0 u ∧ _ = gi g 1 u ∧ _ = gi g 2 u ∧ _ = nI (ga (ua g 0 v n) 1 u)
    rw [d 4 (by decide), d 9 (by decide), d 10 (by decide), d 11 (by decide), e0 1 (by decide), mI_wI, ga_ua]
    refine ⟨?_, t2, t3, t4, t5⟩
    by_cases c : u = v
    · rw [if_pos ⟨rfl, c⟩, if_pos ⟨rfl, c⟩]
    · rw [if_neg (fun z => c z.2), if_neg (fun z => c z.2)]; exact t1
  · have := k3.gr h hN (by omega) (by omega) (by omega)
    unfold xA at this ⊢
    show ∀ a, a < gs g 2 → _ = nI (ga (ua g 0 v n) 2 a) ∧ _ = nI (ga (ua g 0 v n) 3 a) ∧ _
    rw [e0 2 (by omega), e0 3 (by omega)]
    exact this
  · have := k4.gr h hN (fun m hm => by omega)
    unfold xN at this ⊢
    show ∀ m, m < 5 → _ = nI (ga (ua g 0 v n) 4 m) ∧ _ = nI (ga (ua g 0 v n) 5 m) ∧ _ = nI (ga (ua g 0 v n) 6 m)
    rw [e0 4 (by omega), e0 5 (by omega), e0 6 (by omega)]
    exact this
  · have := k6.gr h hN (fun m hm => by omega) (fun m hm => by omega) nl
    intro m o w hm ho hw
    have z := this m o w hm ho hw
    have e4 : ga (uv (ua g 0 v n) (fun m i u => (mI M ((mR M (28 + 13 * m) (if i = 0 then 3 else 2)).getD 0 + 2) u, mI M ((mR M (28 + 13 * m) (if i = 0 then 3 else 2)).getD 0 + 3) u, if mI M ((mR M (28 + 13 * m) (if i = 0 then 3 else 2)).getD 0 + 4) u = 0 then 0 else 1))) 4 m = ga g 4 m := by
      show ga (ua g 0 v n) 4 m = _
      rw [e0 4 (by omega)]
    rw [e4]
    exact z
  · obtain ⟨p, q, e1, e2, e3, e4, e5⟩ := k7 m hm
    have d : ∀ x, x ≠ 3 → mI (wI M 3 v (nI n)) x = mI M x := fun x hx => mI_wI_n _ _ _ hx
    have zb : ∀ x u, u < gs g 1 → (x = p ∨ x = q) → mI M (x + 4) u = 0 ∨ mI M (x + 4) u = 1 := fun x u hu hx => by
      have z := k8 m hm u (by omega)
      rcases (show x = 28 + 13 * m + 3 ∨ x = 28 + 13 * m + 8 by omega) with y | y <;> rw [y]
      · exact z.1
      · exact z.2
    have zc : ∀ x : Int32, (x = 0 ∨ x = 1) → x = nI (if x = 0 then 0 else 1) := fun x hx => by rcases hx with rfl | rfl <;> rfl
    refine ⟨p, q, e1, e2, e3, ⟨by rw [d p (by omega)]; exact e4.1, fun z u hu he => ?_⟩, ⟨by rw [d q (by omega)]; exact e5.1, fun z u hu he => ?_⟩⟩
    · rw [d (p + 2) (by omega), d (p + 3) (by omega), d (p + 4) (by omega)]
      show _ = mI M ((mR M (28 + 13 * m) (if 1 = 0 then 3 else 2)).getD 0 + 2) u ∧ _ = mI M ((mR M (28 + 13 * m) (if 1 = 0 then 3 else 2)).getD 0 + 3) u ∧ _ = nI (if mI M ((mR M (28 + 13 * m) (if 1 = 0 then 3 else 2)).getD 0 + 4) u = 0 then 0 else 1)
      rw [if_neg (by decide), e1]
      exact ⟨rfl, rfl, zc _ (zb p u hu (Or.inl rfl))⟩
    · rw [d (q + 2) (by omega), d (q + 3) (by omega), d (q + 4) (by omega)]
      show _ = mI M ((mR M (28 + 13 * m) (if 0 = 0 then 3 else 2)).getD 0 + 2) u ∧ _ = mI M ((mR M (28 + 13 * m) (if 0 = 0 then 3 else 2)).getD 0 + 3) u ∧ _ = nI (if mI M ((mR M (28 + 13 * m) (if 0 = 0 then 3 else 2)).getD 0 + 4) u = 0 then 0 else 1)
      rw [if_pos rfl, e2]
      exact ⟨rfl, rfl, zc _ (zb q u hu (Or.inr rfl))⟩
/-- both marks of a node are given up -/
def g_fm (n : Nat) (g : tG) : tG := um g (fun n' i => if n' = n then none else gm g n' i)
theorem mark_fm (n : Nat) (h : tG) : g_mark n (g_fm n h) = um (g_mark n h) (fun n' i => if n' = n ∧ i = 0 then none else gm (g_mark n h) n' i) := by
  refine tG_ext ?_ ?_ ?_ ?_ ?_ ?_ ?_
  · simp only [gs, g_mark, g_fm, um, uv]
  · simp only [ga, g_mark, g_fm, um, uv]
  · simp only [gi, g_mark, g_fm, um, uv]
  · simp only [gn, g_mark, g_fm, um, uv]
  · simp only [gl, g_mark, g_fm, um, uv]
  · funext m i
    simp only [gm, ga, g_mark, g_fm, um, uv]
    by_cases c : m = n <;> by_cases d : i = 0 <;> simp [c, d]
  · simp only [gv, gi, ga, g_mark, g_fm, um, uv]
theorem move1_eq (n : Nat) (g : tG) : g_mark n (g_fm n (g_forget n g)) = g_move1 n g := mark_fm n (g_forget n g)
theorem absX_fm {M : am_M} {g : tG} {n p q : Nat} (hN : 125 ≤ mN M) (k : absX M g) (hn : n < 5) (h2 : mR M (28 + 13 * n) 2 = some p) (h3 : mR M (28 + 13 * n) 3 = some q) : absX (wI (wI M p 1 (-1)) q 1 (-1)) (g_fm n g) ∧ am_gr (fun x => x ≤ 92) M (wI (wI M p 1 (-1)) q 1 (-1)) := by
  obtain ⟨k1, k2, k3, k4, k5, k6, k7, k8⟩ := k
  obtain ⟨p', q', e1, e2, e3, e4, e5⟩ := k7 n hn
  cases h2.symm.trans e1
  cases h3.symm.trans e2
  have h : am_gr (fun x => x = p ∨ x = q) M (wI (wI M p 1 (-1)) q 1 (-1)) := (am_gr.wI _ _ (Or.inl rfl)).tr (am_gr.wI _ _ (Or.inr rfl))
  have i1 : ∀ x, x ≠ p → x ≠ q → mI (wI (wI M p 1 (-1)) q 1 (-1)) x = mI M x := fun x a b => by rw [mI_wI_n _ _ _ b, mI_wI_n _ _ _ a]
  have i2 : mI (wI (wI M p 1 (-1)) q 1 (-1)) p 1 = -1 := by rw [mI_wI_n _ _ _ (by omega), mI_wI, if_pos ⟨rfl, rfl⟩]
  have i3 : mI (wI (wI M p 1 (-1)) q 1 (-1)) q 1 = -1 := by rw [mI_wI, if_pos ⟨rfl, rfl⟩]
  have r1 : mR (wI (wI M p 1 (-1)) q 1 (-1)) = mR M := rfl
  generalize wI (wI M p 1 (-1)) q 1 (-1) = M' at h i1 i2 i3 r1 ⊢
  have nl : ∀ x, 126 ≤ x → x ≤ mN M → ¬ (x = p ∨ x = q) := fun x h1 h2 e => by omega
  refine ⟨⟨k1.gr h hN (by omega) (by omega) (by omega), k2.gr h hN (by omega) (by omega) (by omega) (by omega) (by omega), k3.gr h hN (by omega) (by omega) (by omega), k4.gr h hN (fun m hm => by omega), k5.gr h hN (by omega) (by omega) nl, k6.gr h hN (fun m hm => by omega) (fun m hm => by omega) nl, fun j hj => ?_, fun j hj v hv => ?_⟩, h.wd (fun x _ e => by show x ≤ 92; omega)⟩
  · by_cases c : j = n
    · subst c
      have w : ∀ i, gm (g_fm j g) j i = none := fun i => if_pos rfl
      exact ⟨p, q, by rw [r1]; exact e1, by rw [r1]; exact e2, e3, ⟨by rw [w, i2]; rfl, fun z => absurd (w 1) z⟩, ⟨by rw [w, i3]; rfl, fun z => absurd (w 0) z⟩⟩
    · obtain ⟨p', q', f1, f2, f3, f4, f5⟩ := k7 j hj
      have w : ∀ i, gm (g_fm n g) j i = gm g j i := fun i => if_neg c
      refine ⟨p', q', by rw [r1]; exact f1, by rw [r1]; exact f2, f3, ?_, ?_⟩
      · refine ⟨by rw [w, i1 p' (by omega) (by omega)]; exact f4.1, fun hne v hv he => ?_⟩
        rw [w] at hne
        rw [i1 (p' + 2) (by omega) (by omega), i1 (p' + 3) (by omega) (by omega), i1 (p' + 4) (by omega) (by omega)]
        exact f4.2 hne v hv he
      · refine ⟨by rw [w, i1 q' (by omega) (by omega)]; exact f5.1, fun hne v hv he => ?_⟩
        rw [w] at hne
        rw [i1 (q' + 2) (by omega) (by omega), i1 (q' + 3) (by omega) (by omega), i1 (q' + 4) (by omega) (by omega)]
        exact f5.2 hne v hv he
  · rw [i1 _ (by omega) (by omega), i1 _ (by omega) (by omega)]
    exact k8 j hj v hv
/-- the contents of marks do not steer letters -/
theorem write1_uv (n o : Nat) (g : tG) (V : Nat → Nat → Nat → Int32 × Int32 × Nat) : g_write1 n o (uv g V) = uv (g_write1 n o g) V := by
  by_cases c : o = n
  · rw [write1_eq c, write1_eq c]
  · rw [write1_ne c, write1_ne c]
    rfl
theorem write_uv (n : Nat) (g : tG) (V : Nat → Nat → Nat → Int32 × Int32 × Nat) : g_write n (uv g V) = uv (g_write n g) V := by
  have : ∀ i, itr (fun o => g_write1 n o) i (uv g V) = uv (itr (fun o => g_write1 n o) i g) V := fun i => by
    induction i with
    | zero => rfl
    | succ i ih => rw [itr_s _ i _, itr_s _ i _, ih, write1_uv]
  exact this _
theorem movP_uv {g0 : tG} (V : Nat → Nat → Nat → Int32 × Int32 × Nat) : ∀ i, ∃ V', itr (fun k h => g_write k (g_move1 k h)) i (uv g0 V) = uv (itr (fun k h => g_write k (g_move1 k h)) i g0) V' ∧ ∀ k v, k < i → V' k 1 v = gv (itr (fun k h => g_write k (g_move1 k h)) i g0) k 1 v ∧ gm (itr (fun k h => g_write k (g_move1 k h)) i g0) k 0 = none
  | 0 => ⟨V, rfl, fun k v h => absurd h (by omega)⟩
  | i + 1 => by
    obtain ⟨V', e1, e2⟩ := movP_uv (g0 := g0) V i
    rw [itr_s _ i _, itr_s _ i _, e1]
    generalize itr (fun k h => g_write k (g_move1 k h)) i g0 = h at e2 ⊢
    refine ⟨fun n' j v => if n' = i then (if j = 0 then V' i 1 v else (gi h 1 v, gi h 2 v, ga h 1 v)) else V' n' j v, ?_, fun k v hk => ?_⟩
    · show g_write i (uv (g_move1 i h) _) = _
      rw [write_uv]
      rfl
    · have o := sameW_write i (g_move1 i h)
      rw [o.2.2.2.1, o.2.2.1]
      show (if k = i then (if 1 = 0 then V' i 1 v else (gi h 1 v, gi h 2 v, ga h 1 v)) else V' k 1 v) = (if k = i then (if 1 = 0 then gv h i 1 v else (gi h 1 v, gi h 2 v, ga h 1 v)) else gv h k 1 v) ∧ (if k = i ∧ 0 = 0 then none else (if k = i then (if 0 = 0 then gm h i 1 else some (ga h 4 i)) else gm h k 0)) = none
      by_cases c : k = i
      · rw [if_pos c, if_pos c, if_neg (by decide), if_neg (by decide), if_pos ⟨c, rfl⟩]
        exact ⟨rfl, rfl⟩
      · rw [if_neg c, if_neg c, if_neg (fun z => c z.1), if_neg c]
        exact e2 k v (by omega)
