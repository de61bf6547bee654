/-! THE REFERENCE'S MEMORY: vertices, arcs, a new one, forgetting -/
theorem absM_vertex {M : am_M} {g : tG} {n : Nat} {y : Int32} (hN : 125 ≤ mN M) (k : absM M g) (hm : ∀ n i, gm g n i = none) : absM (wI (wI (wI (wI (wI (wI M 94 (gs g 1) y) 95 (gs g 1) y) 96 (gs g 1) 0) 97 (gs g 1) 1) 98 (gs g 1) (nI n)) 93 1 (nI (gs g 1 + 1))) (g_vertex n y g) := by
  have h : am_gr (fun x => 94 ≤ x ∧ x ≤ 98) M (wI (wI (wI (wI (wI M 94 (gs g 1) y) 95 (gs g 1) y) 96 (gs g 1) 0) 97 (gs g 1) 1) 98 (gs g 1) (nI n)) := ((((am_gr.wI _ _ (by decide)).tr (am_gr.wI _ _ (by decide))).tr (am_gr.wI _ _ (by decide))).tr (am_gr.wI _ _ (by decide))).tr (am_gr.wI _ _ (by decide))
  have h2 : am_gr (fun x => x = 93) (wI (wI (wI (wI (wI M 94 (gs g 1) y) 95 (gs g 1) y) 96 (gs g 1) 0) 97 (gs g 1) 1) 98 (gs g 1) (nI n)) (wI (wI (wI (wI (wI (wI M 94 (gs g 1) y) 95 (gs g 1) y) 96 (gs g 1) 0) 97 (gs g 1) 1) 98 (gs g 1) (nI n)) 93 1 (nI (gs g 1 + 1))) := am_gr.wI _ _ rfl
  obtain ⟨k1, k2, k3, k4, k5, k6, k7, k8⟩ := k
  have a0 : ∀ i, i ≠ 0 → i ≠ 1 → ga (g_vertex n y g) i = ga g i := fun i h0 h1 => by
    show ga (ua (ua g 0 (gs g 1) n) 1 (gs g 1) 1) i = _
    rw [ga_uaf _ _ _ h1, ga_uaf _ _ _ h0]
  have i0 : gi (g_vertex n y g) 3 = gi g 3 := by
    show gi (ui (ui (ui (ua (ua g 0 (gs g 1) n) 1 (gs g 1) 1) 0 (gs g 1) y) 1 (gs g 1) y) 2 (gs g 1) 0) 3 = _
    rw [gi_uif _ _ _ (by decide), gi_uif _ _ _ (by decide), gi_uif _ _ _ (by decide)]; rfl
  refine ⟨?_, fun v hv => ?_, ?_, ?_, ⟨?_, fun i t ht => ((k5.2 i t ht).gr h hN (fun x a b => by omega)).gr h2 hN (fun x a b => by omega)⟩, (k6.gr h hN (fun x a b => by omega)).gr h2 hN (fun x a b => by omega), fun m i hm' hi => ⟨?_, fun z => absurd (hm m i) z⟩, (k8.gr h hN (by omega) (by omega) (by omega)).gr h2 hN (by omega) (by omega) (by omega)⟩
  · exact yS_w (g := ui (ui (ui (ua (ua g 0 (gs g 1) n) 1 (gs g 1) 1) 0 (gs g 1) y) 1 (gs g 1) y) 2 (gs g 1) 0) (k1.gr h hN (by omega) (by omega)) (gs g 1 + 1) (Or.inr (Or.inl ⟨rfl, rfl⟩))
  · have hv : v < gs g 1 + 1 := hv
    have f0 : gi (g_vertex n y g) 0 v = if v = gs g 1 then y else gi g 0 v := by
      show gi (ui (ui (ui (ua (ua g 0 (gs g 1) n) 1 (gs g 1) 1) 0 (gs g 1) y) 1 (gs g 1) y) 2 (gs g 1) 0) 0 v = _
      rw [gi_uif _ _ _ (by decide), gi_uif _ _ _ (by decide), gi_ui]
      by_cases c : v = gs g 1
      · rw [if_pos ⟨rfl, c⟩, if_pos c]
      · rw [if_neg (fun z => c z.2), if_neg c]; rfl
    have f1 : gi (g_vertex n y g) 1 v = if v = gs g 1 then y else gi g 1 v := by
      show gi (ui (ui (ui (ua (ua g 0 (gs g 1) n) 1 (gs g 1) 1) 0 (gs g 1) y) 1 (gs g 1) y) 2 (gs g 1) 0) 1 v = _
      rw [gi_uif _ _ _ (by decide), gi_ui]
      by_cases c : v = gs g 1
      · rw [if_pos ⟨rfl, c⟩, if_pos c]
      · rw [if_neg (fun z => c z.2), if_neg c, gi_uif _ _ _ (by decide)]; rfl
    have f2 : gi (g_vertex n y g) 2 v = if v = gs g 1 then 0 else gi g 2 v := by
      show gi (ui (ui (ui (ua (ua g 0 (gs g 1) n) 1 (gs g 1) 1) 0 (gs g 1) y) 1 (gs g 1) y) 2 (gs g 1) 0) 2 v = _
      rw [gi_ui]
      by_cases c : v = gs g 1
      · rw [if_pos ⟨rfl, c⟩, if_pos c]
      · rw [if_neg (fun z => c z.2), if_neg c, gi_uif _ _ _ (by decide), gi_uif _ _ _ (by decide)]; rfl
    have f3 : ga (g_vertex n y g) 0 v = if v = gs g 1 then n else ga g 0 v := by
      show ga (ua (ua g 0 (gs g 1) n) 1 (gs g 1) 1) 0 v = _
      rw [ga_uaf _ _ _ (by decide), ga_ua]
      by_cases c : v = gs g 1
      · rw [if_pos ⟨rfl, c⟩, if_pos c]
      · rw [if_neg (fun z => c z.2), if_neg c]
    have f4 : ga (g_vertex n y g) 1 v = if v = gs g 1 then 1 else ga g 1 v := by
      show ga (ua (ua g 0 (gs g 1) n) 1 (gs g 1) 1) 1 v = _
      rw [ga_ua]
      by_cases c : v = gs g 1
      · rw [if_pos ⟨rfl, c⟩, if_pos c]
      · rw [if_neg (fun z => c z.2), if_neg c, ga_uaf _ _ _ (by decide)]
    rw [f0, f1, f2, f3, f4]
    by_cases c : v = gs g 1
    · subst c
      simp [mI_wI]
      decide
    · obtain ⟨z0, z1, z2, z3, z4⟩ := k2 v (by omega)
      simp [mI_wI, c, z0, z1, z2, z3, z4]
  · have := (k3.gr h hN (fun x a b => by omega)).gr h2 hN (fun x a b => by omega)
    unfold yA at this ⊢
    rw [a0 2 (by decide) (by decide), a0 3 (by decide) (by decide), i0]
    exact this
  · have := (k4.gr h hN (fun x a b => by omega)).gr h2 hN (fun x a b => by omega)
    unfold yN at this ⊢
    rw [a0 4 (by decide) (by decide), a0 5 (by decide) (by decide), a0 6 (by decide) (by decide)]
    exact this
  · rw [mI_wI, if_neg (by decide)]
    exact h.i (by omega) (by omega) k5.1
  · rw [mI_wI_n _ _ _ (by decide), ((h.2 115 (by omega)).2 (by omega)).1]
    exact (k7 m i hm' hi).1
theorem absM_arc {M : am_M} {g : tG} {a b : Nat} {w : Int32} (hN : 125 ≤ mN M) (k : absM M g) : absM (wI (wI (wI (wI M 99 (gs g 2) (nI a)) 100 (gs g 2) (nI b)) 101 (gs g 2) w) 93 2 (nI (gs g 2 + 1))) (g_arc a b w g) := by
  have h : am_gr (fun x => 99 ≤ x ∧ x ≤ 101) M (wI (wI (wI M 99 (gs g 2) (nI a)) 100 (gs g 2) (nI b)) 101 (gs g 2) w) := ((am_gr.wI _ _ (by decide)).tr (am_gr.wI _ _ (by decide))).tr (am_gr.wI _ _ (by decide))
  have h2 : am_gr (fun x => x = 93) (wI (wI (wI M 99 (gs g 2) (nI a)) 100 (gs g 2) (nI b)) 101 (gs g 2) w) (wI (wI (wI (wI M 99 (gs g 2) (nI a)) 100 (gs g 2) (nI b)) 101 (gs g 2) w) 93 2 (nI (gs g 2 + 1))) := am_gr.wI _ _ rfl
  obtain ⟨k1, k2, k3, k4, k5, k6, k7, k8⟩ := k
  have a0 : ∀ i, i ≠ 2 → i ≠ 3 → ga (g_arc a b w g) i = ga g i := fun i h0 h1 => by
    show ga (ua (ua g 2 (gs g 2) a) 3 (gs g 2) b) i = _
    rw [ga_uaf _ _ _ h1, ga_uaf _ _ _ h0]
  have i0 : ∀ i, i ≠ 3 → gi (g_arc a b w g) i = gi g i := fun i h0 => by
    show gi (ui (ua (ua g 2 (gs g 2) a) 3 (gs g 2) b) 3 (gs g 2) w) i = _
    rw [gi_uif _ _ _ h0]; rfl
  refine ⟨?_, ?_, fun v hv => ?_, ?_, ⟨?_, fun i t ht => ((k5.2 i t ht).gr h hN (fun x a b => by omega)).gr h2 hN (fun x a b => by omega)⟩, (k6.gr h hN (fun x a b => by omega)).gr h2 hN (fun x a b => by omega), (k7.gr h hN (fun x a b => by omega)).gr h2 hN (fun x a b => by omega), (k8.gr h hN (by omega) (by omega) (by omega)).gr h2 hN (by omega) (by omega) (by omega)⟩
  · exact yS_w (g := ui (ua (ua g 2 (gs g 2) a) 3 (gs g 2) b) 3 (gs g 2) w) (k1.gr h hN (by omega) (by omega)) (gs g 2 + 1) (Or.inr (Or.inr (Or.inl ⟨rfl, rfl⟩)))
  · have := (k2.gr h hN (fun x a b => by omega)).gr h2 hN (fun x a b => by omega)
    unfold yV at this ⊢
    rw [a0 0 (by decide) (by decide), a0 1 (by decide) (by decide), i0 0 (by decide), i0 1 (by decide), i0 2 (by decide)]
    exact this
  · have hv : v < gs g 2 + 1 := hv
    have f0 : ga (g_arc a b w g) 2 v = if v = gs g 2 then a else ga g 2 v := by
      show ga (ua (ua g 2 (gs g 2) a) 3 (gs g 2) b) 2 v = _
      rw [ga_uaf _ _ _ (by decide), ga_ua]
      by_cases c : v = gs g 2
      · rw [if_pos ⟨rfl, c⟩, if_pos c]
      · rw [if_neg (fun z => c z.2), if_neg c]
    have f1 : ga (g_arc a b w g) 3 v = if v = gs g 2 then b else ga g 3 v := by
      show ga (ua (ua g 2 (gs g 2) a) 3 (gs g 2) b) 3 v = _
      rw [ga_ua]
      by_cases c : v = gs g 2
      · rw [if_pos ⟨rfl, c⟩, if_pos c]
      · rw [if_neg (fun z => c z.2), if_neg c, ga_uaf _ _ _ (by decide)]
    have f2 : gi (g_arc a b w g) 3 v = if v = gs g 2 then w else gi g 3 v := by
      show gi (ui (ua (ua g 2 (gs g 2) a) 3 (gs g 2) b) 3 (gs g 2) w) 3 v = _
      rw [gi_ui]
      by_cases c : v = gs g 2
      · rw [if_pos ⟨rfl, c⟩, if_pos c]
      · rw [if_neg (fun z => c z.2), if_neg c]; rfl
    rw [f0, f1, f2]
    by_cases c : v = gs g 2
    · subst c
      simp [mI_wI]
    · obtain ⟨z0, z1, z2⟩ := k3 v (by omega)
      simp [mI_wI, c, z0, z1, z2]
  · have := (k4.gr h hN (fun x a b => by omega)).gr h2 hN (fun x a b => by omega)
    unfold yN at this ⊢
    rw [a0 4 (by decide) (by decide), a0 5 (by decide) (by decide), a0 6 (by decide) (by decide)]
    exact this
  · rw [mI_wI, if_neg (by decide)]
    exact h.i (by omega) (by omega) k5.1
theorem absM_new {N : am_M} {n : Nat} (h0 : mI N 93 0 = nI n) (hz : ∀ f, (1 ≤ f ∧ f ≤ 6) ∨ f = 18 ∨ f = 33 ∨ f = 34 → mI N 93 f = 0) (hc : ∀ k, k < 4 → mI N 119 k = 0) (hn : ∀ m, m < 5 → mI N 102 m = 0 ∧ mI N 103 m = 0 ∧ mI N 104 m = 0 ∧ mI N 115 (2 * m) = -1 ∧ mI N 115 (2 * m + 1) = -1) (hs : ∀ s, s < 160 → mI N 105 s = 0) (h118 : ∀ s, s < 160 → mI N 118 s = 0 ∨ mI N 118 s = 1) (h111 : ∀ s, s < 160 → ∃ j, j ≤ 40 ∧ mI N 111 s = nI j) : absM N (g_new n) := by
  refine ⟨⟨h0, hz 1 (by omega), hz 2 (by omega), hz 3 (by omega), hz 4 (by omega), hz 5 (by omega), hz 6 (by omega), hz 33 (by omega), hz 34 (by omega), fun k hk => ?_⟩, fun v hv => absurd hv (Nat.not_lt_zero _), fun v hv => absurd hv (Nat.not_lt_zero _), fun m hm => ⟨(hn m hm).1, (hn m hm).2.1, (hn m hm).2.2.1⟩, ⟨hz 18 (by omega), fun i t ht => by cases ht⟩, fun m o w hm ho hw => ⟨hs _ (by omega), hs _ (by omega)⟩, fun m i hm hi => ⟨?_, fun z => absurd rfl z⟩, fun s h => Or.inl (hs s h), h118, h111⟩
  · rw [hc k hk]
    show 0 = nI (if 9 + k = 0 then n else 0)
    rw [if_neg (by omega)]
    rfl
  · rcases (show i = 0 ∨ i = 1 by omega) with rfl | rfl
    · exact (hn m hm).2.2.2.1
    · exact (hn m hm).2.2.2.2
theorem absM_forget {M : am_M} {g : tG} {n : Nat} (hN : 125 ≤ mN M) (hB : gB g) (hA : absM M g) (hn : n < 5) : absM (wF M 105 (fg n 10 (mI M 105))) (g_forget n g) := by
  have e : ∀ s, mI (wF M 105 (fg n 10 (mI M 105))) 105 s = if (110 + 10 * n ≤ s ∧ s < 110 + 10 * n + 10) ∨ (60 + 10 * n ≤ s ∧ s < 60 + 10 * n + 10) then 0 else mI M 105 s := fun s => by rw [mI_wF_s]; rfl
  have h : sfr (fun s => (110 + 10 * n ≤ s ∧ s < 110 + 10 * n + 10) ∨ (60 + 10 * n ≤ s ∧ s < 60 + 10 * n + 10)) M (wF M 105 (fg n 10 (mI M 105))) := by
    refine ⟨⟨rfl, rfl, rfl, fun x hx => mI_wF_n _ _ (fun z => hx (by show 105 ≤ x ∧ x ≤ 114; omega))⟩, fun s hs => ⟨fun x h1 h2 => ?_, fun x j h1 h2 h3 => by rw [mI_wF_n _ _ (by omega)]⟩⟩
    by_cases c : x = 105
    · rw [c, e, if_neg hs]
    · rw [mI_wF_n _ _ c]
  have hz := hA.2.2.2.2.2.2.2
  have hl := hB.2.2.2.2.2.2.2.2.2.2.2.2.2.1
  refine absM_slots hN hA h ⟨fun s hs => ?_, fun s hs => ?_, fun s hs => ?_⟩ (gn g) (gl (g_forget n g)) rfl (fun i t ht => ?_) (fun m o w hm ho hw => ?_)
  · rw [e]
    split
    · exact Or.inl rfl
    · exact hz.1 s hs
  · rw [mI_wF_n _ _ (by decide)]; exact hz.2.1 s hs
  · rw [mI_wF_n _ _ (by decide)]; exact hz.2.2 s hs
  · have hi := (List.getElem?_eq_some_iff.mp ht).1
    exact (hA.2.2.2.2.1.2 i t ht).sf h (by show ¬ (_ ∨ _); omega) (gB_lenN hB ht)
  · show yO _ _ (if m = n then none else gl g w m o) ∧ yO _ _ (if m = n then none else gl g (2 + w) m o)
    by_cases c : m = n
    · subst c
      rw [if_pos rfl, if_pos rfl]
      constructor
      · show mI _ 105 _ = 0
        rw [e, if_pos (by omega)]
      · show mI _ 105 _ = 0
        rw [e, if_pos (by omega)]
    · rw [if_neg c, if_neg c]
      obtain ⟨z1, z2⟩ := hA.2.2.2.2.2.1 m o w hm ho hw
      exact ⟨z1.sf h (by show ¬ (_ ∨ _); omega) (gB_len hB), z2.sf h (by show ¬ (_ ∨ _); omega) (gB_len hB)⟩
