/-! THE CLASS'S CELLS BEHIND A CALL -/
theorem i32_nle {a b : Int32} (h : b < a) : ¬ a ≤ b := Int32.not_le.mpr h
theorem i32_le {a b : Int32} (h : ¬ b < a) : a ≤ b := Int32.not_lt.mp h
theorem absX_S {M M' : am_M} {g : tG} {s : Nat → Nat} (hN : 125 ≤ mN M) (k : absX M g) (h : am_gr (fun x => x = 1 ∨ x = 2 ∨ x = 27) M M') (h1 : s 1 = gs g 1) (h2 : s 2 = gs g 2) (hs : xS M' (s, g.2)) : absX M' (s, g.2) := by
  obtain ⟨-, k2, k3, k4, k5, k6, k7, k8⟩ := k
  have nl : ∀ x, 126 ≤ x → x ≤ mN M → ¬ (x = 1 ∨ x = 2 ∨ x = 27) := fun x a b e => by omega
  refine ⟨hs, ?_, ?_, k4.gr h hN (fun m hm => by omega), k5.gr h hN (by omega) (by omega) nl, k6.gr h hN (fun m hm => by omega) (fun m hm => by omega) nl, ?_, k8.gr h hN (fun m j hm h1 h2 => by omega)⟩
  · have := k2.gr h hN (by omega) (by omega) (by omega) (by omega) (by omega)
    intro v hv
    exact this v (h1 ▸ hv)
  · have := k3.gr h hN (by omega) (by omega) (by omega)
    intro v hv
    exact this v (h2 ▸ hv)
  · have := k7.gr h hN (fun m hm => by omega) (fun m j hm h1 h2 => by omega)
    intro m hm
    obtain ⟨p, q, e1, e2, e3, e4, e5⟩ := this m hm
    exact ⟨p, q, e1, e2, e3, ⟨e4.1, fun z v hv => e4.2 z v (h1 ▸ hv)⟩, ⟨e5.1, fun z v hv => e5.2 z v (h1 ▸ hv)⟩⟩
theorem absX_s3 {M : am_M} {g : tG} (hN : 125 ≤ mN M) (k : absX M g) (w : Nat) : absX (wI M 2 7 (nI w)) (us g 3 w) := by
  refine absX_S hN k (am_gr.wI 7 (nI w) (by decide)) rfl rfl ?_
  obtain ⟨s1, s2, s3, s4, s5, s6, s7, s8, s9, s10⟩ := k.1
  show xS (wI M 2 7 (nI w)) (us g 3 w)
  refine ⟨?_, ?_, ?_, ?_, ?_, ?_, ?_, ?_, ?_, fun j hj => ?_⟩ <;> simp only [mI_wI, gs_us]
  · simpa using s1
  · simpa using s2
  · simpa using s3
  · simp
  · simpa using s5
  · simpa using s6
  · simpa using s7
  · simpa using s8
  · simpa using s9
  · have : ¬ 9 + j = 3 := by omega
    simpa [this] using s10 j hj
theorem absX_s4 {M : am_M} {g : tG} (hN : 125 ≤ mN M) (k : absX M g) (w : Nat) : absX (wI M 1 10 (nI w)) (us g 4 w) := by
  refine absX_S hN k (am_gr.wI 10 (nI w) (by decide)) rfl rfl ?_
  obtain ⟨s1, s2, s3, s4, s5, s6, s7, s8, s9, s10⟩ := k.1
  show xS (wI M 1 10 (nI w)) (us g 4 w)
  refine ⟨?_, ?_, ?_, ?_, ?_, ?_, ?_, ?_, ?_, fun j hj => ?_⟩ <;> simp only [mI_wI, gs_us]
  · simpa using s1
  · simpa using s2
  · simpa using s3
  · simpa using s4
  · simp
  · simpa using s6
  · simpa using s7
  · simpa using s8
  · simpa using s9
  · have : ¬ 9 + j = 4 := by omega
    simpa [this] using s10 j hj
theorem absX_s5 {M : am_M} {g : tG} (hN : 125 ≤ mN M) (k : absX M g) (w : Nat) : absX (wI M 1 9 (nI w)) (us g 5 w) := by
  refine absX_S hN k (am_gr.wI 9 (nI w) (by decide)) rfl rfl ?_
  obtain ⟨s1, s2, s3, s4, s5, s6, s7, s8, s9, s10⟩ := k.1
  show xS (wI M 1 9 (nI w)) (us g 5 w)
  refine ⟨?_, ?_, ?_, ?_, ?_, ?_, ?_, ?_, ?_, fun j hj => ?_⟩ <;> simp only [mI_wI, gs_us]
  · simpa using s1
  · simpa using s2
  · simpa using s3
  · simpa using s4
  · simpa using s5
  · simp
  · simpa using s7
  · simpa using s8
  · simpa using s9
  · have : ¬ 9 + j = 5 := by omega
    simpa [this] using s10 j hj
theorem absX_s6 {M : am_M} {g : tG} (hN : 125 ≤ mN M) (k : absX M g) (w : Nat) : absX (wI M 1 11 (nI w)) (us g 6 w) := by
  refine absX_S hN k (am_gr.wI 11 (nI w) (by decide)) rfl rfl ?_
  obtain ⟨s1, s2, s3, s4, s5, s6, s7, s8, s9, s10⟩ := k.1
  show xS (wI M 1 11 (nI w)) (us g 6 w)
  refine ⟨?_, ?_, ?_, ?_, ?_, ?_, ?_, ?_, ?_, fun j hj => ?_⟩ <;> simp only [mI_wI, gs_us]
  · simpa using s1
  · simpa using s2
  · simpa using s3
  · simpa using s4
  · simpa using s5
  · simpa using s6
  · simp
  · simpa using s8
  · simpa using s9
  · have : ¬ 9 + j = 6 := by omega
    simpa [this] using s10 j hj
theorem absX_s7 {M : am_M} {g : tG} (hN : 125 ≤ mN M) (k : absX M g) (w : Nat) : absX (wI M 1 12 (nI w)) (us g 7 w) := by
  refine absX_S hN k (am_gr.wI 12 (nI w) (by decide)) rfl rfl ?_
  obtain ⟨s1, s2, s3, s4, s5, s6, s7, s8, s9, s10⟩ := k.1
  show xS (wI M 1 12 (nI w)) (us g 7 w)
  refine ⟨?_, ?_, ?_, ?_, ?_, ?_, ?_, ?_, ?_, fun j hj => ?_⟩ <;> simp only [mI_wI, gs_us]
  · simpa using s1
  · simpa using s2
  · simpa using s3
  · simpa using s4
  · simpa using s5
  · simpa using s6
  · simpa using s7
  · simp
  · simpa using s9
  · have : ¬ 9 + j = 7 := by omega
    simpa [this] using s10 j hj
theorem absX_cnt {M : am_M} {g : tG} (hN : 125 ≤ mN M) (k : absX M g) {i : Nat} (hi : i < 4) (w : Nat) : absX (wI M 27 i (nI w)) (us g (9 + i) w) := by
  have e : ∀ j, j < 9 → gs (us g (9 + i) w) j = gs g j := fun j hj => by rw [gs_us, if_neg (by omega)]
  refine absX_S hN k (am_gr.wI i (nI w) (by decide)) (e 1 (by decide)) (e 2 (by decide)) ?_
  obtain ⟨s1, s2, s3, s4, s5, s6, s7, s8, s9, s10⟩ := k.1
  have d : ∀ a j, a ≠ 27 → mI (wI M 27 i (nI w)) a j = mI M a j := fun a j ha => by rw [mI_wI, if_neg (fun z => ha z.1)]
  show xS (wI M 27 i (nI w)) (us g (9 + i) w)
  refine ⟨?_, ?_, ?_, ?_, ?_, ?_, ?_, ?_, ?_, fun j hj => ?_⟩
  · rw [d 1 8 (by decide), e 0 (by decide)]; exact s1
  · rw [d 2 5 (by decide), e 1 (by decide)]; exact s2
  · rw [d 2 6 (by decide), e 2 (by decide)]; exact s3
  · rw [d 2 7 (by decide), e 3 (by decide)]; exact s4
  · rw [d 1 10 (by decide), e 4 (by decide)]; exact s5
  · rw [d 1 9 (by decide), e 5 (by decide)]; exact s6
  · rw [d 1 11 (by decide), e 6 (by decide)]; exact s7
  · rw [d 1 12 (by decide), e 7 (by decide)]; exact s8
  · rw [d 1 13 (by decide), e 8 (by decide)]; exact s9
  · rw [mI_wI, gs_us]
    by_cases c : j = i
    · rw [if_pos ⟨rfl, c⟩, if_pos (by omega)]
    · rw [if_neg (fun z => c z.2), if_neg (by omega)]
      exact s10 j hj
def nclr (N : am_M) (m : Nat) : Prop := mI N (28 + 13 * m) 4 = 0 ∧ mI N (28 + 13 * m) 5 = 0 ∧ mI N (28 + 13 * m) 6 = 0 ∧ (∀ j, j < 10 → mR N (28 + 13 * m + 1) j = none ∧ mR N (28 + 13 * m + 2) j = none) ∧ ∃ p q, mR N (28 + 13 * m) 2 = some p ∧ mR N (28 + 13 * m) 3 = some q ∧ ((p = 28 + 13 * m + 3 ∧ q = 28 + 13 * m + 8) ∨ (p = 28 + 13 * m + 8 ∧ q = 28 + 13 * m + 3)) ∧ mI N p 1 = -1 ∧ mI N q 1 = -1
def mks (N : am_M) (m : Nat) : Prop := ∃ p q, mR N (28 + 13 * m) 2 = some p ∧ mR N (28 + 13 * m) 3 = some q ∧ ((p = 28 + 13 * m + 3 ∧ q = 28 + 13 * m + 8) ∨ (p = 28 + 13 * m + 8 ∧ q = 28 + 13 * m + 3))
theorem nclr.gr {S : Nat → Prop} {N N' : am_M} {m : Nat} (h : am_gr S N N') (hN : 125 ≤ mN N) (hm : m < 5) (hS : ∀ x, 28 + 13 * m ≤ x → x ≤ 28 + 13 * m + 12 → ¬ S x) (k : nclr N m) : nclr N' m := by
  obtain ⟨a1, a2, a3, a4, p, q, a5, a6, a7, a8, a9⟩ := k
  have z0 := hS (28 + 13 * m) (by omega) (by omega)
  refine ⟨h.i (by omega) z0 a1, h.i (by omega) z0 a2, h.i (by omega) z0 a3, fun j hj => ⟨h.r (by omega) (hS _ (by omega) (by omega)) (a4 j hj).1, h.r (by omega) (hS _ (by omega) (by omega)) (a4 j hj).2⟩, p, q, h.r (by omega) z0 a5, h.r (by omega) z0 a6, a7, h.i (by omega) (hS _ (by omega) (by omega)) a8, h.i (by omega) (hS _ (by omega) (by omega)) a9⟩
theorem mks.gr {S : Nat → Prop} {N N' : am_M} {m : Nat} (h : am_gr S N N') (hN : 125 ≤ mN N) (hm : m < 5) (hS : ¬ S (28 + 13 * m)) (k : mks N m) : mks N' m := by
  obtain ⟨p, q, a5, a6, a7⟩ := k
  exact ⟨p, q, h.r (by omega) hS a5, h.r (by omega) hS a6, a7⟩
def w_clr (N : am_M) (i p q : Nat) : am_M := wI (wI (wI (wI (wI (wQ (wQ N (28 + 13 * i + 1) (fl (mR N (28 + 13 * i + 1)) 10 none)) (28 + 13 * i + 2) (fl (mR N (28 + 13 * i + 2)) 10 none)) p 1 (-1)) q 1 (-1)) (28 + 13 * i) 4 0) (28 + 13 * i) 5 0) (28 + 13 * i) 6 0
theorem w_clr_R (N : am_M) (i p q x j : Nat) : mR (w_clr N i p q) x j = if x = 28 + 13 * i + 2 then fl (mR N (28 + 13 * i + 2)) 10 none j else if x = 28 + 13 * i + 1 then fl (mR N (28 + 13 * i + 1)) 10 none j else mR N x j := by
  show mR (wQ (wQ N (28 + 13 * i + 1) (fl (mR N (28 + 13 * i + 1)) 10 none)) (28 + 13 * i + 2) (fl (mR N (28 + 13 * i + 2)) 10 none)) x j = _
  rw [mR_wQ, mR_wQ]
  split
  · rfl
  · split <;> rfl
theorem nclr_step {N : am_M} {i p q : Nat} (hi : i < 5) (h2 : mR N (28 + 13 * i) 2 = some p) (h3 : mR N (28 + 13 * i) 3 = some q) (hpq : (p = 28 + 13 * i + 3 ∧ q = 28 + 13 * i + 8) ∨ (p = 28 + 13 * i + 8 ∧ q = 28 + 13 * i + 3)) : nclr (w_clr N i p q) i ∧ am_gr (fun x => 28 + 13 * i ≤ x ∧ x ≤ 28 + 13 * i + 12) N (w_clr N i p q) ∧ (xZ N → xZ (w_clr N i p q)) ∧ mR (w_clr N i p q) (28 + 13 * i) = mR N (28 + 13 * i) := by
  have hR : mR (w_clr N i p q) (28 + 13 * i) = mR N (28 + 13 * i) := by
    funext j
    rw [w_clr_R, if_neg (by omega), if_neg (by omega)]
  have hI : ∀ x, x ≠ p → x ≠ q → x ≠ 28 + 13 * i → mI (w_clr N i p q) x = mI N x := fun x a b c => by
    unfold w_clr
    rw [mI_wI_n _ _ _ c, mI_wI_n _ _ _ c, mI_wI_n _ _ _ c, mI_wI_n _ _ _ b, mI_wI_n _ _ _ a, mI_wQ, mI_wQ]
  refine ⟨⟨?_, ?_, ?_, fun j hj => ⟨?_, ?_⟩, p, q, ?_, ?_, hpq, ?_, ?_⟩, ?_, fun z n hn v hv => ?_, hR⟩
  · unfold w_clr; simp [mI_wI]
  · unfold w_clr; simp [mI_wI]
  · unfold w_clr; simp [mI_wI]
  · rw [w_clr_R, if_neg (by omega), if_pos rfl]; simp [fl, hj]
  · rw [w_clr_R, if_pos rfl]; simp [fl, hj]
  · rw [hR]; exact h2
  · rw [hR]; exact h3
  · unfold w_clr
    rw [mI_wI_n _ _ _ (by omega), mI_wI_n _ _ _ (by omega), mI_wI_n _ _ _ (by omega), mI_wI_n _ _ _ (by omega), mI_wI_s, va_up_self]
  · unfold w_clr
    rw [mI_wI_n _ _ _ (by omega), mI_wI_n _ _ _ (by omega), mI_wI_n _ _ _ (by omega), mI_wI_s, va_up_self]
  · unfold w_clr
    exact (((((((am_gr.wQ _ (by show _ ∧ _; omega)).tr (am_gr.wQ _ (by show _ ∧ _; omega))).tr (am_gr.wI _ _ (by show _ ∧ _; omega))).tr (am_gr.wI _ _ (by show _ ∧ _; omega))).tr (am_gr.wI _ _ (by show _ ∧ _; omega))).tr (am_gr.wI _ _ (by show _ ∧ _; omega))).tr (am_gr.wI _ _ (by show _ ∧ _; omega)))
  · rw [hI _ (by omega) (by omega) (by omega), hI _ (by omega) (by omega) (by omega)]
    exact z n hn v hv
theorem absX_new {M : am_M} {n : Nat} (a0 : mI M 1 8 = nI n) (a1 : mI M 2 5 = 0) (a2 : mI M 2 6 = 0) (a3 : mI M 2 7 = 0) (a4 : mI M 1 10 = 0) (a5 : mI M 1 9 = 0) (a6 : mI M 1 11 = 0) (a7 : mI M 1 12 = 0) (a8 : mI M 1 13 = 0) (a9 : ∀ k, k < 4 → mI M 27 k = 0) (b1 : mI M 24 1 = 0) (b2 : ∀ m, m < 5 → nclr M m) (b3 : xZ M) : absX M (g_new n) := by
  refine ⟨⟨a0, a1, a2, a3, a4, a5, a6, a7, a8, fun k hk => ?_⟩, fun v hv => absurd (show v < 0 from hv) (by omega), fun v hv => absurd (show v < 0 from hv) (by omega), fun m hm => ?_, ⟨b1, Nat.zero_le _, fun i t ht => ?_⟩, fun m o w hm ho hw => ?_, fun m hm => ?_, b3⟩
  · show _ = nI (if 9 + k = 0 then n else 0)
    rw [if_neg (by omega)]
    exact a9 k hk
  · exact ⟨(b2 m hm).1, (b2 m hm).2.1, (b2 m hm).2.2.1⟩
  · have : ([] : List tL)[i]? = some t := ht
    simp at this
  · show isO M (mR M (28 + 13 * m + 1) ((0 + w) % 2 * 5 + o)) none ∧ isO M (mR M (28 + 13 * m + 2) ((0 + 1 + w) % 2 * 5 + o)) none
    rw [((b2 m hm).2.2.2.1 _ (by omega)).1, ((b2 m hm).2.2.2.1 _ (by omega)).2]
    exact ⟨trivial, trivial⟩
  · obtain ⟨p, q, e1, e2, e3, e4, e5⟩ := (b2 m hm).2.2.2.2
    exact ⟨p, q, e1, e2, e3, ⟨e4, fun z => absurd rfl z⟩, ⟨e5, fun z => absurd rfl z⟩⟩
def w_vert (M : am_M) (v : Nat) (a b : Int32) : am_M := wI (wI (wI (wI (wI (wI M 3 v a) 4 v b) 2 5 (nI (v + 1))) 9 v b) 10 v 0) 11 v 1
theorem absX_vertex {M : am_M} {g : tG} {n : Nat} {y : Int32} (hN : 125 ≤ mN M) (k : absX M g) (hm : ∀ n i, gm g n i = none) : absX (w_vert M (gs g 1) (nI n) y) (g_vertex n y g) ∧ am_gr (fun x => x ≤ 11) M (w_vert M (gs g 1) (nI n) y) := by
  have h : am_gr (fun x => x = 2 ∨ x = 3 ∨ x = 4 ∨ x = 9 ∨ x = 10 ∨ x = 11) M (w_vert M (gs g 1) (nI n) y) := ((((((am_gr.wI _ _ (by decide)).tr (am_gr.wI _ _ (by decide))).tr (am_gr.wI _ _ (by decide))).tr (am_gr.wI _ _ (by decide))).tr (am_gr.wI _ _ (by decide))).tr (am_gr.wI _ _ (by decide)))
  obtain ⟨⟨s1, s2, s3, s4, s5, s6, s7, s8, s9, s10⟩, k2, k3, k4, k5, k6, k7, k8⟩ := k
  have nl : ∀ x, 126 ≤ x → x ≤ mN M → ¬ (x = 2 ∨ x = 3 ∨ x = 4 ∨ x = 9 ∨ x = 10 ∨ x = 11) := fun x a b e => by omega
  refine ⟨⟨⟨?_, ?_, ?_, ?_, ?_, ?_, ?_, ?_, ?_, fun j hj => ?_⟩, fun v hv => ?_, ?_, k4.gr h hN (fun m hm => by omega), k5.gr h hN (by omega) (by omega) nl, k6.gr h hN (fun m hm => by omega) (fun m hm => by omega) nl, ?_, k8.gr h hN (fun m j hm h1 h2 => by omega)⟩, h.wd (fun x _ e => by show x ≤ 11; omega)⟩
  · exact h.i (by omega) (by omega) s1
  · show mI (w_vert M (gs g 1) (nI n) y) 2 5 = nI (gs g 1 + 1)
    simp [w_vert, mI_wI]
  · show mI (w_vert M (gs g 1) (nI n) y) 2 6 = nI (gs g 2)
    rw [← s3]
    simp [w_vert, mI_wI]
  · show mI (w_vert M (gs g 1) (nI n) y) 2 7 = nI (gs g 3)
    rw [← s4]
    simp [w_vert, mI_wI]
  · exact h.i (by omega) (by omega) s5
  · exact h.i (by omega) (by omega) s6
  · exact h.i (by omega) (by omega) s7
  · exact h.i (by omega) (by omega) s8
  · exact h.i (by omega) (by omega) s9
  · have e : gs (g_vertex n y g) (9 + j) = gs g (9 + j) := by show (if 9 + j = 1 then _ else gs g (9 + j)) = _; rw [if_neg (by omega)]
    rw [e]
    exact h.i (by omega) (by omega) (s10 j hj)
  · have hv2 : v < gs g 1 + 1 := hv
    show mI (w_vert M (gs g 1) (nI n) y) 3 v = nI (ga (ua (ua g 0 (gs g 1) n) 1 (gs g 1) 1) 0 v) ∧ mI (w_vert M (gs g 1) (nI n) y) 4 v = gi (ui (ui (ui g 0 (gs g 1) y) 1 (gs g 1) y) 2 (gs g 1) 0) 0 v ∧ mI (w_vert M (gs g 1) (nI n) y) 9 v = gi (ui (ui (ui g 0 (gs g 1) y) 1 (gs g 1) y) 2 (gs g 1) 0) 1 v ∧ mI (w_vert M (gs g 1) (nI n) y) 10 v = gi (ui (ui (ui g 0 (gs g 1) y) 1 (gs g 1) y) 2 (gs g 1) 0) 2 v ∧ mI (w_vert M (gs g 1) (nI n) y) 11 v = nI (ga (ua (ua g 0 (gs g 1) n) 1 (gs g 1) 1) 1 v)
    by_cases c : v = gs g 1
    · rw [c]
      simp [w_vert, mI_wI, ga_ua, gi_ui]
      decide
    · obtain ⟨t1, t2, t3, t4, t5⟩ := k2 v (by omega)
      simp [w_vert, mI_wI, ga_ua, gi_ui, c, t1, t2, t3, t4, t5]
  · have := k3.gr h hN (by omega) (by omega) (by omega)
    intro a ha
    obtain ⟨t1, t2, t3⟩ := this a ha
    show _ = nI (ga (ua (ua g 0 (gs g 1) n) 1 (gs g 1) 1) 2 a) ∧ _ = nI (ga (ua (ua g 0 (gs g 1) n) 1 (gs g 1) 1) 3 a) ∧ _ = gi (ui (ui (ui g 0 (gs g 1) y) 1 (gs g 1) y) 2 (gs g 1) 0) 3 a
    simp [ga_ua, gi_ui, t1, t2, t3]
  · have := k7.gr h hN (fun m hm => by omega) (fun m j hm h1 h2 => by omega)
    intro m hm2
    obtain ⟨p, q, e1, e2, e3, e4, e5⟩ := this m hm2
    exact ⟨p, q, e1, e2, e3, ⟨e4.1, fun z => absurd (hm m 1) z⟩, ⟨e5.1, fun z => absurd (hm m 0) z⟩⟩
def w_arc (M : am_M) (i : Nat) (a b w : Int32) : am_M := wI (wI (wI (wI M 5 i a) 6 i b) 7 i w) 2 6 (nI (i + 1))
theorem absX_arc {M : am_M} {g : tG} {a b : Nat} {w : Int32} (hN : 125 ≤ mN M) (k : absX M g) : absX (w_arc M (gs g 2) (nI a) (nI b) w) (g_arc a b w g) ∧ am_gr (fun x => x ≤ 11) M (w_arc M (gs g 2) (nI a) (nI b) w) := by
  have h : am_gr (fun x => x = 2 ∨ x = 5 ∨ x = 6 ∨ x = 7) M (w_arc M (gs g 2) (nI a) (nI b) w) := ((((am_gr.wI _ _ (by decide)).tr (am_gr.wI _ _ (by decide))).tr (am_gr.wI _ _ (by decide))).tr (am_gr.wI _ _ (by decide)))
  obtain ⟨⟨s1, s2, s3, s4, s5, s6, s7, s8, s9, s10⟩, k2, k3, k4, k5, k6, k7, k8⟩ := k
  have nl : ∀ x, 126 ≤ x → x ≤ mN M → ¬ (x = 2 ∨ x = 5 ∨ x = 6 ∨ x = 7) := fun x a b e => by omega
  have e0 : ∀ i, i ≠ 2 → i ≠ 3 → ga (g_arc a b w g) i = ga g i := fun i h1 h2 => (ga_uaf (ua g 2 (gs g 2) a) (gs g 2) b h2).trans (ga_uaf g (gs g 2) a h1)
  have e1 : ∀ i, i ≠ 3 → gi (g_arc a b w g) i = gi g i := fun i h1 => gi_uif g (gs g 2) w h1
  refine ⟨⟨⟨?_, ?_, ?_, ?_, ?_, ?_, ?_, ?_, ?_, fun j hj => ?_⟩, ?_, fun v hv => ?_, ?_, k5.gr h hN (by omega) (by omega) nl, ?_, ?_, k8.gr h hN (fun m j hm h1 h2 => by omega)⟩, h.wd (fun x _ e => by show x ≤ 11; omega)⟩
  · exact h.i (by omega) (by omega) s1
  · show mI (w_arc M (gs g 2) (nI a) (nI b) w) 2 5 = nI (gs g 1)
    rw [← s2]
    simp [w_arc, mI_wI]
  · show mI (w_arc M (gs g 2) (nI a) (nI b) w) 2 6 = nI (gs g 2 + 1)
    simp [w_arc, mI_wI]
  · show mI (w_arc M (gs g 2) (nI a) (nI b) w) 2 7 = nI (gs g 3)
    rw [← s4]
    simp [w_arc, mI_wI]
  · exact h.i (by omega) (by omega) s5
  · exact h.i (by omega) (by omega) s6
  · exact h.i (by omega) (by omega) s7
  · exact h.i (by omega) (by omega) s8
  · exact h.i (by omega) (by omega) s9
  · have e : gs (g_arc a b w g) (9 + j) = gs g (9 + j) := by show (if 9 + j = 2 then _ else gs g (9 + j)) = _; rw [if_neg (by omega)]
    rw [e]
    exact h.i (by omega) (by omega) (s10 j hj)
  · have := k2.gr h hN (by omega) (by omega) (by omega) (by omega) (by omega)
    intro v hv
    rw [e0 0 (by decide) (by decide), e0 1 (by decide) (by decide), e1 0 (by decide), e1 1 (by decide), e1 2 (by decide)]
    exact this v hv
  · have hv2 : v < gs g 2 + 1 := hv
    show mI (w_arc M (gs g 2) (nI a) (nI b) w) 5 v = nI (ga (ua (ua g 2 (gs g 2) a) 3 (gs g 2) b) 2 v) ∧ mI (w_arc M (gs g 2) (nI a) (nI b) w) 6 v = nI (ga (ua (ua g 2 (gs g 2) a) 3 (gs g 2) b) 3 v) ∧ mI (w_arc M (gs g 2) (nI a) (nI b) w) 7 v = gi (ui g 3 (gs g 2) w) 3 v
    by_cases c : v = gs g 2
    · rw [c]
      simp [w_arc, mI_wI, ga_ua, gi_ui]
    · obtain ⟨t1, t2, t3⟩ := k3 v (by omega)
      simp [w_arc, mI_wI, ga_ua, gi_ui, c, t1, t2, t3]
  · have := k4.gr h hN (fun m hm => by omega)
    intro m hm
    rw [e0 4 (by decide) (by decide), e0 5 (by decide) (by decide), e0 6 (by decide) (by decide)]
    exact this m hm
  · have := k6.gr h hN (fun m hm => by omega) (fun m hm => by omega) nl
    intro m q u hm hq hu
    rw [e0 4 (by decide) (by decide)]
    exact this m q u hm hq hu
  · have := k7.gr h hN (fun m hm => by omega) (fun m j hm h1 h2 => by omega)
    intro m hm2
    obtain ⟨p, q, e1, e2, e3, e4, e5⟩ := this m hm2
    refine ⟨p, q, e1, e2, e3, ⟨e4.1, fun z v hv hh => ?_⟩, ⟨e5.1, fun z v hv hh => ?_⟩⟩
    · rw [e0 0 (by decide) (by decide)] at hh
      exact e4.2 z v hv hh
    · rw [e0 0 (by decide) (by decide)] at hh
      exact e5.2 z v hv hh
/-- a letter goes out of the net -/
theorem absX_out {M : am_M} {g : tG} {i : Nat} (hN : 125 ≤ mN M) (k : absX M g) (hi : i < (gn g).length) : absX (wR (wI (wQ M 25 (sft (mR M 25) i (gn g).length)) 24 1 (nI ((gn g).length - 1))) 25 ((gn g).length - 1) none) (g_out i g) ∧ am_gr (fun x => x = 24 ∨ x = 25) M (wR (wI (wQ M 25 (sft (mR M 25) i (gn g).length)) 24 1 (nI ((gn g).length - 1))) 25 ((gn g).length - 1) none) := by
  have h : am_gr (fun x => x = 24 ∨ x = 25) M (wR (wI (wQ M 25 (sft (mR M 25) i (gn g).length)) 24 1 (nI ((gn g).length - 1))) 25 ((gn g).length - 1) none) := ((am_gr.wQ _ (Or.inr rfl)).tr (am_gr.wI _ _ (Or.inl rfl))).tr (am_gr.wR _ _ (Or.inr rfl))
  obtain ⟨k1, k2, k3, k4, k5, k6, k7, k8⟩ := k
  have nl : ∀ x, 126 ≤ x → x ≤ mN M → ¬ (x = 24 ∨ x = 25) := fun x a b e => by omega
  have hl : (gn (g_out i g)).length = (gn g).length - 1 := by
    show ((gn g).eraseIdx i).length = _
    rw [List.length_eraseIdx, if_pos hi]
  refine ⟨⟨k1.gr h hN (by omega) (by omega) (by omega), k2.gr h hN (by omega) (by omega) (by omega) (by omega) (by omega), k3.gr h hN (by omega) (by omega) (by omega), k4.gr h hN (fun m hm => by omega), ⟨?_, by have := k5.2.1; omega, fun j t hj => ?_⟩, k6.gr h hN (fun m hm => by omega) (fun m hm => by omega) nl, k7.gr h hN (fun m hm => by omega) (fun m j hm h1 h2 => by omega), k8.gr h hN (fun m j hm h1 h2 => by omega)⟩, h⟩
  · rw [hl]
    show mI (wI (wQ M 25 (sft (mR M 25) i (gn g).length)) 24 1 (nI ((gn g).length - 1))) 24 1 = _
    rw [mI_wI_s, va_up_self]
  · have hj1 : ((gn g).eraseIdx i)[j]? = some t := hj
    have hjl : j < (gn g).length - 1 := by
      have := (List.getElem?_eq_some_iff.mp hj).1
      omega
    rw [List.getElem?_eraseIdx] at hj1
    have e : mR (wR (wI (wQ M 25 (sft (mR M 25) i (gn g).length)) 24 1 (nI ((gn g).length - 1))) 25 ((gn g).length - 1) none) 25 j = sft (mR M 25) i (gn g).length j := by
      rw [mR_wR, if_neg (by omega), mR_wI, mR_wQ, if_pos rfl]
    rw [e]
    by_cases c : j < i
    · rw [if_pos c] at hj1
      obtain ⟨a, e1, e2⟩ := k5.2.2 j t hj1
      exact ⟨a, by rw [sft, if_neg (by omega)]; exact e1, e2.gr h nl⟩
    · rw [if_neg c] at hj1
      obtain ⟨a, e1, e2⟩ := k5.2.2 (j + 1) t hj1
      exact ⟨a, by rw [sft, if_pos (by omega)]; exact e1, e2.gr h nl⟩
/-- a letter is held -/
theorem absX_held {M : am_M} {g : tG} (hN : 125 ≤ mN M) (k : absX M g) {n o a w : Nat} {t : tL} (hn : n < 5) (ho : o < 5) (hw : w < 2) (ht : isL M a t) : absX (wR M (28 + 13 * n + 1) ((ga g 4 n + w) % 2 * 5 + o) (some a)) (ul g (l_set (gl g) w n o (some t))) ∧ am_gr (fun x => x = 28 + 13 * n + 1) M (wR M (28 + 13 * n + 1) ((ga g 4 n + w) % 2 * 5 + o) (some a)) := by
  obtain ⟨k1, k2, k3, k4, k5, k6, k7, k8⟩ := k
  have h : am_gr (fun x => x = 28 + 13 * n + 1) M (wR M (28 + 13 * n + 1) ((ga g 4 n + w) % 2 * 5 + o) (some a)) := am_gr.wR _ _ rfl
  have nl : ∀ x, 126 ≤ x → x ≤ mN M → ¬ x = 28 + 13 * n + 1 := fun x h1 h2 e => by omega
  refine ⟨⟨k1.gr h hN (by omega) (by omega) (by omega), k2.gr h hN (by omega) (by omega) (by omega) (by omega) (by omega), k3.gr h hN (by omega) (by omega) (by omega), k4.gr h hN (fun m hm => by omega), k5.gr h hN (by omega) (by omega) nl, ?_, k7.gr h hN (fun m hm => by omega) (fun m j hm h1 h2 => by omega), k8.gr h hN (fun m j hm h1 h2 => by omega)⟩, h⟩
  intro m q u hm hq hu
  obtain ⟨e1, e2⟩ := k6 m q u hm hq hu
  refine ⟨?_, ?_⟩
  · show isO _ (mR (wR M (28 + 13 * n + 1) ((ga g 4 n + w) % 2 * 5 + o) (some a)) (28 + 13 * m + 1) ((ga g 4 m + u) % 2 * 5 + q)) (if u = w ∧ m = n ∧ q = o then some t else gl g u m q)
    by_cases c : m = n ∧ q = o ∧ u = w
    · obtain ⟨rfl, rfl, rfl⟩ := c
      rw [mR_wR, if_pos ⟨rfl, rfl⟩, if_pos ⟨rfl, rfl, rfl⟩]
      exact ht.gr h nl
    · have c2 : ¬ (u = w ∧ m = n ∧ q = o) := fun e => c ⟨e.2.1, e.2.2, e.1⟩
      have c3 : ¬ (28 + 13 * m + 1 = 28 + 13 * n + 1 ∧ (ga g 4 m + u) % 2 * 5 + q = (ga g 4 n + w) % 2 * 5 + o) := fun e => by
        have e1 : m = n := by omega
        subst e1
        exact c ⟨rfl, by omega, by omega⟩
      rw [mR_wR, if_neg c3, if_neg c2]
      exact e1.gr h nl
  · rw [mR_wR_n _ _ _ (by omega)]
    show isO _ _ (l_set (gl g) w n o (some t) (2 + u) m q)
    rw [l_set, if_neg (by omega)]
    exact e2.gr h nl
/-- a node forgets its letters -/
theorem absX_forget {M : am_M} {g : tG} (hN : 125 ≤ mN M) (k : absX M g) {n : Nat} (hn : n < 5) : absX (wQ (wQ M (28 + 13 * n + 1) (fl (mR M (28 + 13 * n + 1)) 10 none)) (28 + 13 * n + 2) (fl (mR M (28 + 13 * n + 2)) 10 none)) (g_forget n g) ∧ am_gr (fun x => x = 28 + 13 * n + 1 ∨ x = 28 + 13 * n + 2) M (wQ (wQ M (28 + 13 * n + 1) (fl (mR M (28 + 13 * n + 1)) 10 none)) (28 + 13 * n + 2) (fl (mR M (28 + 13 * n + 2)) 10 none)) := by
  obtain ⟨k1, k2, k3, k4, k5, k6, k7, k8⟩ := k
  have h : am_gr (fun x => x = 28 + 13 * n + 1 ∨ x = 28 + 13 * n + 2) M (wQ (wQ M (28 + 13 * n + 1) (fl (mR M (28 + 13 * n + 1)) 10 none)) (28 + 13 * n + 2) (fl (mR M (28 + 13 * n + 2)) 10 none)) := (am_gr.wQ _ (Or.inl rfl)).tr (am_gr.wQ _ (Or.inr rfl))
  have nl : ∀ x, 126 ≤ x → x ≤ mN M → ¬ (x = 28 + 13 * n + 1 ∨ x = 28 + 13 * n + 2) := fun x h1 h2 e => by omega
  refine ⟨⟨k1.gr h hN (by omega) (by omega) (by omega), k2.gr h hN (by omega) (by omega) (by omega) (by omega) (by omega), k3.gr h hN (by omega) (by omega) (by omega), k4.gr h hN (fun m hm => by omega), k5.gr h hN (by omega) (by omega) nl, ?_, k7.gr h hN (fun m hm => by omega) (fun m j hm h1 h2 => by omega), k8.gr h hN (fun m j hm h1 h2 => by omega)⟩, h⟩
  intro m q u hm hq hu
  obtain ⟨e1, e2⟩ := k6 m q u hm hq hu
  generalize hW : wQ (wQ M (28 + 13 * n + 1) (fl (mR M (28 + 13 * n + 1)) 10 none)) (28 + 13 * n + 2) (fl (mR M (28 + 13 * n + 2)) 10 none) = W at h
  have r1 : mR W (28 + 13 * m + 1) ((ga g 4 m + u) % 2 * 5 + q) = if m = n then none else mR M (28 + 13 * m + 1) ((ga g 4 m + u) % 2 * 5 + q) := by
    rw [← hW, mR_wQ, mR_wQ, if_neg (by omega)]
    by_cases c : m = n
    · rw [if_pos (by omega), if_pos c, fl, if_pos (by omega)]
    · rw [if_neg (by omega), if_neg c]
  have r2 : mR W (28 + 13 * m + 2) ((ga g 4 m + 1 + u) % 2 * 5 + q) = if m = n then none else mR M (28 + 13 * m + 2) ((ga g 4 m + 1 + u) % 2 * 5 + q) := by
    rw [← hW, mR_wQ, mR_wQ]
    by_cases c : m = n
    · rw [if_pos (by omega), if_pos c, fl, if_pos (by omega)]
    · rw [if_neg (by omega), if_neg (by omega), if_neg c]
  show isO W (mR W (28 + 13 * m + 1) ((ga g 4 m + u) % 2 * 5 + q)) (if m = n then none else gl g u m q) ∧ isO W (mR W (28 + 13 * m + 2) ((ga g 4 m + 1 + u) % 2 * 5 + q)) (if m = n then none else gl g (2 + u) m q)
  rw [r1, r2]
  by_cases c : m = n
  · rw [if_pos c, if_pos c, if_pos c, if_pos c]
    exact ⟨trivial, trivial⟩
  · rw [if_neg c, if_neg c, if_neg c, if_neg c]
    exact ⟨e1.gr h nl, e2.gr h nl⟩
