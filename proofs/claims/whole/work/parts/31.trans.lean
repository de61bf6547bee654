/-! THE CLASS'S CELLS: what a change leaves -/
theorem gs_us (g : tG) (k v j : Nat) : gs (us g k v) j = if j = k then v else gs g j := rfl
theorem xS.gr {S : Nat → Prop} {M M' : am_M} {g : tG} (h : am_gr S M M') (hN : 125 ≤ mN M) (h1 : ¬ S 1) (h2 : ¬ S 2) (h27 : ¬ S 27) (k : xS M g) : xS M' g := by
  obtain ⟨s1, s2, s3, s4, s5, s6, s7, s8, s9, s10⟩ := k
  exact ⟨h.i (by omega) h1 s1, h.i (by omega) h2 s2, h.i (by omega) h2 s3, h.i (by omega) h2 s4, h.i (by omega) h1 s5, h.i (by omega) h1 s6, h.i (by omega) h1 s7, h.i (by omega) h1 s8, h.i (by omega) h1 s9, fun k hk => h.i (by omega) h27 (s10 k hk)⟩
theorem xV.gr {S : Nat → Prop} {M M' : am_M} {g : tG} (h : am_gr S M M') (hN : 125 ≤ mN M) (h3 : ¬ S 3) (h4 : ¬ S 4) (h9 : ¬ S 9) (h10 : ¬ S 10) (h11 : ¬ S 11) (k : xV M g) : xV M' g := fun v hv => by
  obtain ⟨s1, s2, s3, s4, s5⟩ := k v hv
  exact ⟨h.i (by omega) h3 s1, h.i (by omega) h4 s2, h.i (by omega) h9 s3, h.i (by omega) h10 s4, h.i (by omega) h11 s5⟩
theorem xA.gr {S : Nat → Prop} {M M' : am_M} {g : tG} (h : am_gr S M M') (hN : 125 ≤ mN M) (h5 : ¬ S 5) (h6 : ¬ S 6) (h7 : ¬ S 7) (k : xA M g) : xA M' g := fun a ha => by
  obtain ⟨s1, s2, s3⟩ := k a ha
  exact ⟨h.i (by omega) h5 s1, h.i (by omega) h6 s2, h.i (by omega) h7 s3⟩
theorem xN.gr {S : Nat → Prop} {M M' : am_M} {g : tG} (h : am_gr S M M') (hN : 125 ≤ mN M) (hs : ∀ n, n < 5 → ¬ S (28 + 13 * n)) (k : xN M g) : xN M' g := fun n hn => by
  obtain ⟨s1, s2, s3⟩ := k n hn
  exact ⟨h.i (by omega) (hs n hn) s1, h.i (by omega) (hs n hn) s2, h.i (by omega) (hs n hn) s3⟩
theorem xE.gr {S : Nat → Prop} {M M' : am_M} {g : tG} (h : am_gr S M M') (hN : 125 ≤ mN M) (h24 : ¬ S 24) (h25 : ¬ S 25) (hl : ∀ x, 126 ≤ x → x ≤ mN M → ¬ S x) (k : xE M g) : xE M' g := by
  refine ⟨h.i (by omega) h24 k.1, k.2.1, fun i t hi => ?_⟩
  obtain ⟨a, e1, e2⟩ := k.2.2 i t hi
  exact ⟨a, h.r (by omega) h25 e1, e2.gr h hl⟩
theorem isO.gr {S : Nat → Prop} {M M' : am_M} (h : am_gr S M M') (hl : ∀ x, 126 ≤ x → x ≤ mN M → ¬ S x) {r : Option Nat} {t : Option tL} (k : isO M r t) : isO M' r t := by
  cases r with
  | none => cases t <;> exact k
  | some a => cases t with
    | none => exact k
    | some t => exact isL.gr h hl k
theorem xH.gr {S : Nat → Prop} {M M' : am_M} {g : tG} (h : am_gr S M M') (hN : 125 ≤ mN M) (h1 : ∀ n, n < 5 → ¬ S (28 + 13 * n + 1)) (h2 : ∀ n, n < 5 → ¬ S (28 + 13 * n + 2)) (hl : ∀ x, 126 ≤ x → x ≤ mN M → ¬ S x) (k : xH M g) : xH M' g := fun n o w hn ho hw => by
  obtain ⟨e1, e2⟩ := k n o w hn ho hw
  rw [((h.2 _ (by omega)).2 (h1 n hn)).2, ((h.2 _ (by omega)).2 (h2 n hn)).2]
  exact ⟨e1.gr h hl, e2.gr h hl⟩
theorem mkV.gr {S : Nat → Prop} {M M' : am_M} {g : tG} {n p i : Nat} (h : am_gr S M M') (hp : p + 4 ≤ mN M) (hs : ∀ j, j ≤ 4 → ¬ S (p + j)) (k : mkV M g n p i) : mkV M' g n p i := by
  refine ⟨h.i (by omega) (hs 0 (by omega)) k.1, fun hn v hv he => ?_⟩
  obtain ⟨e1, e2, e3⟩ := k.2 hn v hv he
  exact ⟨h.i (by omega) (hs 2 (by omega)) e1, h.i (by omega) (hs 3 (by omega)) e2, h.i (by omega) (hs 4 (by omega)) e3⟩
theorem xM.gr {S : Nat → Prop} {M M' : am_M} {g : tG} (h : am_gr S M M') (hN : 125 ≤ mN M) (h0 : ∀ n, n < 5 → ¬ S (28 + 13 * n)) (h1 : ∀ n j, n < 5 → 3 ≤ j → j ≤ 12 → ¬ S (28 + 13 * n + j)) (k : xM M g) : xM M' g := fun n hn => by
  obtain ⟨p, q, e1, e2, e3, e4, e5⟩ := k n hn
  refine ⟨p, q, h.r (by omega) (h0 n hn) e1, h.r (by omega) (h0 n hn) e2, e3, e4.gr h (by omega) (fun j hj hS => ?_), e5.gr h (by omega) (fun j hj hS => ?_)⟩
  · rcases e3 with ⟨z1, z2⟩ | ⟨z1, z2⟩
    · exact h1 n (3 + j) hn (by omega) (by omega) (by rw [z1] at hS; rw [← Nat.add_assoc]; exact hS)
    · exact h1 n (8 + j) hn (by omega) (by omega) (by rw [z1] at hS; rw [← Nat.add_assoc]; exact hS)
  · rcases e3 with ⟨z1, z2⟩ | ⟨z1, z2⟩
    · exact h1 n (8 + j) hn (by omega) (by omega) (by rw [z2] at hS; rw [← Nat.add_assoc]; exact hS)
    · exact h1 n (3 + j) hn (by omega) (by omega) (by rw [z2] at hS; rw [← Nat.add_assoc]; exact hS)
theorem xZ.gr {S : Nat → Prop} {M M' : am_M} (h : am_gr S M M') (hN : 125 ≤ mN M) (h1 : ∀ n j, n < 5 → 3 ≤ j → j ≤ 12 → ¬ S (28 + 13 * n + j)) (k : xZ M) : xZ M' := fun n hn v hv => by
  rw [((h.2 _ (by omega)).2 (h1 n 7 hn (by omega) (by omega))).1, ((h.2 _ (by omega)).2 (h1 n 12 hn (by omega) (by omega))).1]
  exact k n hn v hv
/-- the cells for passing use (one node alone, inbox, desk), and new cells -/
theorem absX.gr {S : Nat → Prop} {M M' : am_M} {g : tG} (h : am_gr S M M') (hN : 125 ≤ mN M) (hS : ∀ x, x ≤ mN M → S x → 12 ≤ x ∧ x ≤ 23) (k : absX M g) : absX M' g := by
  obtain ⟨k1, k2, k3, k4, k5, k6, k7, k8⟩ := k
  have n : ∀ x, x ≤ mN M → (x < 12 ∨ 23 < x) → ¬ S x := fun x h1 h2 h3 => by have := hS x h1 h3; omega
  refine ⟨k1.gr h hN (n 1 (by omega) (by omega)) (n 2 (by omega) (by omega)) (n 27 (by omega) (by omega)), k2.gr h hN (n 3 (by omega) (by omega)) (n 4 (by omega) (by omega)) (n 9 (by omega) (by omega)) (n 10 (by omega) (by omega)) (n 11 (by omega) (by omega)), k3.gr h hN (n 5 (by omega) (by omega)) (n 6 (by omega) (by omega)) (n 7 (by omega) (by omega)), k4.gr h hN (fun m hm => n _ (by omega) (by omega)), k5.gr h hN (n 24 (by omega) (by omega)) (n 25 (by omega) (by omega)) (fun x h1 h2 => n x h2 (by omega)), k6.gr h hN (fun m hm => n _ (by omega) (by omega)) (fun m hm => n _ (by omega) (by omega)) (fun x h1 h2 => n x h2 (by omega)), k7.gr h hN (fun m hm => n _ (by omega) (by omega)) (fun m j hm h1 h2 => n _ (by omega) (by omega)), k8.gr h hN (fun m j hm h1 h2 => n _ (by omega) (by omega))⟩
theorem absX_written {M : am_M} {g : tG} (hN : 125 ≤ mN M) (k : absX M g) (w : Nat) : absX (wI M 1 13 (nI w)) (us g 8 w) := by
  obtain ⟨k1, k2, k3, k4, k5, k6, k7, k8⟩ := k
  have h : am_gr (fun x => x = 1) M (wI M 1 13 (nI w)) := am_gr.wI 13 (nI w) rfl
  refine ⟨?_, k2.gr h hN (by decide) (by decide) (by decide) (by decide) (by decide), k3.gr h hN (by decide) (by decide) (by decide), k4.gr h hN (fun m hm (e : _ = 1) => by omega), k5.gr h hN (by decide) (by decide) (fun x h1 h2 (e : _ = 1) => by omega), k6.gr h hN (fun m hm (e : _ = 1) => by omega) (fun m hm (e : _ = 1) => by omega) (fun x h1 h2 (e : _ = 1) => by omega), k7.gr h hN (fun m hm (e : _ = 1) => by omega) (fun m j hm h1 h2 (e : _ = 1) => by omega), k8.gr h hN (fun m j hm h1 h2 (e : _ = 1) => by omega)⟩
  obtain ⟨s1, s2, s3, s4, s5, s6, s7, s8, s9, s10⟩ := k1
  refine ⟨?_, ?_, ?_, ?_, ?_, ?_, ?_, ?_, ?_, fun j hj => ?_⟩ <;> simp only [mI_wI, gs_us]
  · simpa using s1
  · simpa using s2
  · simpa using s3
  · simpa using s4
  · simpa using s5
  · simpa using s6
  · simpa using s7
  · simpa using s8
  · simp
  · have : ¬ 9 + j = 8 := by omega
    simpa [this] using s10 j hj
theorem absX_kept {M : am_M} {g : tG} (hN : 125 ≤ mN M) (k : absX M g) {n o a : Nat} {t : tL} (hn : n < 5) (ho : o < 5) (ht : isL M a t) : absX (wR M (28 + 13 * n + 2) (ga g 4 n % 2 * 5 + o) (some a)) (ul g (l_set (gl g) 3 n o (some t))) := by
  obtain ⟨k1, k2, k3, k4, k5, k6, k7, k8⟩ := k
  have h : am_gr (fun x => x = 28 + 13 * n + 2) M (wR M (28 + 13 * n + 2) (ga g 4 n % 2 * 5 + o) (some a)) := am_gr.wR _ _ rfl
  have nl : ∀ x, 126 ≤ x → x ≤ mN M → ¬ x = 28 + 13 * n + 2 := fun x h1 h2 e => by omega
  refine ⟨k1.gr h hN (by omega) (by omega) (by omega), k2.gr h hN (by omega) (by omega) (by omega) (by omega) (by omega), k3.gr h hN (by omega) (by omega) (by omega), k4.gr h hN (fun m hm => by omega), k5.gr h hN (by omega) (by omega) nl, ?_, k7.gr h hN (fun m hm => by omega) (fun m j hm h1 h2 => by omega), k8.gr h hN (fun m j hm h1 h2 => by omega)⟩
  intro m q w hm hq hw
  obtain ⟨e1, e2⟩ := k6 m q w hm hq hw
  refine ⟨?_, ?_⟩
  · rw [mR_wR_n _ _ _ (by omega)]
    show isO _ _ (l_set (gl g) 3 n o (some t) w m q)
    rw [l_set, if_neg (by omega)]
    exact e1.gr h nl
  · show isO _ (mR (wR M (28 + 13 * n + 2) (ga g 4 n % 2 * 5 + o) (some a)) (28 + 13 * m + 2) ((ga g 4 m + 1 + w) % 2 * 5 + q)) (if 2 + w = 3 ∧ m = n ∧ q = o then some t else gl g (2 + w) m q)
    by_cases c : m = n ∧ q = o ∧ w = 1
    · obtain ⟨rfl, rfl, rfl⟩ := c
      rw [mR_wR, if_pos ⟨rfl, by omega⟩, if_pos ⟨by omega, rfl, rfl⟩]
      exact ht.gr h nl
    · have c2 : ¬ (2 + w = 3 ∧ m = n ∧ q = o) := fun e => c ⟨e.2.1, e.2.2, by omega⟩
      have c3 : ¬ (28 + 13 * m + 2 = 28 + 13 * n + 2 ∧ (ga g 4 m + 1 + w) % 2 * 5 + q = ga g 4 n % 2 * 5 + o) := fun e => by
        have e1 : m = n := by omega
        subst e1
        exact c ⟨rfl, by omega, by omega⟩
      rw [mR_wR, if_neg c3, if_neg c2]
      exact e2.gr h nl
theorem absX_net {M : am_M} {g : tG} (hN : 125 ≤ mN M) (k : absX M g) {a : Nat} {t : tL} (ht : isL M a t) (hl : (gn g).length < 60) : absX (wI (wR M 25 (gn g).length (some a)) 24 1 (nI ((gn g).length + 1))) (un g (gn g ++ [t])) := by
  obtain ⟨k1, k2, k3, k4, k5, k6, k7, k8⟩ := k
  have h : am_gr (fun x => x = 24 ∨ x = 25) M (wI (wR M 25 (gn g).length (some a)) 24 1 (nI ((gn g).length + 1))) := (am_gr.wR _ _ (Or.inr rfl)).tr (am_gr.wI _ _ (Or.inl rfl))
  have nl : ∀ x, 126 ≤ x → x ≤ mN M → ¬ (x = 24 ∨ x = 25) := fun x h1 h2 e => by omega
  refine ⟨k1.gr h hN (by omega) (by omega) (by omega), k2.gr h hN (by omega) (by omega) (by omega) (by omega) (by omega), k3.gr h hN (by omega) (by omega) (by omega), k4.gr h hN (fun m hm => by omega), ?_, k6.gr h hN (fun m hm => by omega) (fun m hm => by omega) nl, k7.gr h hN (fun m hm => by omega) (fun m j hm h1 h2 => by omega), k8.gr h hN (fun m j hm h1 h2 => by omega)⟩
  show mI _ 24 1 = nI (gn g ++ [t]).length ∧ (gn g ++ [t]).length ≤ 60 ∧ ∀ i t', (gn g ++ [t])[i]? = some t' → _
  refine ⟨by simp [mI_wI], by simp; omega, fun i t' hi => ?_⟩
  by_cases c : i < (gn g).length
  · rw [List.getElem?_append_left c] at hi
    obtain ⟨b, e1, e2⟩ := k5.2.2 i t' hi
    refine ⟨b, ?_, e2.gr h nl⟩
    rw [mR_wI, mR_wR, if_neg (by omega)]
    exact e1
  · have c2 : i = (gn g).length := by
      have := (List.getElem?_eq_some_iff.mp hi).1
      simp at this
      omega
    subst c2
    simp at hi
    subst hi
    refine ⟨a, ?_, ht.gr h nl⟩
    rw [mR_wI, mR_wR, if_pos ⟨rfl, rfl⟩]
