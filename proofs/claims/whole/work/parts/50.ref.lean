/-! THE REFERENCE'S CELLS -/
theorem nI_mul (a b : Nat) : nI a * nI b = nI (a * b) := (Int32.ofNat_mul a b).symm
def yS (M : am_M) (g : tG) : Prop := mI M 93 0 = nI (gs g 0) ∧ mI M 93 1 = nI (gs g 1) ∧ mI M 93 2 = nI (gs g 2) ∧ mI M 93 3 = nI (gs g 3) ∧ mI M 93 4 = nI (gs g 4) ∧ mI M 93 5 = nI (gs g 5) ∧ mI M 93 6 = nI (gs g 6) ∧ mI M 93 33 = nI (gs g 7) ∧ mI M 93 34 = nI (gs g 8) ∧ ∀ k, k < 4 → mI M 119 k = nI (gs g (9 + k))
def yV (M : am_M) (g : tG) : Prop := ∀ v, v < gs g 1 → mI M 94 v = gi g 0 v ∧ mI M 95 v = gi g 1 v ∧ mI M 96 v = gi g 2 v ∧ mI M 97 v = nI (ga g 1 v) ∧ mI M 98 v = nI (ga g 0 v)
def yA (M : am_M) (g : tG) : Prop := ∀ a, a < gs g 2 → mI M 99 a = nI (ga g 2 a) ∧ mI M 100 a = nI (ga g 3 a) ∧ mI M 101 a = gi g 3 a
def yN (M : am_M) (g : tG) : Prop := ∀ n, n < 5 → mI M 102 n = nI (ga g 4 n) ∧ mI M 103 n = nI (ga g 5 n) ∧ mI M 104 n = nI (ga g 6 n)
def yE (M : am_M) (g : tG) : Prop := mI M 93 18 = nI (gn g).length ∧ ∀ i t, (gn g)[i]? = some t → yO M i (some t)
def yH (M : am_M) (g : tG) : Prop := ∀ n o w, n < 5 → o < 5 → w < 2 → yO M (110 + 10 * n + 5 * w + o) (gl g w n o) ∧ yO M (60 + 10 * n + 5 * w + o) (gl g (2 + w) n o)
def yK (M : am_M) (g : tG) : Prop := ∀ n i, n < 5 → i < 2 → mI M 115 (2 * n + i) = mkI (gm g n i) ∧ (gm g n i ≠ none → ∀ v, v < gs g 1 → mI M 116 (16 * (2 * n + i) + v) = (gv g n i v).1 ∧ mI M 117 (16 * (2 * n + i) + v) = (gv g n i v).2.1 ∧ mI M 118 (16 * (2 * n + i) + v) = nI (gv g n i v).2.2)
def yZ (M : am_M) : Prop := (∀ s, s < 160 → mI M 105 s = 0 ∨ mI M 105 s = 1) ∧ (∀ s, s < 160 → mI M 118 s = 0 ∨ mI M 118 s = 1) ∧ ∀ s, s < 160 → ∃ j, j ≤ 40 ∧ mI M 111 s = nI j
def absM (M : am_M) (g : tG) : Prop := yS M g ∧ yV M g ∧ yA M g ∧ yN M g ∧ yE M g ∧ yH M g ∧ yK M g ∧ yZ M
/-! carried over -/
theorem yS.gr {S : Nat → Prop} {M M' : am_M} {g : tG} (h : am_gr S M M') (hN : 125 ≤ mN M) (h1 : ¬ S 93) (h2 : ¬ S 119) (k : yS M g) : yS M' g := by
  obtain ⟨k0, k1, k2, k3, k4, k5, k6, k8, k9, k10⟩ := k
  exact ⟨h.i (by omega) h1 k0, h.i (by omega) h1 k1, h.i (by omega) h1 k2, h.i (by omega) h1 k3, h.i (by omega) h1 k4, h.i (by omega) h1 k5, h.i (by omega) h1 k6, h.i (by omega) h1 k8, h.i (by omega) h1 k9, fun j hj => h.i (by omega) h2 (k10 j hj)⟩
theorem yV.gr {S : Nat → Prop} {M M' : am_M} {g : tG} (h : am_gr S M M') (hN : 125 ≤ mN M) (hs : ∀ x, 94 ≤ x → x ≤ 98 → ¬ S x) (k : yV M g) : yV M' g := fun v hv => by
  obtain ⟨k0, k1, k2, k3, k4⟩ := k v hv
  exact ⟨h.i (by omega) (hs _ (by decide) (by decide)) k0, h.i (by omega) (hs _ (by decide) (by decide)) k1, h.i (by omega) (hs _ (by decide) (by decide)) k2, h.i (by omega) (hs _ (by decide) (by decide)) k3, h.i (by omega) (hs _ (by decide) (by decide)) k4⟩
theorem yA.gr {S : Nat → Prop} {M M' : am_M} {g : tG} (h : am_gr S M M') (hN : 125 ≤ mN M) (hs : ∀ x, 99 ≤ x → x ≤ 101 → ¬ S x) (k : yA M g) : yA M' g := fun v hv => by
  obtain ⟨k0, k1, k2⟩ := k v hv
  exact ⟨h.i (by omega) (hs _ (by decide) (by decide)) k0, h.i (by omega) (hs _ (by decide) (by decide)) k1, h.i (by omega) (hs _ (by decide) (by decide)) k2⟩
theorem yN.gr {S : Nat → Prop} {M M' : am_M} {g : tG} (h : am_gr S M M') (hN : 125 ≤ mN M) (hs : ∀ x, 102 ≤ x → x ≤ 104 → ¬ S x) (k : yN M g) : yN M' g := fun v hv => by
  obtain ⟨k0, k1, k2⟩ := k v hv
  exact ⟨h.i (by omega) (hs _ (by decide) (by decide)) k0, h.i (by omega) (hs _ (by decide) (by decide)) k1, h.i (by omega) (hs _ (by decide) (by decide)) k2⟩
theorem yO.cg {M M' : am_M} {s : Nat} {t : Option tL} (e : ∀ x, 105 ≤ x → x ≤ 111 → mI M' x s = mI M x s) (f : ∀ x j, 112 ≤ x → x ≤ 114 → j < 40 → mI M' x (40 * s + j) = mI M x (40 * s + j)) (hl : ∀ u, t = some u → u.2.2.2.2.2.length ≤ 40) (k : yO M s t) : yO M' s t := by
  cases t with
  | none => exact (e 105 (by decide) (by decide)).trans k
  | some t =>
    obtain ⟨k0, k1, k2, k3, k4, k5, k6, k7⟩ := k
    refine ⟨(e 105 (by decide) (by decide)).trans k0, (e 106 (by decide) (by decide)).trans k1, (e 107 (by decide) (by decide)).trans k2, (e 108 (by decide) (by decide)).trans k3, (e 109 (by decide) (by decide)).trans k4, (e 110 (by decide) (by decide)).trans k5, (e 111 (by decide) (by decide)).trans k6, fun j e' he => ?_⟩
    have hj : j < 40 := by
      have h1 := (List.getElem?_eq_some_iff.mp he).1
      have h2 := hl t rfl
      omega
    obtain ⟨a, b, c⟩ := k7 j e' he
    exact ⟨(f 112 j (by decide) (by decide) hj).trans a, (f 113 j (by decide) (by decide) hj).trans b, (f 114 j (by decide) (by decide) hj).trans c⟩
theorem yO.gr {S : Nat → Prop} {M M' : am_M} {s : Nat} {t : Option tL} (h : am_gr S M M') (hN : 125 ≤ mN M) (hs : ∀ x, 105 ≤ x → x ≤ 114 → ¬ S x) (k : yO M s t) : yO M' s t := by
  have q : ∀ x, 105 ≤ x → x ≤ 114 → mI M' x = mI M x := fun x a b => ((h.2 x (by omega)).2 (hs x a b)).1
  cases t with
  | none => show mI M' 105 s = 0; rw [q 105 (by decide) (by decide)]; exact k
  | some t =>
    show mI M' 105 s = 1 ∧ yL M' s t
    unfold yL
    rw [q 105 (by decide) (by decide), q 106 (by decide) (by decide), q 107 (by decide) (by decide), q 108 (by decide) (by decide), q 109 (by decide) (by decide), q 110 (by decide) (by decide), q 111 (by decide) (by decide), q 112 (by decide) (by decide), q 113 (by decide) (by decide), q 114 (by decide) (by decide)]
    exact k
theorem yE.gr {S : Nat → Prop} {M M' : am_M} {g : tG} (h : am_gr S M M') (hN : 125 ≤ mN M) (h1 : ¬ S 93) (hs : ∀ x, 105 ≤ x → x ≤ 114 → ¬ S x) (k : yE M g) : yE M' g := ⟨h.i (by omega) h1 k.1, fun i t ht => (k.2 i t ht).gr h hN hs⟩
theorem yH.gr {S : Nat → Prop} {M M' : am_M} {g : tG} (h : am_gr S M M') (hN : 125 ≤ mN M) (hs : ∀ x, 105 ≤ x → x ≤ 114 → ¬ S x) (k : yH M g) : yH M' g := fun n o w hn ho hw => ⟨(k n o w hn ho hw).1.gr h hN hs, (k n o w hn ho hw).2.gr h hN hs⟩
theorem yK.gr {S : Nat → Prop} {M M' : am_M} {g : tG} (h : am_gr S M M') (hN : 125 ≤ mN M) (hs : ∀ x, 115 ≤ x → x ≤ 118 → ¬ S x) (k : yK M g) : yK M' g := fun n i hn hi => by
  have q : ∀ x, 115 ≤ x → x ≤ 118 → mI M' x = mI M x := fun x a b => ((h.2 x (by omega)).2 (hs x a b)).1
  rw [q 115 (by decide) (by decide), q 116 (by decide) (by decide), q 117 (by decide) (by decide), q 118 (by decide) (by decide)]
  exact k n i hn hi
theorem yZ.gr {S : Nat → Prop} {M M' : am_M} (h : am_gr S M M') (hN : 125 ≤ mN M) (h1 : ¬ S 105) (h2 : ¬ S 111) (h3 : ¬ S 118) (k : yZ M) : yZ M' := by
  unfold yZ
  rw [((h.2 105 (by omega)).2 h1).1, ((h.2 111 (by omega)).2 h2).1, ((h.2 118 (by omega)).2 h3).1]
  exact k
theorem absM.gr {S : Nat → Prop} {M M' : am_M} {g : tG} (h : am_gr S M M') (hN : 125 ≤ mN M) (hS : ∀ x, 93 ≤ x → x ≤ 119 → ¬ S x) (k : absM M g) : absM M' g := by
  obtain ⟨k1, k2, k3, k4, k5, k6, k7, k8⟩ := k
  exact ⟨k1.gr h hN (hS _ (by decide) (by decide)) (hS _ (by decide) (by decide)), k2.gr h hN (fun x a b => hS x (by omega) (by omega)), k3.gr h hN (fun x a b => hS x (by omega) (by omega)), k4.gr h hN (fun x a b => hS x (by omega) (by omega)), k5.gr h hN (hS _ (by decide) (by decide)) (fun x a b => hS x (by omega) (by omega)), k6.gr h hN (fun x a b => hS x (by omega) (by omega)), k7.gr h hN (fun x a b => hS x (by omega) (by omega)), k8.gr h hN (hS _ (by decide) (by decide)) (hS _ (by decide) (by decide)) (hS _ (by decide) (by decide))⟩
/-- only slots of P change -/
def sfr (P : Nat → Prop) (M M' : am_M) : Prop := am_fr (fun x => 105 ≤ x ∧ x ≤ 114) M M' ∧ ∀ s, ¬ P s → (∀ x, 105 ≤ x → x ≤ 111 → mI M' x s = mI M x s) ∧ ∀ x j, 112 ≤ x → x ≤ 114 → j < 40 → mI M' x (40 * s + j) = mI M x (40 * s + j)
theorem sfr.rf {P : Nat → Prop} {M : am_M} : sfr P M M := ⟨am_fr.rf, fun _ _ => ⟨fun _ _ _ => rfl, fun _ _ _ _ _ => rfl⟩⟩
theorem sfr.tr {P : Nat → Prop} {M M1 M2 : am_M} (h1 : sfr P M M1) (h2 : sfr P M1 M2) : sfr P M M2 := ⟨h1.1.tr h2.1, fun s hs => ⟨fun x a b => ((h2.2 s hs).1 x a b).trans ((h1.2 s hs).1 x a b), fun x j a b c => ((h2.2 s hs).2 x j a b c).trans ((h1.2 s hs).2 x j a b c)⟩⟩
theorem sfr.wd {P P' : Nat → Prop} {M M1 : am_M} (h : sfr P M M1) (hP : ∀ s, P s → P' s) : sfr P' M M1 := ⟨h.1, fun s hs => h.2 s (fun z => hs (hP s z))⟩
theorem yO.sf {P : Nat → Prop} {M M' : am_M} {s : Nat} {t : Option tL} (h : sfr P M M') (hs : ¬ P s) (hl : ∀ u, t = some u → u.2.2.2.2.2.length ≤ 40) (k : yO M s t) : yO M' s t := k.cg (h.2 s hs).1 (h.2 s hs).2 hl
theorem sfr.w1 {M : am_M} {x s : Nat} {v : Int32} (h1 : 105 ≤ x) (h2 : x ≤ 111) : sfr (fun y => y = s) M (wI M x s v) := ⟨⟨rfl, rfl, rfl, fun y hy => mI_wI_n _ _ _ (fun e => hy (by show 105 ≤ y ∧ y ≤ 114; omega))⟩, fun y hy => ⟨fun z _ _ => by rw [mI_wI, if_neg (fun e => hy e.2)], fun z j a b c => by rw [mI_wI_n _ _ _ (by omega)]⟩⟩
theorem sfr.w2 {M : am_M} {x s i : Nat} {v : Int32} (h1 : 112 ≤ x) (h2 : x ≤ 114) (hi : i < 40) : sfr (fun y => y = s) M (wI M x (40 * s + i) v) := ⟨⟨rfl, rfl, rfl, fun y hy => mI_wI_n _ _ _ (fun e => hy (by show 105 ≤ y ∧ y ≤ 114; omega))⟩, fun y hy => ⟨fun z _ _ => by rw [mI_wI_n _ _ _ (by omega)], fun z j a b c => by
  have hy : ¬ y = s := hy
  rw [mI_wI, if_neg (by omega)]⟩⟩
/-- the reference's part of the memory -/
def rS (x : Nat) : Prop := 93 ≤ x ∧ x ≤ 125
theorem absX_rS {M M' : am_M} {g : tG} (h : am_fr rS M M') (hL : Lay M) (k : absX M g) : absX M' g := by
  have h := h.gr
  have hN := hL.1
  have c : ∀ x, x ≤ 92 ∨ 126 ≤ x → ¬ rS x := fun x a b => by have := b.1; have := b.2; omega
  obtain ⟨k1, k2, k3, k4, k5, k6, k7, k8⟩ := k
  exact ⟨k1.gr h hN (c _ (by omega)) (c _ (by omega)) (c _ (by omega)), k2.gr h hN (c _ (by omega)) (c _ (by omega)) (c _ (by omega)) (c _ (by omega)) (c _ (by omega)), k3.gr h hN (c _ (by omega)) (c _ (by omega)) (c _ (by omega)), k4.gr h hN (fun n hn => c _ (by omega)), k5.gr h hN (c _ (by omega)) (c _ (by omega)) (fun x a b => c _ (by omega)), k6.gr h hN (fun n hn => c _ (by omega)) (fun n hn => c _ (by omega)) (fun x a b => c _ (by omega)), k7.gr h hN (fun n hn => c _ (by omega)) (fun n j hn a b => c _ (by omega)), k8.gr h hN (fun n j hn a b => c _ (by omega))⟩
theorem am_fr.wI {S : Nat → Prop} {M : am_M} {a : Nat} (k : Nat) (v : Int32) (h : S a) : am_fr S M (wI M a k v) := ⟨rfl, rfl, rfl, fun x hx => mI_wI_n _ _ _ (fun e => hx (e ▸ h))⟩
theorem am_fr.wF {S : Nat → Prop} {M : am_M} {a : Nat} (f : Nat → Int32) (h : S a) : am_fr S M (wF M a f) := ⟨rfl, rfl, rfl, fun x hx => mI_wF_n _ _ (fun e => hx (e ▸ h))⟩
/-! small numbers -/
theorem in_sub1 {x : Int32} {k : Nat} (hk : k < 2 ^ 31) : (if x < 0 then (0 : Int32) else if nI k - 1 < x then 0 else 1) = if x < 0 then 0 else if nI k ≤ x then 0 else 1 := by
  by_cases h0 : x < 0
  · rw [if_pos h0, if_pos h0]
  · rw [if_neg h0, if_neg h0]
    obtain ⟨j, hj, rfl⟩ := nI_of h0
    cases k with
    | zero =>
      rw [if_pos (show nI 0 ≤ nI j from nI_le (by omega) hj), if_pos]
      exact Int32.lt_of_lt_of_le (show nI 0 - 1 < nI 0 by decide) (nI_le (by omega) hj)
    | succ k =>
      rw [nI_pred]
      by_cases c : k + 1 ≤ j
      · rw [if_pos (nI_lt (by omega) hj), if_pos (nI_le c hj)]
      · rw [if_neg (nI_nlt (by omega) (by omega)), if_neg (nI_ge (by omega) hk)]
/-- what was heard -/
def BM (M : am_M) (B : tB) : Prop := ∀ v, v < 16 → match B v with
  | none => mI M 120 v = 0
  | some (m, a) => mI M 120 v = 1 ∧ mI M 121 v = m ∧ mI M 122 v = nI a ∧ a < 40
theorem BM.fr {S : Nat → Prop} {M M' : am_M} {B : tB} (h : am_fr S M M') (h1 : ¬ S 120) (h2 : ¬ S 121) (h3 : ¬ S 122) (k : BM M B) : BM M' B := fun v hv => by
  rw [h.2.2.2 120 h1, h.2.2.2 121 h2, h.2.2.2 122 h3]
  exact k v hv
def s_got (x : Nat) : Prop := x = 120 ∨ x = 121 ∨ x = 122
def w_hear (M : am_M) (v : Nat) (m : Int32) (a : Nat) : am_M := wI (wI (wI M 121 v m) 122 v (nI a)) 120 v 1
theorem w_hear_fr (M : am_M) (v : Nat) (m : Int32) (a : Nat) : am_fr s_got M (w_hear M v m a) := ((am_fr.wI _ _ (Or.inr (Or.inl rfl))).tr (am_fr.wI _ _ (Or.inr (Or.inr rfl)))).tr (am_fr.wI _ _ (Or.inl rfl))
theorem BM_set {M M' : am_M} {B : tB} {v a : Nat} {m : Int32} (k : BM M B) (h0 : mI M' 120 v = 1) (h1 : mI M' 121 v = m) (h2 : mI M' 122 v = nI a) (ha : a < 40) (hn : ∀ x u, u ≠ v → 120 ≤ x → x ≤ 122 → mI M' x u = mI M x u) : BM M' (va_up B v (some (m, a))) := fun u hu => by
  by_cases c : u = v
  · subst c
    rw [va_up_self]
    exact ⟨h0, h1, h2, ha⟩
  · rw [va_up_ne _ _ c, hn 120 u c (by decide) (by decide), hn 121 u c (by decide) (by decide), hn 122 u c (by decide) (by decide)]
    exact k u hu
