/-! THE REFERENCE'S MEMORY UNDER ITS STEPS -/
theorem absM_S {M M' : am_M} {g : tG} {s : Nat → Nat} (hN : 125 ≤ mN M) (k : absM M g) (h : am_gr (fun x => x = 93 ∨ x = 119) M M') (h1 : s 1 = gs g 1) (h2 : s 2 = gs g 2) (h18 : mI M' 93 18 = mI M 93 18) (hs : yS M' (s, g.2)) : absM M' (s, g.2) := by
  obtain ⟨k1, k2, k3, k4, k5, k6, k7, k8⟩ := k
  refine ⟨hs, ?_, ?_, k4.gr h hN (fun x a b => by omega), ⟨h18.trans k5.1, fun i t ht => (k5.2 i t ht).gr h hN (fun x a b => by omega)⟩, k6.gr h hN (fun x a b => by omega), ?_, k8.gr h hN (by omega) (by omega) (by omega)⟩
  · have z := k2.gr h hN (fun x a b => by omega)
    intro v hv
    have hv : v < s 1 := hv
    rw [h1] at hv
    exact z v hv
  · have z := k3.gr h hN (fun x a b => by omega)
    intro v hv
    have hv : v < s 2 := hv
    rw [h2] at hv
    exact z v hv
  · have z := k7.gr h hN (fun x a b => by omega)
    intro n i hn hi
    refine ⟨(z n i hn hi).1, fun hm v hv => ?_⟩
    have hv : v < s 1 := hv
    rw [h1] at hv
    exact (z n i hn hi).2 hm v hv
theorem yS_w {M : am_M} {g : tG} (k : yS M g) {f j : Nat} (w : Nat) (hf : (f = 0 ∧ j = 0) ∨ (f = 1 ∧ j = 1) ∨ (f = 2 ∧ j = 2) ∨ (f = 3 ∧ j = 3) ∨ (f = 4 ∧ j = 4) ∨ (f = 5 ∧ j = 5) ∨ (f = 6 ∧ j = 6) ∨ (f = 33 ∧ j = 7) ∨ (f = 34 ∧ j = 8)) : yS (wI M 93 f (nI w)) (us g j w) := by
  obtain ⟨s1, s2, s3, s4, s5, s6, s7, s8, s9, s10⟩ := k
  have q : ∀ f' j' : Nat, (f' = f ↔ j' = j) → mI M 93 f' = nI (gs g j') → mI (wI M 93 f (nI w)) 93 f' = nI (gs (us g j w) j') := fun f' j' h1 h2 => by
    rw [mI_wI, gs_us]
    by_cases c : f' = f
    · rw [if_pos ⟨rfl, c⟩, if_pos (h1.mp c)]
    · rw [if_neg (fun z => c z.2), if_neg (fun z => c (h1.mpr z))]; exact h2
  have z : ∀ i, i < 4 → mI (wI M 93 f (nI w)) 119 i = nI (gs (us g j w) (9 + i)) := fun i hi => by
    have hj : j ≤ 8 := by rcases hf with ⟨-, rfl⟩ | ⟨-, rfl⟩ | ⟨-, rfl⟩ | ⟨-, rfl⟩ | ⟨-, rfl⟩ | ⟨-, rfl⟩ | ⟨-, rfl⟩ | ⟨-, rfl⟩ | ⟨-, rfl⟩ <;> decide
    clear hf
    rw [mI_wI_n _ _ _ (by decide), gs_us, if_neg (by omega)]
    exact s10 i hi
  rcases hf with ⟨rfl, rfl⟩ | ⟨rfl, rfl⟩ | ⟨rfl, rfl⟩ | ⟨rfl, rfl⟩ | ⟨rfl, rfl⟩ | ⟨rfl, rfl⟩ | ⟨rfl, rfl⟩ | ⟨rfl, rfl⟩ | ⟨rfl, rfl⟩ <;> exact ⟨q 0 0 (by decide) s1, q 1 1 (by decide) s2, q 2 2 (by decide) s3, q 3 3 (by decide) s4, q 4 4 (by decide) s5, q 5 5 (by decide) s6, q 6 6 (by decide) s7, q 33 7 (by decide) s8, q 34 8 (by decide) s9, z⟩
theorem absM_s {M : am_M} {g : tG} (hN : 125 ≤ mN M) (k : absM M g) {f j : Nat} (w : Nat) (hf : (f = 3 ∧ j = 3) ∨ (f = 4 ∧ j = 4) ∨ (f = 5 ∧ j = 5) ∨ (f = 6 ∧ j = 6) ∨ (f = 33 ∧ j = 7) ∨ (f = 34 ∧ j = 8)) : absM (wI M 93 f (nI w)) (us g j w) := by
  have hj : 3 ≤ j ∧ f ≠ 18 ∧ ((f = 0 ∧ j = 0) ∨ (f = 1 ∧ j = 1) ∨ (f = 2 ∧ j = 2) ∨ (f = 3 ∧ j = 3) ∨ (f = 4 ∧ j = 4) ∨ (f = 5 ∧ j = 5) ∨ (f = 6 ∧ j = 6) ∨ (f = 33 ∧ j = 7) ∨ (f = 34 ∧ j = 8)) := by
    rcases hf with ⟨rfl, rfl⟩ | ⟨rfl, rfl⟩ | ⟨rfl, rfl⟩ | ⟨rfl, rfl⟩ | ⟨rfl, rfl⟩ | ⟨rfl, rfl⟩ <;> decide
  clear hf
  obtain ⟨h3, h18, hf⟩ := hj
  refine absM_S hN k (am_gr.wI _ _ (Or.inl rfl)) ?_ ?_ (by rw [mI_wI, if_neg (fun z => h18 z.2.symm)]) (yS_w k.1 w hf)
  · clear hf
    show gs (us g j w) 1 = _
    rw [gs_us, if_neg (by omega)]
  · clear hf
    show gs (us g j w) 2 = _
    rw [gs_us, if_neg (by omega)]
theorem absM_cnt {M : am_M} {g : tG} (hN : 125 ≤ mN M) (k : absM M g) {j : Nat} (hj : j < 4) (w : Nat) : absM (wI M 119 j (nI w)) (us g (9 + j) w) := by
  refine absM_S hN k (am_gr.wI _ _ (Or.inr rfl)) ?_ ?_ (by rw [mI_wI_n _ _ _ (by decide)]) ?_
  · show gs (us g (9 + j) w) 1 = _
    rw [gs_us, if_neg (by omega)]
  · show gs (us g (9 + j) w) 2 = _
    rw [gs_us, if_neg (by omega)]
  · obtain ⟨s1, s2, s3, s4, s5, s6, s7, s8, s9, s10⟩ := k.1
    have q : ∀ f' j' : Nat, j' < 9 → mI M 93 f' = nI (gs g j') → mI (wI M 119 j (nI w)) 93 f' = nI (gs (us g (9 + j) w) j') := fun f' j' h1 h2 => by
      rw [mI_wI_n _ _ _ (by decide), gs_us, if_neg (by omega)]; exact h2
    refine ⟨q 0 0 (by omega) s1, q 1 1 (by omega) s2, q 2 2 (by omega) s3, q 3 3 (by omega) s4, q 4 4 (by omega) s5, q 5 5 (by omega) s6, q 6 6 (by omega) s7, q 33 7 (by omega) s8, q 34 8 (by omega) s9, fun i hi => ?_⟩
    show mI (wI M 119 j (nI w)) 119 i = nI (gs (us g (9 + j) w) (9 + i))
    rw [mI_wI, gs_us]
    by_cases c : i = j
    · rw [if_pos ⟨rfl, c⟩, if_pos (by omega)]
    · rw [if_neg (fun z => c z.2), if_neg (by omega)]
      exact s10 i hi
/-- slots -/
theorem gB_len {g : tG} (hB : gB g) {k n o : Nat} : ∀ u, gl g k n o = some u → u.2.2.2.2.2.length ≤ 40 := fun u hu => (hB.2.2.2.2.2.2.2.2.2.2.2.2.2.2.2 k n o u hu).2.2.2.2.2.2.1
theorem gB_lenN {g : tG} (hB : gB g) {i : Nat} {t : tL} (ht : (gn g)[i]? = some t) : ∀ u, some t = some u → u.2.2.2.2.2.length ≤ 40 := fun u hu => by cases hu; exact (hB.2.2.2.2.2.2.2.2.2.2.2.2.2.2.1 t (List.mem_of_getElem? ht)).2.2.2.2.2.2.1
theorem absM_slots {P : Nat → Prop} {M M' : am_M} {g : tG} (hN : 125 ≤ mN M) (k : absM M g) (h : sfr P M M') (hz : yZ M') (x : List tL) (f : Nat → Nat → Nat → Option tL) (hx : x.length = (gn g).length) (hE : ∀ i t, x[i]? = some t → yO M' i (some t)) (hH : ∀ n o w, n < 5 → o < 5 → w < 2 → yO M' (110 + 10 * n + 5 * w + o) (f w n o) ∧ yO M' (60 + 10 * n + 5 * w + o) (f (2 + w) n o)) : absM M' (un (ul g f) x) := by
  obtain ⟨k1, k2, k3, k4, k5, k6, k7, k8⟩ := k
  have h := h.1.gr
  refine ⟨k1.gr h hN (by omega) (by omega), k2.gr h hN (fun x a b => by omega), k3.gr h hN (fun x a b => by omega), k4.gr h hN (fun x a b => by omega), ⟨?_, hE⟩, hH, k7.gr h hN (fun x a b => by omega), hz⟩
  rw [((h.2 93 (by omega)).2 (by omega)).1, k5.1]
  show nI _ = nI x.length
  rw [hx]
theorem slot_inj {n o w n' o' w' : Nat} (h1 : o < 5) (h2 : w < 2) (h3 : o' < 5) (h4 : w' < 2) (e : 10 * n + 5 * w + o = 10 * n' + 5 * w' + o') : n = n' ∧ w = w' ∧ o = o' := by omega
/-- a letter is laid at a kept one's or a held one's place (k = 0 .. 3) -/
def slotOf (k n o : Nat) : Nat := if k < 2 then 110 + 10 * n + 5 * k + o else 60 + 10 * n + 5 * (k - 2) + o
theorem yH_slot {M : am_M} {g : tG} (h : yH M g) {k n o : Nat} (hk : k < 4) (hn : n < 5) (ho : o < 5) : yO M (slotOf k n o) (gl g k n o) := by
  unfold slotOf
  split
  · exact (h n o k hn ho (by omega)).1
  · have := (h n o (k - 2) hn ho (by omega)).2
    rw [show 2 + (k - 2) = k by omega] at this
    exact this
theorem absM_set {M M' : am_M} {g : tG} {k n o : Nat} {t : Option tL} (hN : 125 ≤ mN M) (hB : gB g) (hA : absM M g) (hk : k < 4) (hn : n < 5) (ho : o < 5) (h : sfr (fun s => s = slotOf k n o) M M') (hz : yZ M') (hy : yO M' (slotOf k n o) t) : absM M' (ul g (l_set (gl g) k n o t)) := by
  have hl := hB.2.2.2.2.2.2.2.2.2.2.2.2.2.1
  refine absM_slots hN hA h hz (gn g) (l_set (gl g) k n o t) rfl (fun i u hu => ?_) (fun n' o' w hn' ho' hw => ⟨?_, ?_⟩)
  · have hi := (List.getElem?_eq_some_iff.mp hu).1
    refine (hA.2.2.2.2.1.2 i u hu).sf h ?_ (gB_lenN hB hu)
    show ¬ i = slotOf k n o
    unfold slotOf
    split <;> omega
  · show yO M' (110 + 10 * n' + 5 * w + o') (if w = k ∧ n' = n ∧ o' = o then t else gl g w n' o')
    by_cases c : w = k ∧ n' = n ∧ o' = o
    · obtain ⟨rfl, rfl, rfl⟩ := c
      rw [if_pos ⟨rfl, rfl, rfl⟩]
      unfold slotOf at hy
      rw [if_pos hw] at hy
      exact hy
    · rw [if_neg c]
      refine (hA.2.2.2.2.2.1 n' o' w hn' ho' hw).1.sf h ?_ (gB_len hB)
      show ¬ 110 + 10 * n' + 5 * w + o' = slotOf k n o
      unfold slotOf
      split <;> omega
  · show yO M' (60 + 10 * n' + 5 * w + o') (if 2 + w = k ∧ n' = n ∧ o' = o then t else gl g (2 + w) n' o')
    by_cases c : 2 + w = k ∧ n' = n ∧ o' = o
    · obtain ⟨rfl, rfl, rfl⟩ := c
      rw [if_pos ⟨rfl, rfl, rfl⟩]
      unfold slotOf at hy
      rw [if_neg (by omega), show 2 + w - 2 = w by omega] at hy
      exact hy
    · rw [if_neg c]
      refine (hA.2.2.2.2.2.1 n' o' w hn' ho' hw).2.sf h ?_ (gB_len hB)
      show ¬ 60 + 10 * n' + 5 * w + o' = slotOf k n o
      unfold slotOf
      split <;> omega
/-- the net's number changes -/
theorem absM_len {M M' : am_M} {g : tG} (hN : 125 ≤ mN M) (hB : gB g) (hA : absM M g) (x : List tL) (h : sfr (fun s => s < 60) M M') (hz : yZ M') (hE : ∀ i t, x[i]? = some t → yO M' i (some t)) : absM (wI M' 93 18 (nI x.length)) (un g x) := by
  obtain ⟨k1, k2, k3, k4, k5, k6, k7, k8⟩ := hA
  have g0 : am_gr (fun x => 105 ≤ x ∧ x ≤ 114) M M' := h.1.gr
  have g1 : am_gr (fun x => x = 93) M' (wI M' 93 18 (nI x.length)) := am_gr.wI _ _ rfl
  have hN' : 125 ≤ mN M' := Nat.le_trans hN g0.1
  refine ⟨?_, (k2.gr g0 hN (fun x a b => by omega)).gr g1 hN' (fun x a b => by omega), (k3.gr g0 hN (fun x a b => by omega)).gr g1 hN' (fun x a b => by omega), (k4.gr g0 hN (fun x a b => by omega)).gr g1 hN' (fun x a b => by omega), ⟨by rw [mI_wI, if_pos ⟨rfl, rfl⟩]; rfl, fun i t ht => (hE i t ht).gr g1 hN' (fun x a b => by omega)⟩, fun n o w hn ho hw => ⟨((k6 n o w hn ho hw).1.sf h (by show ¬ _ < 60; omega) (gB_len hB)).gr g1 hN' (fun x a b => by omega), ((k6 n o w hn ho hw).2.sf h (by show ¬ _ < 60; omega) (gB_len hB)).gr g1 hN' (fun x a b => by omega)⟩, (k7.gr g0 hN (fun x a b => by omega)).gr g1 hN' (fun x a b => by omega), hz.gr g1 hN' (by omega) (by omega) (by omega)⟩
  obtain ⟨s1, s2, s3, s4, s5, s6, s7, s8, s9, s10⟩ := k1.gr g0 hN (by omega) (by omega)
  have q : ∀ f' r, f' ≠ 18 → mI M' 93 f' = r → mI (wI M' 93 18 (nI x.length)) 93 f' = r := fun f' r h1 h2 => by rw [mI_wI, if_neg (fun z => h1 z.2)]; exact h2
  exact ⟨q _ _ (by decide) s1, q _ _ (by decide) s2, q _ _ (by decide) s3, q _ _ (by decide) s4, q _ _ (by decide) s5, q _ _ (by decide) s6, q _ _ (by decide) s7, q _ _ (by decide) s8, q _ _ (by decide) s9, fun i hi => by rw [mI_wI_n _ _ _ (by decide)]; exact s10 i hi⟩
theorem absM_push {M M' : am_M} {g : tG} {t : tL} (hN : 125 ≤ mN M) (hB : gB g) (hA : absM M g) (hl : (gn g).length < 60) (h : sfr (fun s => s = (gn g).length) M M') (hz : yZ M') (hy : yO M' (gn g).length (some t)) : absM (wI M' 93 18 (nI ((gn g).length + 1))) (un g (gn g ++ [t])) := by
  have := absM_len hN hB hA (gn g ++ [t]) (h.wd (fun s (e : s = (gn g).length) => by show s < 60; omega)) hz (fun i u hu => ?_)
  · rw [show (gn g ++ [t]).length = (gn g).length + 1 by simp] at this
    exact this
  · by_cases c : i < (gn g).length
    · rw [List.getElem?_append_left c] at hu
      exact (hA.2.2.2.2.1.2 i u hu).sf h (by show ¬ i = _; omega) (gB_lenN hB hu)
    · have hi := (List.getElem?_eq_some_iff.mp hu).1
      have hi2 : i = (gn g).length := by simp at hi; omega
      subst hi2
      simp at hu
      subst hu
      exact hy
theorem yZ_sf {M M' : am_M} {s : Nat} (hz : yZ M) (h : sfr (fun x => x = s) M M') (h1 : mI M' 105 s = 0 ∨ mI M' 105 s = 1) (h2 : ∃ j, j ≤ 40 ∧ mI M' 111 s = nI j) : yZ M' := by
  refine ⟨fun x hx => ?_, fun x hx => ?_, fun x hx => ?_⟩
  · by_cases c : x = s
    · rw [c]; exact h1
    · rw [(h.2 x c).1 105 (by decide) (by decide)]; exact hz.1 x hx
  · rw [h.1.2.2.2 118 (by omega)]; exact hz.2.1 x hx
  · by_cases c : x = s
    · rw [c]; exact h2
    · rw [(h.2 x c).1 111 (by decide) (by decide)]; exact hz.2.2 x hx
/-- the entries of the letter at a slot, as they are put together -/
def DM (M : am_M) (s : Nat) (es : List tE) : Prop := mI M 111 s = nI es.length ∧ es.length ≤ 40 ∧ ∀ j e, es[j]? = some e → mI M 112 (40 * s + j) = nI e.1 ∧ mI M 113 (40 * s + j) = e.2.1 ∧ mI M 114 (40 * s + j) = nI e.2.2
def afr (s : Nat) (M M' : am_M) : Prop := sfr (fun x => x = s) M M' ∧ ∀ x, 105 ≤ x → x ≤ 110 → mI M' x s = mI M x s
theorem afr.rf {s : Nat} {M : am_M} : afr s M M := ⟨sfr.rf, fun _ _ _ => rfl⟩
theorem afr.tr {s : Nat} {M M1 M2 : am_M} (h1 : afr s M M1) (h2 : afr s M1 M2) : afr s M M2 := ⟨h1.1.tr h2.1, fun x a b => (h2.2 x a b).trans (h1.2 x a b)⟩
theorem DM_app {M : am_M} {s : Nat} {es : List tE} (h : DM M s es) (hl : es.length < 40) (t : Nat) (m : Int32) (a : Nat) : DM (wI (wI (wI (wI M 112 (40 * s + es.length) (nI t)) 113 (40 * s + es.length) m) 114 (40 * s + es.length) (nI a)) 111 s (nI (es.length + 1))) s (es ++ [(t, m, a)]) ∧ afr s M (wI (wI (wI (wI M 112 (40 * s + es.length) (nI t)) 113 (40 * s + es.length) m) 114 (40 * s + es.length) (nI a)) 111 s (nI (es.length + 1))) := by
  refine ⟨⟨by simp [mI_wI], by simp; omega, fun j e he => ?_⟩, ⟨(((sfr.w2 (by decide) (by decide) hl).tr (sfr.w2 (by decide) (by decide) hl)).tr (sfr.w2 (by decide) (by decide) hl)).tr (sfr.w1 (by decide) (by decide)), fun x h1 h2 => ?_⟩⟩
  · by_cases hj : j < es.length
    · rw [List.getElem?_append_left hj] at he
      obtain ⟨h1, h2, h3⟩ := h.2.2 j e he
      have hne : ¬ 40 * s + j = 40 * s + es.length := by omega
      simp [mI_wI, h1, h2, h3]
      omega
    · have hj2 : j = es.length := by
        have := (List.getElem?_eq_some_iff.mp he).1
        simp at this
        omega
      subst hj2
      simp at he
      subst he
      simp [mI_wI]
  · rw [mI_wI_n _ _ _ (by omega), mI_wI_n _ _ _ (by omega), mI_wI_n _ _ _ (by omega), mI_wI_n _ _ _ (by omega)]
theorem DM_fold {M : am_M} {s : Nat} {es : List tE} (h : DM M s es) {p : Nat} {e : tE} (he : es[p]? = some e) (x : Int32) : DM (wI M 113 (40 * s + p) x) s (es.set p (e.1, x, e.2.2)) ∧ afr s M (wI M 113 (40 * s + p) x) := by
  have hp : p < es.length := (List.getElem?_eq_some_iff.mp he).1
  have h40 := h.2.1
  refine ⟨⟨by rw [mI_wI_n _ _ _ (by decide), List.length_set]; exact h.1, by rw [List.length_set]; exact h.2.1, fun j f hf => ?_⟩, ⟨sfr.w2 (by decide) (by decide) (by omega), fun y h1 h2 => by rw [mI_wI_n _ _ _ (by omega)]⟩⟩
  by_cases hj : j = p
  · subst hj
    rw [List.getElem?_set_self hp] at hf
    cases hf
    obtain ⟨h1, h2, h3⟩ := h.2.2 j e he
    simp [mI_wI, h1, h3]
  · rw [List.getElem?_set_ne (fun q => hj q.symm)] at hf
    obtain ⟨h1, h2, h3⟩ := h.2.2 j f hf
    simp [mI_wI, hj, h1, h2, h3]
theorem pl_lt {v : Nat} : ∀ {es : List tE} {i : Nat}, i < t_pl v es → ∃ e, es[i]? = some e ∧ e.1 ≠ v
  | [], i, h => absurd h (by unfold t_pl; omega)
  | f :: es, i, h => by
    unfold t_pl at h
    by_cases c : f.1 = v
    · rw [if_pos c] at h; omega
    · rw [if_neg c] at h
      cases i with
      | zero => exact ⟨f, rfl, c⟩
      | succ i => exact pl_lt (es := es) (i := i) (by omega)
theorem pl_at {v : Nat} : ∀ {es : List tE}, t_pl v es < es.length → ∃ e, es[t_pl v es]? = some e ∧ e.1 = v
  | [], h => absurd h (Nat.not_lt_zero _)
  | f :: es, h => by
    unfold t_pl at h ⊢
    by_cases c : f.1 = v
    · rw [if_pos c]; exact ⟨f, rfl, c⟩
    · rw [if_neg c] at h ⊢
      exact pl_at (es := es) (by simp at h; omega)
/-- the entries of one vertex, active or not -/
def t_eV (g : tG) (n o v i : Nat) (es : List tE) : List tE := if ga g 0 v = n ∧ ga g 1 v = 1 then t_entV g o v i es else es
theorem t_entP_s (g : tG) (n o v : Nat) : t_entP g n o (v + 1) = t_eV g n o v (gs g 2) (t_entP g n o v) := rfl
theorem t_eV_0 (g : tG) (n o v : Nat) (es : List tE) : t_eV g n o v 0 es = es := by unfold t_eV; split <;> rfl
theorem t_eV_s (g : tG) (n o v i : Nat) (es : List tE) : t_eV g n o v (i + 1) es = if (ga g 0 v = n ∧ ga g 1 v = 1) ∧ ga g 2 i = v ∧ ga g 0 (ga g 3 i) = o then t_add (gs g 4) (gs g 3) (t_eV g n o v i es) (ga g 3 i) (t_msg (gs g 3) (gi g 1 v) (gi g 3 i)) i else t_eV g n o v i es := by
  unfold t_eV
  by_cases c : ga g 0 v = n ∧ ga g 1 v = 1
  · rw [if_pos c, if_pos c, t_entV_s]
    by_cases d : ga g 2 i = v ∧ ga g 0 (ga g 3 i) = o
    · rw [if_pos d, if_pos ⟨c, d⟩]
    · rw [if_neg d, if_neg (fun z => d z.2)]
  · rw [if_neg c, if_neg c, if_neg (fun z => c z.1)]
theorem t_eV_40 {g : tG} (h : gs g 2 ≤ 40) (n o v : Nat) {i : Nat} (hi : i ≤ gs g 2) : (t_eV g n o v i (t_entP g n o v)).length ≤ 40 := by
  unfold t_eV
  split
  · exact t_ent_40 h n o v hi
  · have := t_ent_40 h n o v (Nat.zero_le (gs g 2))
    exact this
theorem t_eV_mem {g : tG} {P : tE → Prop} {n o v : Nat} (hc : ∀ e x, P e → P (e.1, x, e.2.2)) (hP : ∀ a m, a < gs g 2 → P (ga g 3 a, m, a)) : ∀ i, i ≤ gs g 2 → ∀ e ∈ t_eV g n o v i (t_entP g n o v), P e := fun i hi => by
  unfold t_eV
  split
  · exact t_entV_mem hc hP (t_entP_mem hc hP v) i hi
  · exact t_entP_mem hc hP v
theorem yO_let {M : am_M} {s : Nat} {t : tL} (h0 : mI M 105 s = 1) (h1 : mI M 106 s = nI t.1) (h2 : mI M 107 s = nI t.2.1) (h3 : mI M 108 s = nI t.2.2.1) (h4 : mI M 109 s = nI t.2.2.2.1) (h5 : mI M 110 s = nI t.2.2.2.2.1) (hD : DM M s t.2.2.2.2.2) : yO M s (some t) := ⟨h0, h1, h2, h3, h4, h5, hD.1, hD.2.2⟩
