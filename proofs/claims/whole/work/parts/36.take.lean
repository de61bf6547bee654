/-! MESSAGES ARE TAKEN: the memory -/
def BX (M : am_M) (B : tB) : Prop := ∀ v, v < 16 → match B v with
  | none => mI M 17 v = 0
  | some (x, a) => mI M 17 v = 1 ∧ mI M 18 v = x ∧ mI M 19 v = nI a ∧ a < 40
theorem BX_clear (M : am_M) : BX (wF M 17 (fl (mI M 17) 16 0)) (fun _ => none) := fun v hv => by
  show mI _ 17 v = 0
  rw [mI_wF_s]
  simp [fl, hv]
theorem BX_put {M : am_M} {B : tB} (h : BX M B) {k v a : Nat} {m : Int32} (hv : v < 16) (ha : a < 40) : BX (x_put M k v m a) (t_hear k B v m a) := by
  intro u hu
  have hb := h u hu
  unfold t_hear
  by_cases c : u = v
  · subst c
    rw [va_up_self]
    cases e : B u with
    | none =>
      rw [e] at hb
      unfold x_put
      rw [if_pos (Or.inl hb)]
      simp [mI_wI, ha]
    | some y =>
      obtain ⟨x, b⟩ := y
      rw [e] at hb
      obtain ⟨h1, h2, h3, h4⟩ := hb
      have n0 : ¬ mI M 17 u = 0 := by rw [h1]; decide
      dsimp only
      unfold x_put
      rw [h3]
      by_cases k3 : k = 3
      · rw [if_pos k3]
        by_cases ba : b < a
        · rw [if_pos ba, if_pos (Or.inr ⟨k3, nI_lt ba (by omega)⟩)]
          simp [mI_wI, ha]
        · rw [if_neg ba, if_neg (fun z => z.elim n0 (fun z => ba ((nI_ltI (by omega) (by omega)).mp z.2))), if_pos k3]
          exact ⟨h1, h2, h3, h4⟩
      · rw [if_neg k3, if_neg (fun z => z.elim n0 (fun z => k3 z.1)), if_neg k3]
        simp [mI_wI, h1, h2, h3, h4]
  · rw [va_up_ne _ _ c]
    have e17 : mI (x_put M k v m a) 17 u = mI M 17 u := by unfold x_put; split; simp [mI_wI, c]; split; rfl; simp [mI_wI]
    have e18 : mI (x_put M k v m a) 18 u = mI M 18 u := by unfold x_put; split; simp [mI_wI, c]; split; rfl; simp [mI_wI, c]
    have e19 : mI (x_put M k v m a) 19 u = mI M 19 u := by unfold x_put; split; simp [mI_wI, c]; split; rfl; simp [mI_wI]
    cases e : B u with
    | none => rw [e] at hb; show mI _ 17 u = 0; rw [e17]; exact hb
    | some y => obtain ⟨x, b⟩ := y; rw [e] at hb; show mI _ 17 u = 1 ∧ _; rw [e17, e18, e19]; exact hb
theorem BX_putAll {M : am_M} {B : tB} (h : BX M B) {k : Nat} {es : List tE} {ev ea : Nat → Nat} {f : Nat → Int32} (hE : ∀ j e, es[j]? = some e → ev j = e.1 ∧ f j = e.2.1 ∧ ea j = e.2.2 ∧ e.1 < 16 ∧ e.2.2 < 40) : ∀ i, i ≤ es.length → BX (itr (fun j N => x_put N k (ev j) (f j) (ea j)) i M) (t_hearL k B (es.take i))
  | 0, _ => h
  | i + 1, hi => by
    have ih := BX_putAll h (k := k) hE i (by omega)
    obtain ⟨e1, e2, e3, e4, e5⟩ := hE i es[i] (List.getElem?_eq_getElem (by omega))
    have ht : es.take (i + 1) = es.take i ++ [es[i]] := (List.take_append_getElem (by omega)).symm
    rw [itr_s, ht]
    show BX _ ((es.take i ++ [es[i]]).foldl _ B)
    rw [List.foldl_append]
    show BX (x_put _ k (ev i) (f i) (ea i)) (t_hear k (t_hearL k B (es.take i)) es[i].1 es[i].2.1 es[i].2.2)
    rw [e1, e2, e3]
    exact BX_put ih e4 e5
theorem BX.fr {S : Nat → Prop} {M M' : am_M} {B : tB} (h : am_fr S M M') (h1 : ¬ S 17) (h2 : ¬ S 18) (h3 : ¬ S 19) (k : BX M B) : BX M' B := fun v hv => by
  have := k v hv
  rw [h.2.2.2 17 h1, h.2.2.2 18 h2, h.2.2.2 19 h3]
  exact this
theorem BX_after {M : am_M} {B : tB} (h : BX M B) {k v : Nat} (hv : v < 16) (x : Int32) : x_after M k v x = t_behind k B v x := by
  have hb := h v hv
  unfold x_after t_behind
  cases e : B v with
  | none => rw [e] at hb; rw [if_pos hb]
  | some y =>
    obtain ⟨z, b⟩ := y
    rw [e] at hb
    obtain ⟨h1, h2, -⟩ := hb
    rw [if_neg (by rw [h1]; decide), h2]
/-- the same but for what vertices take -/
def sameT (g h : tG) : Prop := gs h = gs g ∧ gn h = gn g ∧ gl h = gl g ∧ gm h = gm g ∧ gv h = gv g ∧ (∀ k, k ≠ 1 → ga h k = ga g k) ∧ (∀ k, k ≠ 1 → k ≠ 2 → gi h k = gi g k) ∧ ((∀ v, ga g 1 v ≤ 1) → ∀ v, ga h 1 v ≤ 1)
theorem sameT.rf {g : tG} : sameT g g := ⟨rfl, rfl, rfl, rfl, rfl, fun _ _ => rfl, fun _ _ _ => rfl, fun h => h⟩
theorem sameT.tr {g h k : tG} (a : sameT g h) (b : sameT h k) : sameT g k := ⟨b.1.trans a.1, b.2.1.trans a.2.1, b.2.2.1.trans a.2.2.1, b.2.2.2.1.trans a.2.2.2.1, b.2.2.2.2.1.trans a.2.2.2.2.1, fun j hj => (b.2.2.2.2.2.1 j hj).trans (a.2.2.2.2.2.1 j hj), fun j h1 h2 => (b.2.2.2.2.2.2.1 j h1 h2).trans (a.2.2.2.2.2.2.1 j h1 h2), fun z => b.2.2.2.2.2.2.2 (a.2.2.2.2.2.2.2 z)⟩
theorem ga_uaf (g : tG) {k j : Nat} (i v : Nat) (h : j ≠ k) : ga (ua g k i v) j = ga g j := by
  show am_u (ga g) k i v j = _
  unfold am_u
  rw [if_neg h]
theorem gi_uif (g : tG) {k j : Nat} (i : Nat) (v : Int32) (h : j ≠ k) : gi (ui g k i v) j = gi g j := by
  show am_u (gi g) k i v j = _
  unfold am_u
  rw [if_neg h]
theorem gi_ui (g : tG) (k i : Nat) (v : Int32) (j m : Nat) : gi (ui g k i v) j m = if j = k ∧ m = i then v else gi g j m := by
  show am_u (gi g) k i v j m = _
  unfold am_u
  by_cases h : j = k
  · subst h
    by_cases h2 : m = i <;> simp [va_up, h2]
  · simp [h]
theorem sameT_settle (B : tB) (v : Nat) (g : tG) : sameT g (g_settle B v g) := by
  unfold g_settle
  split
  · refine ⟨rfl, rfl, rfl, rfl, rfl, fun k hk => ga_uaf _ _ _ hk, fun k h1 h2 => ?_, fun z u => ?_⟩
    · show gi (ui (ui g 1 v _) 2 v _) k = gi g k
      rw [gi_uif _ _ _ h2, gi_uif _ _ _ h1]
    · rw [ga_ua]
      split
      · split <;> omega
      · exact z u
  · refine ⟨rfl, rfl, rfl, rfl, rfl, fun k hk => ga_uaf _ _ _ hk, fun k h1 h2 => gi_uif _ _ _ h1, fun z u => ?_⟩
    rw [ga_ua]
    split
    · split <;> omega
    · exact z u
def g_takeP (n : Nat) (g : tG) (i : Nat) : tG := itr (fun v h => if ga g 0 v = n then g_settle (t_box g n) v h else h) i g
theorem sameT_takeP (n : Nat) (g : tG) : ∀ i, sameT g (g_takeP n g i)
  | 0 => sameT.rf
  | i + 1 => by
    show sameT g (if ga g 0 i = n then g_settle (t_box g n) i (g_takeP n g i) else g_takeP n g i)
    split
    · exact (sameT_takeP n g i).tr (sameT_settle _ _ _)
    · exact sameT_takeP n g i
theorem sameT_take (n : Nat) (g : tG) : sameT g (g_take n g) := sameT_takeP n g (gs g 1)
theorem settle_le {g : tG} {B : tB} {v : Nat} (h : ∀ u, u < gs g 1 → ga g 1 u ≤ 1) : ∀ u, u < gs g 1 → ga (g_settle B v g) 1 u ≤ 1 := by
  intro u hu
  unfold g_settle
  split
  · rw [ga_ua]
    split
    · split <;> omega
    · exact h u hu
  · rw [ga_ua]
    split
    · split <;> omega
    · exact h u hu
theorem takeP_le {n : Nat} {g : tG} (h : ∀ u, u < gs g 1 → ga g 1 u ≤ 1) : ∀ i, ∀ u, u < gs g 1 → ga (g_takeP n g i) 1 u ≤ 1
  | 0 => h
  | i + 1 => by
    have ih := takeP_le (n := n) h i
    have e := (sameT_takeP n g i).1
    show ∀ u, u < gs g 1 → ga (if ga g 0 i = n then g_settle (t_box g n) i (g_takeP n g i) else g_takeP n g i) 1 u ≤ 1
    split
    · have := settle_le (g := g_takeP n g i) (B := t_box g n) (v := i) (by rw [e]; exact ih)
      rw [e] at this
      exact this
    · exact ih
theorem gB_takeP {n : Nat} {g : tG} (hB : gB g) (i : Nat) : gB (g_takeP n g i) := by
  have s := sameT_takeP n g i
  have hl := takeP_le (n := n) (g := g) (fun u hu => (hB.2.2.2.2.2.2.2.2.2.2.1 u hu).2) i
  obtain ⟨b0, b1, b2, b3, b4, b5, b6, b7, b8, b9, bV, bA, bN, bl, bn, bh⟩ := hB
  obtain ⟨s1, s2, s3, s4, s5, s6, s7, -⟩ := s
  unfold gB okL
  rw [s1, s2, s3, s6 0 (by decide), s6 2 (by decide), s6 3 (by decide), s6 4 (by decide), s6 5 (by decide), s6 6 (by decide)]
  exact ⟨b0, b1, b2, b3, b4, b5, b6, b7, b8, b9, fun v hv => ⟨(bV v hv).1, hl v hv⟩, bA, bN, bl, bn, bh⟩
theorem gB_take {n : Nat} {g : tG} (hB : gB g) : gB (g_take n g) := gB_takeP hB _
/-- a vertex takes -/
theorem absX_settle {M : am_M} {g : tG} {B : tB} {v : Nat} (hN : 125 ≤ mN M) (k : absX M g) (hb : BX M B) (hv : v < gs g 1) (h16 : gs g 1 ≤ 16) : absX (x_settle M (gs g 3) v 9 10 11) (g_settle B v g) ∧ am_fr (fun x => x = 9 ∨ x = 10 ∨ x = 11) M (x_settle M (gs g 3) v 9 10 11) := by
  obtain ⟨k1, k2, k3, k4, k5, k6, k7, k8⟩ := k
  have ea : x_after M (gs g 3) v (mI M 9 v) = t_behind (gs g 3) B v (gi g 1 v) := by rw [BX_after hb (by omega), (k2 v hv).2.2.1]
  have hf : am_fr (fun x => x = 9 ∨ x = 10 ∨ x = 11) M (x_settle M (gs g 3) v 9 10 11) := by
    unfold x_settle
    split
    · exact ⟨rfl, rfl, rfl, fun x hx => by rw [mI_wI_n _ _ _ (fun e => hx (Or.inr (Or.inr e))), mI_wI_n _ _ _ (fun e => hx (Or.inr (Or.inl e))), mI_wI_n _ _ _ (fun e => hx (Or.inl e))]⟩
    · exact ⟨rfl, rfl, rfl, fun x hx => by rw [mI_wI_n _ _ _ (fun e => hx (Or.inr (Or.inr e))), mI_wI_n _ _ _ (fun e => hx (Or.inl e))]⟩
  have h := hf.gr
  have nl : ∀ x, 126 ≤ x → x ≤ mN M → ¬ (x = 9 ∨ x = 10 ∨ x = 11) := fun x h1 h2 e => by omega
  have s := sameT_settle B v g
  obtain ⟨s1, s2, s3, s4, s5, s6, s7, -⟩ := s
  refine ⟨⟨?_, fun u hu => ?_, ?_, ?_, ?_, ?_, ?_, k8.gr h hN (fun m j hm h1 h2 => by omega)⟩, hf⟩
  · have := k1.gr h hN (by omega) (by omega) (by omega)
    unfold xS at this ⊢
    rw [s1]
    exact this
  · rw [s1] at hu
    obtain ⟨v3, v4, v9, v10, v11⟩ := k2 u hu
    have f3 : mI (x_settle M (gs g 3) v 9 10 11) 3 u = nI (ga (g_settle B v g) 0 u) := by rw [hf.2.2.2 3 (by omega), s6 0 (by decide)]; exact v3
    have f4 : mI (x_settle M (gs g 3) v 9 10 11) 4 u = gi (g_settle B v g) 0 u := by rw [hf.2.2.2 4 (by omega), s7 0 (by decide) (by decide)]; exact v4
    refine ⟨f3, f4, ?_⟩
    unfold x_settle g_settle
    rw [ea]
    by_cases k2' : gs g 3 = 2
    · rw [if_pos k2', if_pos k2', k2']
      generalize t_behind 2 B v (gi g 1 v) = A
      have gA : ∀ j, gi (ua (ui (ui g 1 v A) 2 v (gi g 2 v + A)) 1 v (if A = 0 then 0 else 1)) j u = if j = 2 ∧ u = v then gi g 2 v + A else if j = 1 ∧ u = v then A else gi g j u := fun j => by
        show gi (ui (ui g 1 v A) 2 v (gi g 2 v + A)) j u = _
        rw [gi_ui, gi_ui]
      have gC : ga (ua (ui (ui g 1 v A) 2 v (gi g 2 v + A)) 1 v (if A = 0 then 0 else 1)) 1 u = if u = v then (if A = 0 then 0 else 1) else ga g 1 u := by
        rw [ga_ua]
        by_cases c : u = v
        · rw [if_pos ⟨rfl, c⟩, if_pos c]
        · rw [if_neg (by omega), if_neg c]
          rfl
      rw [gA, gA, gC]
      by_cases c : u = v
      · subst c
        simp [mI_wI, v10]
        split <;> rfl
      · simp [mI_wI, c, v9, v10, v11]
    · rw [if_neg k2', if_neg k2']
      show _ ∧ _ ∧ _ = nI (ga (ua _ 1 v _) 1 u)
      rw [ga_ua]
      by_cases c : u = v
      · subst c
        simp [mI_wI, v9, v10]
        refine ⟨?_, ?_, ?_⟩
        · show _ = gi (ui g 1 u _) 1 u
          rw [gi_ui]
          simp
        · show _ = gi (ui g 1 u _) 2 u
          rw [gi_ui]
          simp
        · split <;> rfl
      · simp [mI_wI, c, v9, v10, v11]
        refine ⟨?_, ?_, ?_⟩
        · show _ = gi (ui g 1 v _) 1 u
          rw [gi_ui]
          simp [c]
        · show _ = gi (ui g 1 v _) 2 u
          rw [gi_ui]
          simp
        · rfl
  · have := k3.gr h hN (by omega) (by omega) (by omega)
    unfold xA at this ⊢
    rw [s1, s6 2 (by decide), s6 3 (by decide), s7 3 (by decide) (by decide)]
    exact this
  · have := k4.gr h hN (fun m hm => by omega)
    unfold xN at this ⊢
    rw [s6 4 (by decide), s6 5 (by decide), s6 6 (by decide)]
    exact this
  · have := k5.gr h hN (by omega) (by omega) nl
    unfold xE at this ⊢
    rw [s2]
    exact this
  · have := k6.gr h hN (fun m hm => by omega) (fun m hm => by omega) nl
    unfold xH at this ⊢
    rw [s3, s6 4 (by decide)]
    exact this
  · have := k7.gr h hN (fun m hm => by omega) (fun m j hm h1 h2 => by omega)
    unfold xM mkV at this ⊢
    rw [s1, s4, s5, s6 0 (by decide)]
    exact this
