/-! WHAT A NODE'S STEP CHANGES -/
/-- all but what is node n's (and the net, and what is counted) stays -/
def oN (n : Nat) (g h : tG) : Prop := (∀ k, k ≠ 8 → gs h k = gs g k) ∧ (∀ k m, (k < 4 ∨ m ≠ n) → ga h k m = ga g k m) ∧ gi h = gi g ∧ (∀ k m o, m ≠ n → gl h k m o = gl g k m o) ∧ (∀ m i, m ≠ n → gm h m i = gm g m i) ∧ ∀ m i, m ≠ n → gv h m i = gv g m i
theorem oN.rf {n : Nat} {g : tG} : oN n g g := ⟨fun _ _ => rfl, fun _ _ _ => rfl, rfl, fun _ _ _ _ => rfl, fun _ _ _ => rfl, fun _ _ _ => rfl⟩
theorem oN.tr {n : Nat} {g h k : tG} (a : oN n g h) (b : oN n h k) : oN n g k := ⟨fun i hi => (b.1 i hi).trans (a.1 i hi), fun i m hi => (b.2.1 i m hi).trans (a.2.1 i m hi), b.2.2.1.trans a.2.2.1, fun i m o hm => (b.2.2.2.1 i m o hm).trans (a.2.2.2.1 i m o hm), fun m i hm => (b.2.2.2.2.1 m i hm).trans (a.2.2.2.2.1 m i hm), fun m i hm => (b.2.2.2.2.2 m i hm).trans (a.2.2.2.2.2 m i hm)⟩
theorem write1_ne {n o : Nat} (h : o ≠ n) (g : tG) : g_write1 n o g = un (us (ul g (l_set (gl g) 3 n o (some (t_let g n o)))) 8 (gs g 8 + 1)) (t_push (gn g) (t_let g n o)) := if_neg h
theorem write1_eq {n o : Nat} (h : o = n) (g : tG) : g_write1 n o g = g := if_pos h
theorem gl_write1 (n o : Nat) (g : tG) (k m q : Nat) (h : k ≠ 3 ∨ m ≠ n) : gl (g_write1 n o g) k m q = gl g k m q := by
  by_cases c : o = n
  · rw [write1_eq c]
  · rw [write1_ne c]
    show l_set (gl g) 3 n o (some (t_let g n o)) k m q = _
    rw [l_set, if_neg (by omega)]
theorem oN_write1 (n o : Nat) (g : tG) : oN n g (g_write1 n o g) := by
  have s := sameW_write1 n o g
  exact ⟨s.2.2.2.2, fun k m _ => by rw [s.1], s.2.1, fun k m q hm => gl_write1 n o g k m q (Or.inr hm), fun m i _ => by rw [s.2.2.1], fun m i _ => by rw [s.2.2.2.1]⟩
theorem oN_writeP (n : Nat) (g : tG) : ∀ i, oN n g (itr (fun o => g_write1 n o) i g)
  | 0 => oN.rf
  | i + 1 => (oN_writeP n g i).tr (oN_write1 n i _)
theorem oN_write (n : Nat) (g : tG) : oN n g (g_write n g) := oN_writeP n g _
theorem gl_writeP (n : Nat) (g : tG) (k m q : Nat) (h : k ≠ 3 ∨ m ≠ n) : ∀ i, gl (itr (fun o => g_write1 n o) i g) k m q = gl g k m q
  | 0 => rfl
  | i + 1 => (gl_write1 n i _ k m q h).trans (gl_writeP n g k m q h i)
theorem gl_write (n : Nat) (g : tG) (k m q : Nat) (h : k ≠ 3 ∨ m ≠ n) : gl (g_write n g) k m q = gl g k m q := gl_writeP n g k m q h _
theorem any_write1 {n o : Nat} {g : tG} {t : tL} (h : t_any (g_write1 n o g) t) : t_any g t ∨ (t.1 = gs g 7 ∧ t.2.1 = ga g 4 n ∧ t.2.2.1 = n) := by
  by_cases c : o = n
  · rw [write1_eq c] at h
    exact Or.inl h
  · rw [write1_ne c] at h
    rcases h with h | ⟨k, m, q, h⟩
    · have h : t ∈ t_push (gn g) (t_let g n o) := h
      unfold t_push at h
      split at h
      · rcases List.mem_append.mp h with h | h
        · exact Or.inl (Or.inl h)
        · rw [List.mem_singleton.mp h]
          exact Or.inr ⟨rfl, rfl, rfl⟩
      · exact Or.inl (Or.inl h)
    · have h : (if k = 3 ∧ m = n ∧ q = o then some (t_let g n o) else gl g k m q) = some t := h
      split at h
      · cases h
        exact Or.inr ⟨rfl, rfl, rfl⟩
      · exact Or.inl (Or.inr ⟨k, m, q, h⟩)
theorem any_writeP {n : Nat} {g : tG} {t : tL} : ∀ i, t_any (itr (fun o => g_write1 n o) i g) t → t_any g t ∨ (t.1 = gs g 7 ∧ t.2.1 = ga g 4 n ∧ t.2.2.1 = n)
  | 0, h => Or.inl h
  | i + 1, h => by
    have s := sameW_itr n g i
    rcases any_write1 (show t_any (g_write1 n i (itr (fun o => g_write1 n o) i g)) t from h) with h | h
    · exact any_writeP i h
    · rw [s.1, s.2.2.2.2 7 (by decide)] at h
      exact Or.inr h
theorem any_write {n : Nat} {g : tG} {t : tL} (h : t_any (g_write n g) t) : t_any g t ∨ (t.1 = gs g 7 ∧ t.2.1 = ga g 4 n ∧ t.2.2.1 = n) := any_writeP _ h
theorem oN_mark (n : Nat) (g : tG) : oN n g (g_mark n g) := ⟨fun _ _ => rfl, fun _ _ _ => rfl, rfl, fun _ _ _ _ => rfl, fun m i hm => if_neg hm, fun m i hm => by funext v; exact if_neg hm⟩
theorem gB_mark {n : Nat} {g : tG} (hB : gB g) : gB (g_mark n g) := hB
theorem oN_ua (n : Nat) (g : tG) {k : Nat} (hk : 4 ≤ k) (v : Nat) : oN n g (ua g k n v) := ⟨fun _ _ => rfl, fun j m hj => by rw [ga_ua, if_neg (by omega)], rfl, fun _ _ _ _ => rfl, fun _ _ _ => rfl, fun _ _ _ => rfl⟩
theorem oN_shift (n : Nat) (g : tG) : oN n g (g_shift n g) := ⟨fun _ _ => rfl, fun _ _ _ => rfl, rfl, fun k m o hm => if_neg hm, fun _ _ _ => rfl, fun _ _ _ => rfl⟩
/-- what is before letters are written in the new round -/
def g_come0 (n r : Nat) (g : tG) : tG := if r = 0 ∨ (0 < gs g 5 ∧ r % gs g 5 = 0) then g_mark n (g_shift n (ua g 4 n r)) else g_shift n (ua g 4 n r)
theorem come_200 (n : Nat) (g : tG) : g_come n 200 g = ua (g_shift n (ua g 4 n 200)) 5 n 1 := if_pos rfl
theorem come_w {n r : Nat} (h : r ≠ 200) (g : tG) : g_come n r g = g_write n (g_come0 n r g) := by
  unfold g_come g_come0
  rw [if_neg h]
  split <;> rfl
theorem oN_come0 (n r : Nat) (g : tG) : oN n g (g_come0 n r g) := by
  unfold g_come0
  split
  · exact ((oN_ua n g (by decide) r).tr (oN_shift n _)).tr (oN_mark n _)
  · exact (oN_ua n g (by decide) r).tr (oN_shift n _)
theorem oN_come (n r : Nat) (g : tG) : oN n g (g_come n r g) := by
  by_cases h : r = 200
  · subst h
    rw [come_200]
    exact ((oN_ua n g (by decide) 200).tr (oN_shift n _)).tr (oN_ua n _ (by decide) 1)
  · rw [come_w h]
    exact (oN_come0 n r g).tr (oN_write n _)
theorem come0_ga (n r : Nat) (g : tG) : ga (g_come0 n r g) = ga (ua g 4 n r) := by
  unfold g_come0
  split <;> rfl
theorem come0_gl (n r : Nat) (g : tG) : gl (g_come0 n r g) = gl (g_shift n (ua g 4 n r)) := by
  unfold g_come0
  split <;> rfl
theorem come0_gn (n r : Nat) (g : tG) : gn (g_come0 n r g) = gn g := by
  unfold g_come0
  split <;> rfl
theorem come0_gs (n r : Nat) (g : tG) : gs (g_come0 n r g) = gs g := by
  unfold g_come0
  split <;> rfl
theorem gB_come0 {n r : Nat} {g : tG} (hB : gB g) (hr : r ≤ 200) : gB (g_come0 n r g) := by
  unfold g_come0
  split
  · exact gB_mark (gB_shift hB hr)
  · exact gB_shift hB hr
theorem gB_ua {g : tG} (hB : gB g) (n : Nat) {k v : Nat} (hk : k = 5 ∨ k = 6) (hv : v ≤ 1) : gB (ua g k n v) := by
  obtain ⟨b0, b1, b2, b3, b4, b5, b6, b7, b8, b9, bV, bA, bN, bl, bn, bh⟩ := hB
  refine ⟨b0, b1, b2, b3, b4, b5, b6, b7, b8, b9, fun v hv => ?_, fun a ha => ?_, fun m hm => ?_, bl, bn, bh⟩
  · rw [ga_ua, ga_ua, if_neg (by omega), if_neg (by omega)]
    exact bV v hv
  · rw [ga_ua, ga_ua, if_neg (by omega), if_neg (by omega)]
    exact bA a ha
  · obtain ⟨c1, c2, c3⟩ := bN m hm
    rw [ga_ua, ga_ua, ga_ua, if_neg (by omega)]
    refine ⟨c1, ?_, ?_⟩ <;> split <;> omega
theorem gB_come {n r : Nat} {g : tG} (hB : gB g) (hn : n < gs g 0) (hr : r ≤ 200) : gB (g_come n r g) := by
  by_cases h : r = 200
  · subst h
    rw [come_200]
    exact gB_ua (gB_shift hB (Nat.le_refl _)) n (Or.inl rfl) (Nat.le_refl _)
  · rw [come_w h]
    refine gB_write (gB_come0 hB hr) (by rw [come0_gs]; exact hn) ?_
    rw [come0_ga, ga_ua, if_pos ⟨rfl, rfl⟩]
    omega
theorem come_ga (n r : Nat) (g : tG) (k m : Nat) : ga (g_come n r g) k m = if k = 4 ∧ m = n then r else if k = 5 ∧ m = n ∧ r = 200 then 1 else ga g k m := by
  by_cases h : r = 200
  · subst h
    rw [come_200, ga_ua]
    show (if k = 5 ∧ m = n then 1 else ga (ua g 4 n 200) k m) = _
    rw [ga_ua]
    by_cases c : k = 5 ∧ m = n
    · rw [if_pos c, if_neg (by omega), if_pos ⟨c.1, c.2, rfl⟩]
    · rw [if_neg c]
      by_cases d : k = 4 ∧ m = n
      · rw [if_pos d, if_pos d]
      · rw [if_neg d, if_neg d, if_neg (fun z => c ⟨z.1, z.2.1⟩)]
  · rw [come_w h, (sameW_write n _).1, come0_ga, ga_ua]
    by_cases d : k = 4 ∧ m = n
    · rw [if_pos d, if_pos d]
    · rw [if_neg d, if_neg d, if_neg (fun z => h z.2.2)]
theorem come_gs (n r : Nat) (g : tG) {k : Nat} (hk : k ≠ 8) : gs (g_come n r g) k = gs g k := (oN_come n r g).1 k hk
theorem shift_any {n : Nat} {g : tG} {t : tL} {k m o : Nat} (h : gl (g_shift n g) k m o = some t) : ∃ k' m', gl g k' m' o = some t := by
  have h' : (if m = n then (if k = 0 then gl g 1 n o else if k = 2 then gl g 3 n o else if k = 1 ∨ k = 3 then none else gl g k n o) else gl g k m o) = some t := h
  split at h'
  · split at h'
    · exact ⟨_, _, h'⟩
    · split at h'
      · exact ⟨_, _, h'⟩
      · split at h'
        · cases h'
        · exact ⟨_, _, h'⟩
  · exact ⟨_, _, h'⟩
theorem any_come {n r : Nat} {g : tG} {t : tL} (h : t_any (g_come n r g) t) : t_any g t ∨ (t.1 = gs g 7 ∧ t.2.1 = r ∧ t.2.2.1 = n) := by
  have key : ∀ {u : tG}, gn u = gn g → gl u = gl (g_shift n (ua g 4 n r)) → t_any u t → t_any g t := fun e1 e2 h => by
    rcases h with h | ⟨k, m, q, h⟩
    · exact Or.inl (e1 ▸ h)
    · rw [e2] at h
      obtain ⟨k', m', h⟩ := shift_any h
      exact Or.inr ⟨k', m', q, h⟩
  by_cases c : r = 200
  · subst c
    rw [come_200] at h
    exact Or.inl (key (u := ua (g_shift n (ua g 4 n 200)) 5 n 1) rfl rfl h)
  · rw [come_w c] at h
    rcases any_write h with h | h
    · exact Or.inl (key (come0_gn n r g) (come0_gl n r g) h)
    · rw [come0_gs, come0_ga, ga_ua, if_pos ⟨rfl, rfl⟩] at h
      exact Or.inr h
theorem come_gl {n r : Nat} {g : tG} {k m o : Nat} (hk : k ≠ 3) : gl (g_come n r g) k m o = gl (g_shift n g) k m o := by
  by_cases c : r = 200
  · subst c
    rw [come_200]
    rfl
  · rw [come_w c, gl_write n _ k m o (Or.inl hk), come0_gl]
    rfl
/-- marks behind a step into a round -/
theorem come_gm (n r : Nat) (g : tG) (m i : Nat) : gm (g_come n r g) m i = if m = n ∧ r ≠ 200 ∧ (r = 0 ∨ (0 < gs g 5 ∧ r % gs g 5 = 0)) then (if i = 0 then gm g n 1 else some r) else gm g m i := by
  by_cases c : r = 200
  · subst c
    rw [come_200, if_neg (fun z => z.2.1 rfl)]
    rfl
  · rw [come_w c, (sameW_write n _).2.2.1]
    unfold g_come0
    by_cases d : r = 0 ∨ (0 < gs g 5 ∧ r % gs g 5 = 0)
    · rw [if_pos d]
      show (if m = n then (if i = 0 then gm g n 1 else some (ga (ua g 4 n r) 4 n)) else gm g m i) = _
      rw [ga_ua, if_pos (show 4 = 4 ∧ n = n from ⟨rfl, rfl⟩)]
      by_cases e : m = n
      · rw [if_pos e, if_pos (show m = n ∧ r ≠ 200 ∧ (r = 0 ∨ (0 < gs g 5 ∧ r % gs g 5 = 0)) from ⟨e, c, d⟩)]
      · rw [if_neg e, if_neg (fun z => e z.1)]
    · rw [if_neg d, if_neg (fun z => d z.2.2)]
      rfl
theorem gMB_come {n r : Nat} {g : tG} (h : gMB g) (hr : r ≤ 200) : gMB (g_come n r g) := fun m i x e => by
  rw [come_gm] at e
  split at e
  · rename_i z
    split at e
    · exact h n 1 x e
    · cases e
      omega
  · exact h m i x e
/-! START -/
def startP (g : tG) (i : Nat) : tG := itr (fun n => g_come n 0) i (us g 6 1)
theorem gB_s6 {g : tG} (hB : gB g) : gB (us g 6 1) := by
  obtain ⟨b0, b1, b2, b3, b4, b5, b6, b7, b8, b9, bV, bA, bN, bl, bn, bh⟩ := hB
  exact ⟨b0, b1, b2, b3, b4, b5, b6, Nat.le_refl _, b8, b9, bV, bA, bN, bl, bn, bh⟩
theorem startP_i {g : tG} (hB : gB g) : ∀ i, i ≤ gs g 0 → gB (startP g i) ∧ (∀ k, k ≠ 8 → gs (startP g i) k = gs (us g 6 1) k) ∧ ∀ m, i ≤ m → (∀ k, ga (startP g i) k m = ga g k m) ∧ ∀ k o, gl (startP g i) k m o = gl g k m o
  | 0, _ => ⟨gB_s6 hB, fun _ _ => rfl, fun m _ => ⟨fun _ => rfl, fun _ _ => rfl⟩⟩
  | i + 1, hi => by
    obtain ⟨h1, h2, h3⟩ := startP_i hB i (by omega)
    have e : startP g (i + 1) = g_come i 0 (startP g i) := rfl
    have o := oN_come i 0 (startP g i)
    rw [e]
    refine ⟨gB_come h1 (by rw [h2 0 (by decide)]; show i < gs g 0; omega) (by decide), fun k hk => (o.1 k hk).trans (h2 k hk), fun m hm => ⟨fun k => ?_, fun k q => ?_⟩⟩
    · rw [o.2.1 k m (Or.inr (by omega))]
      exact (h3 m (by omega)).1 k
    · rw [o.2.2.2.1 k m q (by omega)]
      exact (h3 m (by omega)).2 k q
