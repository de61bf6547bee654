/-! ALL GO BACK, THEN ALL WRITE: the same as one by one -/
theorem comm1 {f : tG → tG} {n k o : Nat} (hnk : n ≠ k) (h : tG) (e1 : ∀ x, gs (f x) = gs x) (e2 : ∀ x, gn (f x) = gn x) (e3 : ∀ x, gl (f x) = fun k' n' o' => if n' = k then none else gl x k' n' o') (e4 : t_let (f h) n o = t_let h n o) (e5 : ∀ x y, sameW x y → ga (f y) = ga (f x) ∧ gi (f y) = gi (f x) ∧ gm (f y) = gm (f x) ∧ gv (f y) = gv (f x)) : f (g_write1 n o h) = g_write1 n o (f h) := by
  by_cases c : o = n
  · rw [write1_eq c, write1_eq c]
  · obtain ⟨q1, q2, q3, q4⟩ := e5 h (g_write1 n o h) (sameW_write1 n o h)
    have w := sameW_write1 n o (f h)
    refine tG_ext ?_ ?_ ?_ ?_ ?_ ?_ ?_
    · rw [e1, write1_ne c, write1_ne c]
      show va_up (gs h) 8 (gs h 8 + 1) = va_up (gs (f h)) 8 (gs (f h) 8 + 1)
      rw [e1]
    · rw [q1, w.1]
    · rw [q2, w.2.1]
    · rw [e2, write1_ne c, write1_ne c]
      show t_push (gn h) (t_let h n o) = t_push (gn (f h)) (t_let (f h) n o)
      rw [e2, e4]
    · rw [e3, write1_ne c, write1_ne c]
      show (fun k' n' o' => if n' = k then none else l_set (gl h) 3 n o (some (t_let h n o)) k' n' o') = l_set (gl (f h)) 3 n o (some (t_let (f h) n o))
      rw [e3, e4]
      funext k' n' o'
      simp only [l_set]
      by_cases d : n' = k
      · rw [if_pos d, if_neg (fun z => hnk (z.2.1.symm.trans d)), if_pos d]
      · rw [if_neg d]
        by_cases e : k' = 3 ∧ n' = n ∧ o' = o
        · rw [if_pos e, if_pos e]
        · rw [if_neg e, if_neg e, if_neg d]
    · rw [q3, w.2.2.1]
    · rw [q4, w.2.2.2.1]
theorem commW {f : tG → tG} {n k : Nat} (hnk : n ≠ k) (h : tG) (e1 : ∀ x, gs (f x) = gs x) (e2 : ∀ x, gn (f x) = gn x) (e3 : ∀ x, gl (f x) = fun k' n' o' => if n' = k then none else gl x k' n' o') (e4 : ∀ x o, t_let (f x) n o = t_let x n o) (e5 : ∀ x y, sameW x y → ga (f y) = ga (f x) ∧ gi (f y) = gi (f x) ∧ gm (f y) = gm (f x) ∧ gv (f y) = gv (f x)) : f (g_write n h) = g_write n (f h) := by
  have : ∀ i, f (itr (fun o => g_write1 n o) i h) = itr (fun o => g_write1 n o) i (f h) := fun i => by
    induction i with
    | zero => rfl
    | succ i ih => rw [itr_s _ i _, itr_s _ i _, ← ih, comm1 hnk _ e1 e2 e3 (e4 _ _) e5]
  show f (itr (fun o => g_write1 n o) (gs h 0) h) = itr (fun o => g_write1 n o) (gs (f h) 0) (f h)
  rw [e1]
  exact this _
theorem comm_loop {f : Nat → tG → tG} (hc : ∀ n k h, n < k → f k (g_write n h) = g_write n (f k h)) (g : tG) : ∀ k, itr (fun n h => g_write n (f n h)) k g = itr (fun n h => g_write n h) k (itr (fun n h => f n h) k g)
  | 0 => rfl
  | k + 1 => by
    have P : ∀ j, j ≤ k → ∀ x, f k (itr (fun n h => g_write n h) j x) = itr (fun n h => g_write n h) j (f k x) := fun j => by
      induction j with
      | zero => intro _ x; rfl
      | succ j ih =>
        intro hj x
        rw [itr_s _ j _, itr_s _ j _, hc j k _ (by omega), ih (by omega)]
    rw [itr_s _ k _, itr_s _ k _, itr_s _ k _, comm_loop hc g k, P k (Nat.le_refl _)]
theorem t_let_cg {g h : tG} {n : Nat} (e0 : gs h = gs g) (e1 : ∀ k, k ≠ 1 → k < 4 → ga h k = ga g k) (e4 : ga h 4 n = ga g 4 n) (e2 : ∀ v, ga g 0 v = n → ga h 1 v = ga g 1 v ∧ gi h 1 v = gi g 1 v) (e3 : gi h 3 = gi g 3) (o : Nat) : t_let h n o = t_let g n o := by
  have a0 := e1 0 (by decide) (by decide)
  have a2 := e1 2 (by decide) (by decide)
  have a3 := e1 3 (by decide) (by decide)
  have q1 : t_act h n = t_act g n := by
    unfold t_act
    rw [e0, a0]
    congr 1
    funext v c
    by_cases d : ga g 0 v = n
    · rw [(e2 v d).1]
    · rw [if_neg (fun z => d z.1), if_neg (fun z => d z.1)]
  have q2 : t_ent h n o = t_ent g n o := by
    unfold t_ent
    rw [e0, a0]
    congr 1
    funext v es
    by_cases d : ga g 0 v = n
    · rw [(e2 v d).1]
      have : t_entV h o v (gs g 2) es = t_entV g o v (gs g 2) es := by
        unfold t_entV
        rw [e0, a0, a2, a3, e3, (e2 v d).2]
      rw [this]
    · rw [if_neg (fun z => d z.1), if_neg (fun z => d z.1)]
  unfold t_let
  rw [q1, q2, e0, e4]
theorem backM_cg {n m : Nat} {x y : tG} (s : sameW x y) : gm (g_backM n m y) = gm (g_backM n m x) ∧ gv (g_backM n m y) = gv (g_backM n m x) := by
  constructor
  · funext j i
    rw [backM_gm, backM_gm, s.2.2.1]
  · funext j i
    rw [backM_gv, backM_gv, s.2.2.1, s.2.2.2.1]
theorem comm_back {m : Nat} {n k : Nat} {h : tG} (hnk : n ≠ k) : g_back1 k m (g_write n h) = g_write n (g_back1 k m h) := by
  refine commW (f := g_back1 k m) hnk h (fun x => (back1_f k m x).1) (fun x => (back1_f k m x).2.1) (fun x => (back1_f k m x).2.2.1) (fun x o => ?_) (fun x y s => ?_)
  · obtain ⟨q1, q2, q3, q4, q5, q6, q7⟩ := back1_f k m x
    refine t_let_cg q1 (fun j h1 h4 => ?_) ?_ (fun v hv => ⟨?_, ?_⟩) ?_ o
    · funext i
      rw [q6, if_neg (by omega), if_neg (by omega), if_neg (by omega), if_neg (by omega)]
    · rw [q6, if_neg (by omega), if_neg (by omega), if_neg (by omega), if_neg (by omega)]
    · rw [q6, if_neg (by omega), if_neg (by omega), if_neg (by omega), if_neg (by omega)]
    · rw [q7, if_neg (by omega), if_neg (by omega)]
    · funext i
      rw [q7, if_neg (by omega), if_neg (by omega)]
  · obtain ⟨-, -, -, p4, p5, p6, p7⟩ := back1_f k m x
    obtain ⟨-, -, -, q4, q5, q6, q7⟩ := back1_f k m y
    obtain ⟨b1, b2⟩ := backM_cg (n := k) (m := m) s
    refine ⟨?_, ?_, ?_, ?_⟩
    · funext j i
      rw [q6, p6, b2, s.1, s.2.2.2.2 1 (by decide)]
    · funext j i
      rw [q7, p7, b2, s.1, s.2.1, s.2.2.2.2 1 (by decide)]
    · rw [q4, p4, b1]
    · rw [q5, p5, b2]
theorem move1_f (n : Nat) (g : tG) : gs (g_move1 n g) = gs g ∧ ga (g_move1 n g) = ga g ∧ gi (g_move1 n g) = gi g ∧ gn (g_move1 n g) = gn g ∧ gl (g_move1 n g) = (fun k n' o => if n' = n then none else gl g k n' o) ∧ gm (g_move1 n g) = (fun n' i => if n' = n ∧ i = 0 then none else if n' = n then (if i = 0 then gm g n 1 else some (ga g 4 n)) else gm g n' i) ∧ gv (g_move1 n g) = (fun n' i v => if n' = n then (if i = 0 then gv g n 1 v else (gi g 1 v, gi g 2 v, ga g 1 v)) else gv g n' i v) := ⟨rfl, rfl, rfl, rfl, rfl, rfl, rfl⟩
theorem comm_move {n k : Nat} {h : tG} (hnk : n ≠ k) : g_move1 k (g_write n h) = g_write n (g_move1 k h) := by
  refine commW (f := g_move1 k) hnk h (fun x => (move1_f k x).1) (fun x => (move1_f k x).2.2.2.1) (fun x => (move1_f k x).2.2.2.2.1) (fun x o => ?_) (fun x y s => ?_)
  · obtain ⟨q1, q2, q3, -⟩ := move1_f k x
    exact t_let_cg q1 (fun j _ _ => by rw [q2]) (by rw [q2]) (fun v _ => ⟨by rw [q2], by rw [q3]⟩) (by rw [q3]) o
  · obtain ⟨-, p2, p3, -, -, p6, p7⟩ := move1_f k x
    obtain ⟨-, q2, q3, -, -, q6, q7⟩ := move1_f k y
    refine ⟨by rw [q2, p2, s.1], by rw [q3, p3, s.2.1], ?_, ?_⟩
    · rw [q6, p6, s.2.2.1, s.1]
    · rw [q7, p7, s.2.2.2.1, s.1, s.2.1]
def bkP (m : Nat) (g : tG) (i : Nat) : tG := itr (fun n h => g_back1 n m h) i (us g 7 (gs g 7 + 1))
theorem g_back_eq (m : Nat) (g : tG) : g_back m g = itr (fun n h => g_write n h) (gs g 0) (bkP m g (gs g 0)) := comm_loop (f := fun n h => g_back1 n m h) (fun n k h hn => comm_back (by omega)) (us g 7 (gs g 7 + 1)) (gs g 0)
def mvP (v n : Nat) (g : tG) (i : Nat) : tG := itr (fun k h => g_move1 k h) i (us (ua g 0 v n) 7 (gs g 7 + 1))
theorem g_move_eq (v n : Nat) (g : tG) : g_move v n g = itr (fun n h => g_write n h) (gs g 0) (mvP v n g (gs g 0)) := comm_loop (f := fun k h => g_move1 k h) (fun n k h hn => comm_move (by omega)) (us (ua g 0 v n) 7 (gs g 7 + 1)) (gs g 0)
theorem bkP_i {g : tG} {m : Nat} (hB : gB g) (h7 : gs g 7 + 1 ≤ 1000) (hm : m ≤ 199) (hV : gVB g) (hA : ∀ n, n < gs g 0 → gm g n 1 = some m ∨ gm g n 0 = some m) : ∀ i, i ≤ gs g 0 → gB (bkP m g i) ∧ (∀ k, gs (bkP m g i) k = gs (us g 7 (gs g 7 + 1)) k) ∧ (∀ n, i ≤ n → ∀ j, gm (bkP m g i) n j = gm g n j ∧ gv (bkP m g i) n j = gv g n j) ∧ ∀ n, n < i → ga (bkP m g i) 4 n = m
  | 0, _ => ⟨gB_s7 hB h7, fun _ => rfl, fun _ _ _ => ⟨rfl, rfl⟩, fun n h => absurd h (by omega)⟩
  | i + 1, hi => by
    obtain ⟨p1, p2, p4, p5⟩ := bkP_i hB h7 hm hV hA i (by omega)
    have e : bkP m g (i + 1) = g_back1 i m (bkP m g i) := rfl
    generalize bkP m g i = h at p1 p2 p4 p5 e
    have hs1 : gs h 1 = gs g 1 := p2 1
    have hx : gm h i 1 = some m ∨ gm h i 0 = some m := by rw [(p4 i (Nat.le_refl _) 1).1, (p4 i (Nat.le_refl _) 0).1]; exact hA i (by omega)
    have hV2 : ∀ j v, gm h i j ≠ none → v < gs h 1 → (gv h i j v).2.2 ≤ 1 := fun j v h1 h2 => by
      rw [(p4 i (Nat.le_refl _) j).2]
      rw [(p4 i (Nat.le_refl _) j).1] at h1
      rw [hs1] at h2
      exact hV i j v h1 h2
    obtain ⟨q1, q2, q3, q4, q5, q6, q7⟩ := back1_f i m h
    rw [e]
    refine ⟨gB_back1 (n := i) (m := m) p1 (by omega) (backM_le hV2 hx), fun k => by rw [q1]; exact p2 k, fun n hn j => ⟨?_, ?_⟩, fun n hn => ?_⟩
    · rw [q4, backM_gm, if_neg (by omega)]
      exact (p4 n (by omega) j).1
    · rw [q5, backM_gv, if_neg (by omega)]
      exact (p4 n (by omega) j).2
    · rw [q6, if_neg (by omega), if_neg (by omega), if_neg (by omega)]
      by_cases c : n = i
      · rw [if_pos ⟨rfl, c⟩]
      · rw [if_neg (fun z => c z.2)]; exact p5 n (by omega)
theorem wrP_i {h : tG} (hB : gB h) (h4 : ∀ n, n < gs h 0 → ga h 4 n ≤ 199) : ∀ i, i ≤ gs h 0 → gB (itr (fun n x => g_write n x) i h) ∧ sameW h (itr (fun n x => g_write n x) i h)
  | 0, _ => ⟨hB, sameW.rf⟩
  | i + 1, hi => by
    obtain ⟨p1, p2⟩ := wrP_i hB h4 i (by omega)
    rw [itr_s _ i _]
    exact ⟨gB_write p1 (by rw [p2.2.2.2.2 0 (by decide)]; omega) (by rw [p2.1]; exact h4 i (by omega)), p2.tr (sameW_write i _)⟩
theorem mvP_i {g : tG} {v n : Nat} (hB : gB (us (ua g 0 v n) 7 (gs g 7 + 1))) : ∀ i, gB (mvP v n g i) ∧ gs (mvP v n g i) = gs (us (ua g 0 v n) 7 (gs g 7 + 1)) ∧ ga (mvP v n g i) = ga (ua g 0 v n)
  | 0 => ⟨hB, rfl, rfl⟩
  | i + 1 => by
    obtain ⟨p1, p2, p3⟩ := mvP_i hB i
    exact ⟨gB_move1 p1 i, p2, p3⟩
/-! the reference's memory: going back, moving -/
theorem absM_backM {M N : am_M} {g : tG} {n m : Nat} (hN : 125 ≤ mN M) (hB : gB g) (k : absM M g) (hn : n < 5) (c1 : gm g n 1 ≠ some m) (c0 : gm g n 0 = some m) (h1 : cpB (16 * (2 * n + 1)) 16 (fun x j => mI M x (16 * (2 * n) + j)) (wI (wI M 115 (2 * n + 1) (nI m)) 115 (2 * n) (-1)) N) : absM N (g_backM n m g) := by
  have b2 := hB.2.2.1
  obtain ⟨f1, f2, f3, f4, f5⟩ := backM_f n m g
  have e115 : ∀ j, mI N 115 j = if j = 2 * n then -1 else if j = 2 * n + 1 then nI m else mI M 115 j := fun j => by
    rw [h1.1.2.2.2 115 (by omega), mI_wI]
    by_cases c : j = 2 * n
    · rw [if_pos ⟨rfl, c⟩, if_pos c]
    · rw [if_neg (fun z => c z.2), if_neg c, mI_wI]
      by_cases d : j = 2 * n + 1
      · rw [if_pos ⟨rfl, d⟩, if_pos d]
      · rw [if_neg (fun z => d z.2), if_neg d]
  have ex : ∀ x, 116 ≤ x → x ≤ 118 → ∀ j, mI N x j = if 16 * (2 * n + 1) ≤ j ∧ j < 16 * (2 * n + 1) + 16 then mI M x (16 * (2 * n) + (j - 16 * (2 * n + 1))) else mI M x j := fun x a b j => by
    rw [h1.2 x a b, mI_wI_n _ _ _ (by omega), mI_wI_n _ _ _ (by omega)]
  have hf : am_fr (fun x => 115 ≤ x ∧ x ≤ 118) M N := (((am_fr.wI (S := fun x => 115 ≤ x ∧ x ≤ 118) _ _ (by decide)).tr (am_fr.wI _ _ (by decide))).tr (h1.1.wd (fun x a => by show 115 ≤ x ∧ x ≤ 118; omega)))
  refine absM_marks hN k hf f1 f2 f3 f4 f5 (fun j i hj hi => ?_) (fun s hs => ?_)
  · rw [backM_gm, backM_gv, f1]
    by_cases c : j = n
    · subst c
      have cc : j = j ∧ gm g j 1 ≠ some m := ⟨rfl, c1⟩
      rw [if_pos cc]
      rcases (show i = 0 ∨ i = 1 by omega) with rfl | rfl
      · rw [if_pos rfl]
        exact ⟨by rw [e115, if_pos (by omega)]; rfl, fun z => absurd rfl z⟩
      · rw [if_neg (show ¬ (1 = 0) by decide), if_pos (show j = j ∧ 1 ≠ 0 ∧ gm g j 1 ≠ some m from ⟨rfl, by decide, c1⟩)]
        refine ⟨by rw [e115, if_neg (by omega), if_pos rfl]; rfl, fun _ v hv => ?_⟩
        have p : 16 * (2 * j + 1) ≤ 16 * (2 * j + 1) + v ∧ 16 * (2 * j + 1) + v < 16 * (2 * j + 1) + 16 := by omega
        rw [ex 116 (by decide) (by decide), ex 117 (by decide) (by decide), ex 118 (by decide) (by decide), if_pos p, if_pos p, if_pos p, show 16 * (2 * j + 1) + v - 16 * (2 * j + 1) = v by omega]
        exact (k.2.2.2.2.2.2.1 j 0 hj (by decide)).2 (by rw [c0]; exact fun z => by cases z) v hv
    · obtain ⟨z0, z1⟩ := k.2.2.2.2.2.2.1 j i hj hi
      rw [if_neg (fun z => c z.1), if_neg (fun z => c z.1)]
      refine ⟨by rw [e115, if_neg (by omega), if_neg (by omega)]; exact z0, fun hne v hv => ?_⟩
      have p : ¬ (16 * (2 * n + 1) ≤ 16 * (2 * j + i) + v ∧ 16 * (2 * j + i) + v < 16 * (2 * n + 1) + 16) := by omega
      rw [ex 116 (by decide) (by decide), ex 117 (by decide) (by decide), ex 118 (by decide) (by decide), if_neg p, if_neg p, if_neg p]
      exact z1 hne v hv
  · rw [ex 118 (by decide) (by decide)]
    by_cases c : 16 * (2 * n + 1) ≤ s ∧ s < 16 * (2 * n + 1) + 16
    · rw [if_pos c]; exact k.2.2.2.2.2.2.2.2.1 _ (by omega)
    · rw [if_neg c]; exact k.2.2.2.2.2.2.2.2.1 s hs
theorem absM_res {M : am_M} {h : tG} {n v : Nat} (hN : 125 ≤ mN M) (k : absM M h) (hv : v < gs h 1) (hh : ga h 0 v = n) : absM (wI (wI (wI M 95 v (gv h n 1 v).1) 96 v (gv h n 1 v).2.1) 97 v (nI (gv h n 1 v).2.2)) (g_restore n v h) := by
  have e : g_restore n v h = ua (ui (ui h 1 v (gv h n 1 v).1) 2 v (gv h n 1 v).2.1) 1 v (gv h n 1 v).2.2 := if_pos hh
  have hf : am_fr (fun x => 95 ≤ x ∧ x ≤ 97) M (wI (wI (wI M 95 v (gv h n 1 v).1) 96 v (gv h n 1 v).2.1) 97 v (nI (gv h n 1 v).2.2)) := ((am_fr.wI _ _ (by decide)).tr (am_fr.wI _ _ (by decide))).tr (am_fr.wI _ _ (by decide))
  rw [e]
  refine absM_val hN k hf rfl (fun i hi => ga_uaf _ _ _ hi) ⟨?_, ?_⟩ rfl rfl rfl rfl (fun u hu => ?_)
  · rw [gi_ua, gi_uif _ _ _ (by decide), gi_uif _ _ _ (by decide)]
  · rw [gi_ua, gi_uif _ _ _ (by decide), gi_uif _ _ _ (by decide)]
  · obtain ⟨z0, z1, z2, z3, z4⟩ := k.2.1 u hu
    rw [gi_ua]
    by_cases d : u = v
    · subst d
      simp [mI_wI, gi_ui, ga_ua]
    · simp [mI_wI, gi_ui, ga_ua, ga_ui, d, z1, z2, z3]
theorem absM_home {M : am_M} {g : tG} (hN : 125 ≤ mN M) (k : absM M g) (v n : Nat) : absM (wI M 98 v (nI n)) (ua g 0 v n) := by
  have h : am_gr (fun x => x = 98) M (wI M 98 v (nI n)) := am_gr.wI _ _ rfl
  obtain ⟨k1, k2, k3, k4, k5, k6, k7, k8⟩ := k
  have e0 : ∀ i, i ≠ 0 → ga (ua g 0 v n) i = ga g i := fun i hi => ga_uaf g v n hi
  refine ⟨k1.gr h hN (by omega) (by omega), fun u hu => ?_, ?_, ?_, k5.gr h hN (by omega) (fun x a b => by omega), k6.gr h hN (fun x a b => by omega), k7.gr h hN (fun x a b => by omega), k8.gr h hN (by omega) (by omega) (by omega)⟩
  · obtain ⟨z0, z1, z2, z3, z4⟩ := k2 u hu
    rw [e0 1 (by decide), mI_wI_n _ _ _ (by decide), mI_wI_n _ _ _ (by decide), mI_wI_n _ _ _ (by decide), mI_wI_n _ _ _ (by decide), mI_wI, ga_ua]
    refine ⟨z0, z1, z2, z3, ?_⟩
    by_cases c : u = v
    · rw [if_pos ⟨rfl, c⟩, if_pos ⟨rfl, c⟩]
    · rw [if_neg (fun z => c z.2), if_neg (fun z => c z.2)]; exact z4
  · have := k3.gr h hN (fun x a b => by omega)
    unfold yA at this ⊢
    rw [e0 2 (by decide), e0 3 (by decide)]; exact this
  · have := k4.gr h hN (fun x a b => by omega)
    unfold yN at this ⊢
    rw [e0 4 (by decide), e0 5 (by decide), e0 6 (by decide)]; exact this
/-- the older mark is given up -/
theorem absM_nom {M : am_M} {g : tG} {n : Nat} (hN : 125 ≤ mN M) (k : absM M g) (hn : n < 5) : absM (wI M 115 (2 * n) (-1)) (um g (fun n' i => if n' = n ∧ i = 0 then none else gm g n' i)) := by
  have hf : am_fr (fun x => 115 ≤ x ∧ x ≤ 118) M (wI M 115 (2 * n) (-1)) := am_fr.wI _ _ (by decide)
  refine absM_marks hN k hf rfl rfl rfl rfl rfl (fun j i hj hi => ?_) (fun s hs => by rw [mI_wI_n _ _ _ (by decide)]; exact k.2.2.2.2.2.2.2.2.1 s hs)
  obtain ⟨z0, z1⟩ := k.2.2.2.2.2.2.1 j i hj hi
  show mI _ 115 _ = mkI (if j = n ∧ i = 0 then none else gm g j i) ∧ ((if j = n ∧ i = 0 then none else gm g j i) ≠ none → _)
  by_cases c : j = n ∧ i = 0
  · rw [if_pos c]
    refine ⟨?_, fun z => absurd rfl z⟩
    rw [mI_wI, if_pos ⟨rfl, by omega⟩]; rfl
  · rw [if_neg c]
    refine ⟨?_, fun z v hv => ?_⟩
    · rw [mI_wI, if_neg (by omega)]; exact z0
    · rw [mI_wI_n _ _ _ (by decide), mI_wI_n _ _ _ (by decide), mI_wI_n _ _ _ (by decide)]
      exact z1 z v hv
