/-! THE ENTRIES: how many, which -/
def sm (f : Nat → Nat) (V : Nat) : Nat := itr (fun v c => c + f v) V 0
def ct (f : Nat → Nat) (v n : Nat) : Nat := itr (fun a c => if f a = v then c + 1 else c) n 0
theorem sm_s (f : Nat → Nat) (V : Nat) : sm f (V + 1) = sm f V + f V := rfl
theorem ct_s (f : Nat → Nat) (v n : Nat) : ct f v (n + 1) = ct f v n + (if f n = v then 1 else 0) := by
  show (if f n = v then ct f v n + 1 else ct f v n) = _
  split <;> rfl
theorem sm_add (f h : Nat → Nat) : ∀ V, sm (fun v => f v + h v) V = sm f V + sm h V
  | 0 => rfl
  | V + 1 => by rw [sm_s, sm_s, sm_s, sm_add f h V]; omega
theorem sm_one (x : Nat) : ∀ V, sm (fun v => if x = v then 1 else 0) V = if x < V then 1 else 0
  | 0 => rfl
  | V + 1 => by
    rw [sm_s, sm_one x V]
    by_cases h1 : x < V
    · rw [if_pos h1, if_neg (by omega), if_pos (by omega)]
    · by_cases h2 : x = V
      · rw [if_neg h1, if_pos h2, if_pos (by omega)]
      · rw [if_neg h1, if_neg h2, if_neg (by omega)]
theorem sm_zero : ∀ V, sm (fun _ => 0) V = 0
  | 0 => rfl
  | V + 1 => by rw [sm_s, sm_zero V]
theorem sm_ct (f : Nat → Nat) (V : Nat) : ∀ n, sm (fun v => ct f v n) V ≤ n
  | 0 => Nat.le_of_eq (sm_zero V)
  | n + 1 => by
    have e : (fun v => ct f v (n + 1)) = fun v => ct f v n + (if f n = v then 1 else 0) := by funext v; exact ct_s f v n
    rw [e, sm_add, sm_one]
    have := sm_ct f V n
    split <;> omega
theorem ct_mono (f : Nat → Nat) (v : Nat) {i n : Nat} (h : i ≤ n) : ct f v i ≤ ct f v n := by
  induction n with
  | zero => rw [show i = 0 by omega]; exact Nat.le_refl _
  | succ n ih =>
    rcases Nat.lt_or_ge n i with q | q
    · rw [show i = n + 1 by omega]; exact Nat.le_refl _
    · rw [ct_s]; have := ih q; omega
def t_entP (g : tG) (n o : Nat) (v : Nat) : List tE := itr (fun v es => if ga g 0 v = n ∧ ga g 1 v = 1 then t_entV g o v (gs g 2) es else es) v []
theorem t_ent_P (g : tG) (n o : Nat) : t_ent g n o = t_entP g n o (gs g 1) := rfl
theorem t_entV_s (g : tG) (o v i : Nat) (es : List tE) : t_entV g o v (i + 1) es = if ga g 2 i = v ∧ ga g 0 (ga g 3 i) = o then t_add (gs g 4) (gs g 3) (t_entV g o v i es) (ga g 3 i) (t_msg (gs g 3) (gi g 1 v) (gi g 3 i)) i else t_entV g o v i es := rfl
theorem t_entV_len (g : tG) (o v : Nat) (es : List tE) : ∀ i, (t_entV g o v i es).length ≤ es.length + ct (ga g 2) v i
  | 0 => Nat.le_refl _
  | i + 1 => by
    have ih := t_entV_len g o v es i
    rw [ct_s, t_entV_s]
    split
    · rename_i h
      rw [if_pos h.1]
      have := t_add_len (gs g 4) (gs g 3) (ga g 3 i) i (t_msg (gs g 3) (gi g 1 v) (gi g 3 i)) (t_entV g o v i es)
      omega
    · omega
theorem t_entP_len (g : tG) (n o : Nat) : ∀ v, (t_entP g n o v).length ≤ sm (fun v => ct (ga g 2) v (gs g 2)) v
  | 0 => Nat.le_refl _
  | v + 1 => by
    have ih := t_entP_len g n o v
    rw [sm_s]
    show (if ga g 0 v = n ∧ ga g 1 v = 1 then t_entV g o v (gs g 2) (t_entP g n o v) else t_entP g n o v).length ≤ _
    split
    · have := t_entV_len g o v (t_entP g n o v) (gs g 2)
      omega
    · omega
theorem t_ent_40 {g : tG} (h : gs g 2 ≤ 40) (n o v : Nat) {i : Nat} (hi : i ≤ gs g 2) : (t_entV g o v i (t_entP g n o v)).length ≤ 40 := by
  have h1 := t_entV_len g o v (t_entP g n o v) i
  have h2 := t_entP_len g n o v
  have h3 := ct_mono (ga g 2) v hi
  have h4 := sm_ct (ga g 2) (v + 1) (gs g 2)
  rw [sm_s] at h4
  omega
theorem t_ent_len40 {g : tG} (h : gs g 2 ≤ 40) (n o : Nat) : (t_ent g n o).length ≤ 40 := by
  have h2 := t_entP_len g n o (gs g 1)
  have h4 := sm_ct (ga g 2) (gs g 1) (gs g 2)
  rw [t_ent_P]
  omega
theorem t_entV_mem {g : tG} {P : tE → Prop} {o v : Nat} (hc : ∀ e x, P e → P (e.1, x, e.2.2)) (hP : ∀ a m, a < gs g 2 → P (ga g 3 a, m, a)) {es : List tE} (h : ∀ e ∈ es, P e) : ∀ i, i ≤ gs g 2 → ∀ e ∈ t_entV g o v i es, P e
  | 0, _ => h
  | i + 1, hi => by
    have ih := t_entV_mem (o := o) (v := v) hc hP h i (by omega)
    rw [t_entV_s]
    split
    · exact t_add_mem ih (hP i _ (by omega)) hc
    · exact ih
theorem t_entP_mem {g : tG} {P : tE → Prop} {n o : Nat} (hc : ∀ e x, P e → P (e.1, x, e.2.2)) (hP : ∀ a m, a < gs g 2 → P (ga g 3 a, m, a)) : ∀ v, ∀ e ∈ t_entP g n o v, P e
  | 0 => fun e he => by cases he
  | v + 1 => by
    have ih := t_entP_mem (n := n) (o := o) hc hP v
    show ∀ e ∈ (if ga g 0 v = n ∧ ga g 1 v = 1 then t_entV g o v (gs g 2) (t_entP g n o v) else t_entP g n o v), P e
    split
    · exact t_entV_mem hc hP ih _ (Nat.le_refl _)
    · exact ih
theorem t_act_le (g : tG) (n : Nat) : ∀ v, itr (fun v c => if ga g 0 v = n ∧ ga g 1 v = 1 then c + 1 else c) v 0 ≤ v
  | 0 => Nat.le_refl _
  | v + 1 => by
    have ih := t_act_le g n v
    show (if ga g 0 v = n ∧ ga g 1 v = 1 then _ else _) ≤ _
    split <;> omega
set_option maxHeartbeats 4000000 in
set_option maxRecDepth 100000 in
theorem l_X0_gather {l : Launch} {X : Nat × (Nat → Int32)} {M : am_M} {g : tG} {n o : Nat} (hS : xS M g) (hV : xV M g) (hA : xA M g) (hB : gB g) (hn : n < 5) (ho : o < 5) : ∀ (k v : Nat) (N : am_M), v + k = gs g 1 → Lay N → am_fr s_desk M N → DX N (t_entP g n o v) → am_V l yX0_gather cX0_gather 7 none (am_R 5 0 0) 0 0 X (fun v' M' => v' = none ∧ am_fr s_desk M M' ∧ DX M' (t_ent g n o)) 0 0 8 [some (.ref 20), some (.ref 2), some (.ref 8), some (.int (nI n)), some (.int (nI o)), some (.int (nI (gs g 4))), some (.int (nI v))] [] N := by
  intro k
  obtain ⟨b0, b1, b2, b3, b4, b5, -, -, -, -, bV, bA, -⟩ := id hB
  have nd : ∀ z, z ≠ 20 → z ≠ 21 → z ≠ 22 → z ≠ 23 → ¬ s_desk z := fun z q1 q2 q3 q4 h => by rcases h with h | h | h | h <;> omega
  induction k with
  | zero =>
    intro v N hi hL hf hD
    obtain rfl : v = gs g 1 := by omega
    have f5 := hf.i (nd 2 (by decide) (by decide) (by decide) (by decide)) hS.2.1
    refine r_iload dX0_gather_8 rfl ?_
    refine r_aload_n dX0_gather_10 rfl ?_
    refine r_getE (nI (gs g 1)) kX1 (k := 5) (by decide) rfl fl_X0_25 (lay_ok hL rfl) dX0_gather_11 f5 ?_
    refine r_icmp_ge 56 dX0_gather_14 (by decide) (fun _ => ?_) (fun hq => absurd (nI_le (Nat.le_refl _) (by omega)) hq)
    exact r_vret rfl dX0_gather_56 ⟨rfl, hf, hD⟩
  | succ k ih =>
    intro v N hi hL hf hD
    have v3 := hf.i (nd 3 (by decide) (by decide) (by decide) (by decide)) (hV v (by omega)).1
    have v11 := hf.i (nd 11 (by decide) (by decide) (by decide) (by decide)) (hV v (by omega)).2.2.2.2
    obtain ⟨u1, u2⟩ := bV v (by omega)
    have hes : t_entP g n o (v + 1) = if ga g 0 v = n ∧ ga g 1 v = 1 then t_entV g o v (gs g 2) (t_entP g n o v) else t_entP g n o v := rfl
    have hSN : xS N g := by
      obtain ⟨s1, s2, s3, s4, s5, s6, s7, s8, s9, s10⟩ := hS
      exact ⟨hf.i (nd 1 (by decide) (by decide) (by decide) (by decide)) s1, hf.i (nd 2 (by decide) (by decide) (by decide) (by decide)) s2, hf.i (nd 2 (by decide) (by decide) (by decide) (by decide)) s3, hf.i (nd 2 (by decide) (by decide) (by decide) (by decide)) s4, hf.i (nd 1 (by decide) (by decide) (by decide) (by decide)) s5, hf.i (nd 1 (by decide) (by decide) (by decide) (by decide)) s6, hf.i (nd 1 (by decide) (by decide) (by decide) (by decide)) s7, hf.i (nd 1 (by decide) (by decide) (by decide) (by decide)) s8, hf.i (nd 1 (by decide) (by decide) (by decide) (by decide)) s9, fun k hk => hf.i (nd 27 (by decide) (by decide) (by decide) (by decide)) (s10 k hk)⟩
    have hVN : xV N g := fun v hv => by
      obtain ⟨s1, s2, s3, s4, s5⟩ := hV v hv
      exact ⟨hf.i (nd 3 (by decide) (by decide) (by decide) (by decide)) s1, hf.i (nd 4 (by decide) (by decide) (by decide) (by decide)) s2, hf.i (nd 9 (by decide) (by decide) (by decide) (by decide)) s3, hf.i (nd 10 (by decide) (by decide) (by decide) (by decide)) s4, hf.i (nd 11 (by decide) (by decide) (by decide) (by decide)) s5⟩
    have hAN : xA N g := fun a ha => by
      obtain ⟨s1, s2, s3⟩ := hA a ha
      exact ⟨hf.i (nd 5 (by decide) (by decide) (by decide) (by decide)) s1, hf.i (nd 6 (by decide) (by decide) (by decide) (by decide)) s2, hf.i (nd 7 (by decide) (by decide) (by decide) (by decide)) s3⟩
    have hE : ∀ e ∈ t_entP g n o v, e.1 < 16 := t_entP_mem (fun _ _ h => h) (fun a _ ha => by have := (bA a ha).2; show ga g 3 a < 16; omega) v
    have f5 := hf.i (nd 2 (by decide) (by decide) (by decide) (by decide)) hS.2.1
    refine r_iload dX0_gather_8 rfl ?_
    refine r_aload_n dX0_gather_10 rfl ?_
    refine r_getE (nI (gs g 1)) kX1 (k := 5) (by decide) rfl fl_X0_25 (lay_ok hL rfl) dX0_gather_11 f5 ?_
    refine r_icmp_ge 56 dX0_gather_14 (by decide) (fun hq => absurd hq (nI_ge (by omega) (by omega))) (fun _ => ?_)
    refine r_aload_n dX0_gather_17 rfl ?_
    refine r_getF kX1 (k := 0) (by decide) rfl fl_X0_30 (lay_ok hL rfl) (lay_r hL rfl) dX0_gather_18 ?_
    refine r_iload dX0_gather_21 rfl ?_
    refine r_ialdE (nI (ga g 0 v)) (lay_ok hL rfl) (by omega) (by omega) dX0_gather_23 v3 ?_
    refine r_iload_n dX0_gather_24 rfl ?_
    refine r_icmp_ne 50 dX0_gather_25 (by decide) (fun c25 => ?_) (fun c25 => ?_)
    · refine r_iinc (nI (v + 1)) _ dX0_gather_50 (by decide) rfl (nI_1 _) rfl ?_
      refine r_goto 8 dX0_gather_53 (by decide) ?_
      first | exact ih (v + 1) N (by omega) hL hf (by rw [hes, if_neg (fun h => c25 (by rw [h.1]))]; exact hD) | exact ih (v + 1) N (by omega) hL hf (by rw [hes, if_neg (fun h => absurd c35 (by rw [h.2]; decide))]; exact hD) | exact ih (v + 1) M1 (by omega) hL hf3 (by rw [hes, if_pos ⟨(nI_eq (by omega) (by omega)).mp c25, by rcases (show ga g 1 v = 0 ∨ ga g 1 v = 1 by omega) with z | z; exact absurd (by rw [z]; rfl) c35; exact z⟩]; exact hD1)
    · refine r_aload_n dX0_gather_28 rfl ?_
      refine r_getF kX7 (k := 2) (by decide) rfl fl_X0_33 (lay_ok hL rfl) (lay_r hL rfl) dX0_gather_29 ?_
      refine r_iload dX0_gather_32 rfl ?_
      refine r_zaldE (nI (ga g 1 v)) (lay_ok hL rfl) (by omega) (by omega) dX0_gather_34 v11 ?_
      refine r_if_eq 50 dX0_gather_35 (by decide) (fun c35 => ?_) (fun c35 => ?_)
      · refine r_iinc (nI (v + 1)) _ dX0_gather_50 (by decide) rfl (nI_1 _) rfl ?_
        refine r_goto 8 dX0_gather_53 (by decide) ?_
        first | exact ih (v + 1) N (by omega) hL hf (by rw [hes, if_neg (fun h => c25 (by rw [h.1]))]; exact hD) | exact ih (v + 1) N (by omega) hL hf (by rw [hes, if_neg (fun h => absurd c35 (by rw [h.2]; decide))]; exact hD) | exact ih (v + 1) M1 (by omega) hL hf3 (by rw [hes, if_pos ⟨(nI_eq (by omega) (by omega)).mp c25, by rcases (show ga g 1 v = 0 ∨ ga g 1 v = 1 by omega) with z | z; exact absurd (by rw [z]; rfl) c35; exact z⟩]; exact hD1)
      · refine r_aload_n dX0_gather_38 rfl ?_
        refine r_iload dX0_gather_39 rfl ?_
        refine r_aload_n dX0_gather_41 rfl ?_
        refine r_aload_n dX0_gather_42 rfl ?_
        refine r_iload dX0_gather_43 rfl ?_
        refine r_iload dX0_gather_45 rfl ?_
        refine r_callV ca_yX0_gatherOf ml_X0_39 im_yX0_gatherOf se_yX0_gatherOf (by decide) rfl (lay_ok hL rfl) (c_X0_gatherOf hL hSN hVN hAN hB ho (by omega) (fun i hi => t_ent_40 b3 n o v hi) hD hE) ⟨by decide, by decide⟩ (by decide) (by decide) rfl (Nat.le_of_ble_eq_true rfl) dX0_gather_47 (fun v0 M1 hp1 => ?_)
        obtain ⟨rfl, hf1, hD1⟩ := hp1
        have hf3 := hf.tr hf1
        refine r_lay (hf1.lay hL) (fun hL => ?_)
        refine r_iinc (nI (v + 1)) _ dX0_gather_50 (by decide) rfl (nI_1 _) rfl ?_
        refine r_goto 8 dX0_gather_53 (by decide) ?_
        first | exact ih (v + 1) N (by omega) hL hf (by rw [hes, if_neg (fun h => c25 (by rw [h.1]))]; exact hD) | exact ih (v + 1) N (by omega) hL hf (by rw [hes, if_neg (fun h => absurd c35 (by rw [h.2]; decide))]; exact hD) | exact ih (v + 1) M1 (by omega) hL hf3 (by rw [hes, if_pos ⟨(nI_eq (by omega) (by omega)).mp c25, by rcases (show ga g 1 v = 0 ∨ ga g 1 v = 1 by omega) with z | z; exact absurd (by rw [z]; rfl) c35; exact z⟩]; exact hD1)
set_option maxHeartbeats 4000000 in
set_option maxRecDepth 100000 in
theorem c_X0_gather {l : Launch} {X : Nat × (Nat → Int32)} {M : am_M} (hL : Lay M) {g : tG} {n o : Nat} (hS : xS M g) (hV : xV M g) (hA : xA M g) (hB : gB g) (hn : n < 5) (ho : o < 5) : am_C l yX0_gather cX0_gather 7 none 5 0 0 X [.ref 20, .ref 2, .ref 8, .int (nI n), .int (nI o), .int (nI (gs g 4))] M (fun v' M' => v' = none ∧ am_fr s_desk M M' ∧ DX M' (t_ent g n o)) := by
  refine am_C.of (by decide) (by simp [Value.category, va_rf]) (Nat.le_of_ble_eq_true rfl) ?_
  refine r_aload_n dX0_gather_0 rfl ?_
  refine r_iconst (0) dX0_gather_1 (by decide) ?_
  refine r_putI kX0 (k := 3) (by decide) rfl (Or.inl rfl) fl_X0_21 (lay_ok hL rfl) ⟨rfl, rfl⟩ dX0_gather_2 ?_
  refine r_lay (lay_wI hL _ _ _) (fun hL => ?_)
  refine r_iconst (nI 0) dX0_gather_5 (by decide) ?_
  refine r_istore _ dX0_gather_6 (by decide) rfl ?_
  exact l_X0_gather hS hV hA hB hn ho (gs g 1) 0 _ (by omega) hL ⟨rfl, rfl, rfl, fun x hx => mI_wI_n _ _ _ (fun h => hx (Or.inl h))⟩ ⟨by simp [mI_wI, t_entP, itr]; rfl, by simp [t_entP, itr], fun j e he => by simp [t_entP, itr] at he⟩
