/-! THE REFERENCE TAKES MESSAGES AND GOES ON -/
/-- vertices settle -/
def w_set (M : am_M) (v : Nat) (a b c : Int32) : am_M := wI (wI (wI M 97 v a) 95 v b) 96 v c
theorem absM_val {M : am_M} {g h : tG} (hN : 125 ≤ mN M) (k : absM M g) {N : am_M} (hf : am_fr (fun x => 95 ≤ x ∧ x ≤ 97) M N) (e1 : gs h = gs g) (e2 : ∀ i, i ≠ 1 → ga h i = ga g i) (e3 : gi h 0 = gi g 0 ∧ gi h 3 = gi g 3) (e4 : gn h = gn g) (e5 : gl h = gl g) (e6 : gm h = gm g) (e7 : gv h = gv g) (hv : ∀ v, v < gs g 1 → mI N 95 v = gi h 1 v ∧ mI N 96 v = gi h 2 v ∧ mI N 97 v = nI (ga h 1 v)) : absM N h := by
  have f := hf.gr
  obtain ⟨k1, k2, k3, k4, k5, k6, k7, k8⟩ := k
  refine ⟨?_, fun v hv' => ?_, ?_, ?_, ?_, ?_, ?_, k8.gr f hN (by omega) (by omega) (by omega)⟩
  · have := k1.gr f hN (by omega) (by omega)
    unfold yS at this ⊢
    rw [e1]; exact this
  · rw [e1] at hv'
    obtain ⟨z0, z1, z2, z3, z4⟩ := k2 v hv'
    obtain ⟨y1, y2, y3⟩ := hv v hv'
    refine ⟨?_, y1, y2, y3, ?_⟩
    · rw [e3.1]; exact hf.i (by omega) z0
    · rw [e2 0 (by decide)]; exact hf.i (by omega) z4
  · have := k3.gr f hN (fun x a b => by omega)
    unfold yA at this ⊢
    rw [e1, e2 2 (by decide), e2 3 (by decide), e3.2]; exact this
  · have := k4.gr f hN (fun x a b => by omega)
    unfold yN at this ⊢
    rw [e2 4 (by decide), e2 5 (by decide), e2 6 (by decide)]; exact this
  · have := k5.gr f hN (by omega) (fun x a b => by omega)
    unfold yE at this ⊢
    rw [e4]; exact this
  · have := k6.gr f hN (fun x a b => by omega)
    unfold yH at this ⊢
    rw [e5]; exact this
  · have := k7.gr f hN (fun x a b => by omega)
    unfold yK at this ⊢
    rw [e6, e7, e1]; exact this
theorem settle_f (B : tB) (v : Nat) (h : tG) : (∀ u, gi (g_settle B v h) 1 u = if u = v then t_behind (gs h 3) B v (gi h 1 v) else gi h 1 u) ∧ (∀ u, gi (g_settle B v h) 2 u = if u = v ∧ gs h 3 = 2 then gi h 2 v + t_behind 2 B v (gi h 1 v) else gi h 2 u) ∧ (∀ u, ga (g_settle B v h) 1 u = if u = v then (if gs h 3 = 2 then (if t_behind 2 B v (gi h 1 v) = 0 then 0 else 1) else (if t_behind (gs h 3) B v (gi h 1 v) = gi h 1 v then 0 else 1)) else ga h 1 u) := by
  unfold g_settle
  by_cases c : gs h 3 = 2
  · rw [if_pos c]
    refine ⟨fun u => ?_, fun u => ?_, fun u => ?_⟩
    · rw [gi_ua, gi_ui, if_neg (by omega), gi_ui, c]
      by_cases d : u = v
      · rw [if_pos ⟨rfl, d⟩, if_pos d]
      · rw [if_neg (fun z => d z.2), if_neg d]
    · rw [gi_ua, gi_ui]
      by_cases d : u = v
      · rw [if_pos ⟨rfl, d⟩, if_pos ⟨d, c⟩]
      · rw [if_neg (fun z => d z.2), if_neg (fun z => d z.1), gi_ui, if_neg (by omega)]
    · rw [ga_ua]
      by_cases d : u = v
      · rw [if_pos ⟨rfl, d⟩, if_pos d, if_pos c]
      · rw [if_neg (fun z => d z.2), if_neg d]; rfl
  · rw [if_neg c]
    refine ⟨fun u => ?_, fun u => ?_, fun u => ?_⟩
    · rw [gi_ua, gi_ui]
      by_cases d : u = v
      · rw [if_pos ⟨rfl, d⟩, if_pos d]
      · rw [if_neg (fun z => d z.2), if_neg d]
    · rw [gi_ua, gi_ui, if_neg (by omega), if_neg (fun z => c z.2)]
    · rw [ga_ua]
      by_cases d : u = v
      · rw [if_pos ⟨rfl, d⟩, if_pos d, if_neg c]
      · rw [if_neg (fun z => d z.2), if_neg d]; rfl
theorem absM_settle {M : am_M} {h : tG} {B : tB} {v : Nat} (hN : 125 ≤ mN M) (k : absM M h) (hv : v < gs h 1) (c : Int32) (hc : c = if gs h 3 = 2 then gi h 2 v + t_behind 2 B v (gi h 1 v) else gi h 2 v) (a : Int32) (ha : a = nI (ga (g_settle B v h) 1 v)) : absM (w_set M v a (t_behind (gs h 3) B v (gi h 1 v)) c) (g_settle B v h) := by
  obtain ⟨q1, q2, q3⟩ := settle_f B v h
  have st := sameT_settle B v h
  have hf : am_fr (fun x => 95 ≤ x ∧ x ≤ 97) M (w_set M v a (t_behind (gs h 3) B v (gi h 1 v)) c) := ((am_fr.wI _ _ (by decide)).tr (am_fr.wI _ _ (by decide))).tr (am_fr.wI _ _ (by decide))
  refine absM_val hN k hf st.1 st.2.2.2.2.2.1 ⟨st.2.2.2.2.2.2.1 0 (by decide) (by decide), st.2.2.2.2.2.2.1 3 (by decide) (by decide)⟩ st.2.1 st.2.2.1 st.2.2.2.1 st.2.2.2.2.1 (fun u hu => ?_)
  obtain ⟨z0, z1, z2, z3, z4⟩ := k.2.1 u hu
  unfold w_set
  by_cases d : u = v
  · subst d
    refine ⟨?_, ?_, ?_⟩
    · rw [q1, if_pos rfl, mI_wI_n _ _ _ (by decide), mI_wI, if_pos ⟨rfl, rfl⟩]
    · rw [q2, mI_wI, if_pos ⟨rfl, rfl⟩, hc]
      by_cases e : gs h 3 = 2
      · rw [if_pos e, if_pos ⟨rfl, e⟩]
      · rw [if_neg e, if_neg (fun z => e z.2)]
    · rw [mI_wI_n _ _ _ (by decide), mI_wI_n _ _ _ (by decide), mI_wI, if_pos ⟨rfl, rfl⟩, ha]
  · refine ⟨?_, ?_, ?_⟩
    · rw [q1, if_neg d, mI_wI_n _ _ _ (by decide), mI_wI, if_neg (fun z => d z.2), mI_wI_n _ _ _ (by decide)]; exact z1
    · rw [q2, if_neg (fun z => d z.1), mI_wI, if_neg (fun z => d z.2), mI_wI_n _ _ _ (by decide), mI_wI_n _ _ _ (by decide)]; exact z2
    · rw [q3, if_neg d, mI_wI_n _ _ _ (by decide), mI_wI_n _ _ _ (by decide), mI_wI, if_neg (fun z => d z.2)]; exact z3
set_option maxHeartbeats 4000000 in
set_option maxRecDepth 100000 in
theorem l3_X9_take {l : Launch} {X : Nat × (Nat → Int32)} {M : am_M} {g : tG} {n : Nat} (hB : gB g) (hn : n < gs g 0) : ∀ (k i : Nat) (N : am_M), i + k = gs g 1 → Lay N → absM N (g_takeP n g i) → BM N (t_box g n) → am_fr rS M N → am_V l yX9_take cX9_take 6 (none) (am_R 2 0 0) 0 0 X (fun v M' => v = none ∧ absM M' (g_take n g) ∧ Lay M' ∧ am_fr rS M M') 0 0 181 [some (.ref 93), some (.int (nI n)), some (.int (nI i))] [] N := by
  intro k
  obtain ⟨b0, b1, b2, b3, b4, b5, -, -, -, -, bV, bA, -⟩ := id hB
  induction k with
  | zero =>
    intro i N hi hL hA hb hf
    obtain rfl : i = gs g 1 := by omega
    have s1 := hA.1.2.1
    rw [(sameT_takeP n g (gs g 1)).1] at s1
    refine r_iload_n dX9_take_181 rfl ?_
    refine r_aload_n dX9_take_182 rfl ?_
    refine r_getE (nI (gs g 1)) kX9 (k := 1) (by decide) rfl fl_X9_115 (lay_ok hL rfl) dX9_take_183 s1 ?_
    refine r_icmp_ge 287 dX9_take_186 (by decide) (fun _ => ?_) (fun hq => absurd (nI_le (Nat.le_refl _) (by omega)) hq)
    exact r_vret rfl dX9_take_287 ⟨rfl, hA, hL, hf⟩
  | succ k ih =>
    intro i N hi hL hA hb hf
    have st := sameT_takeP n g i
    have s1 := hA.1.2.1
    have s3 := hA.1.2.2.2.1
    rw [st.1] at s1 s3
    have hvv : i < gs (g_takeP n g i) 1 := by rw [st.1]; omega
    obtain ⟨v0, v1, v2, v3, v4⟩ := hA.2.1 i hvv
    rw [st.2.2.2.2.2.1 0 (by decide)] at v4
    have w1 := (bV i (by omega)).1
    have es : g_takeP n g (i + 1) = if ga g 0 i = n then g_settle (t_box g n) i (g_takeP n g i) else g_takeP n g i := rfl
    have e3 : gs (g_takeP n g i) 3 = gs g 3 := by rw [st.1]
    by_cases cn : ga g 0 i = n
    · rw [if_pos cn] at es
      have q3 := (settle_f (t_box g n) i (g_takeP n g i)).2.2 i
      rw [if_pos rfl, e3] at q3
      generalize g_takeP n g i = h at hA v0 v1 v2 v3 es hvv q3 e3
      by_cases c2 : gs g 3 = 2
      · rw [if_pos c2] at q3
        have HA := fun a ha => absM_settle (B := t_box g n) hL.1 hA hvv (gi h 2 i + t_behind (gs g 3) (t_box g n) i (gi h 1 i)) (by rw [e3, if_pos c2, c2]) a ha
        rw [e3] at HA
        refine r_iload_n dX9_take_181 rfl ?_
        refine r_aload_n dX9_take_182 rfl ?_
        refine r_getE (nI (gs g 1)) kX9 (k := 1) (by decide) rfl fl_X9_115 (lay_ok hL rfl) dX9_take_183 s1 ?_
        refine r_icmp_ge 287 dX9_take_186 (by decide) (fun hq => absurd hq (nI_ge (by omega) (by omega))) (fun _ => ?_)
        refine r_aload_n dX9_take_189 rfl ?_
        refine r_getF kX9 (k := 11) (by decide) rfl fl_X9_27 (lay_ok hL rfl) (lay_r hL rfl) dX9_take_190 ?_
        refine r_iload_n dX9_take_193 rfl ?_
        refine r_ialdE (nI (ga g 0 i)) (lay_ok hL rfl) (by omega) (by omega) dX9_take_194 v4 ?_
        refine r_iload_n dX9_take_195 rfl ?_
        refine r_icmp_ne 281 dX9_take_196 (by decide) (fun hq => absurd (by rw [cn]) hq) (fun _ => ?_)
        refine r_aload_n dX9_take_199 rfl ?_
        refine r_iload_n dX9_take_200 rfl ?_
        refine r_aload_n dX9_take_201 rfl ?_
        refine r_getF kX9 (k := 8) (by decide) rfl fl_X9_17 (lay_ok hL rfl) (lay_r hL rfl) dX9_take_202 ?_
        refine r_iload_n dX9_take_205 rfl ?_
        refine r_ialdE (gi h 1 i) (lay_ok hL rfl) (by omega) (by omega) dX9_take_206 v1 ?_
        refine r_cV ca_yX9_behind ml_X9_196 im_yX9_behind se_yX9_behind (by decide) rfl (lay_ok hL rfl) (c_X9_behind hL s3 b4 hb (by omega)) ⟨by decide, by decide⟩ (by first | decide | omega) (by first | decide | omega) rfl (Nat.le_of_ble_eq_true rfl) dX9_take_207 ?_
        refine r_istore_n _ dX9_take_210 (by decide) rfl ?_
        refine r_aload_n dX9_take_211 rfl ?_
        refine r_getF kX9 (k := 10) (by decide) rfl fl_X9_23 (lay_ok hL rfl) (lay_r hL rfl) dX9_take_212 ?_
        refine r_iload_n dX9_take_215 rfl ?_
        refine r_aload_n dX9_take_216 rfl ?_
        refine r_getE (nI (gs g 3)) kX9 (k := 3) (by decide) rfl fl_X9_121 (lay_ok hL rfl) dX9_take_217 s3 ?_
        refine r_iconst (nI 2) dX9_take_220 (by decide) ?_
        refine r_icmp_ne 236 dX9_take_221 (by decide) (fun hq => absurd (by rw [c2]) hq) (fun _ => ?_)
        refine r_iload_n dX9_take_224 rfl ?_
        refine r_if_eq 232 dX9_take_225 (by decide) (fun c225 => ?_) (fun c225 => ?_)
        · refine r_iconst (0) dX9_take_232 (by decide) ?_
          refine r_goto 251 dX9_take_233 (by decide) ?_
          refine r_zastN (lay_ok hL rfl) (by omega) (by decide) (by decide) dX9_take_251 ?_
          refine r_lay (lay_wI hL _ _ _) (fun hL => ?_)
          refine r_aload_n dX9_take_252 rfl ?_
          refine r_getF kX9 (k := 8) (by decide) rfl fl_X9_17 (lay_ok hL rfl) (lay_r hL rfl) dX9_take_253 ?_
          refine r_iload_n dX9_take_256 rfl ?_
          refine r_iload_n dX9_take_257 rfl ?_
          refine r_iastN (lay_ok hL rfl) (by omega) (by decide) dX9_take_258 ?_
          refine r_lay (lay_wI hL _ _ _) (fun hL => ?_)
          refine r_aload_n dX9_take_259 rfl ?_
          refine r_getF kX9 (k := 9) (by decide) rfl fl_X9_20 (lay_ok hL rfl) (lay_r hL rfl) dX9_take_260 ?_
          refine r_iload_n dX9_take_263 rfl ?_
          refine r_dup2 dX9_take_264 rfl rfl ?_
          refine r_ialdE (gi h 2 i) (lay_ok hL rfl) (by omega) (by omega) dX9_take_265 (by rw [mI_wI_n _ _ _ (by decide), mI_wI_n _ _ _ (by decide)]; exact v2) ?_
          refine r_aload_n dX9_take_266 rfl ?_
          refine r_getE (nI (gs g 3)) kX9 (k := 3) (by decide) rfl fl_X9_121 (lay_ok hL rfl) dX9_take_267 (by rw [mI_wI_n _ _ _ (by decide), mI_wI_n _ _ _ (by decide)]; exact s3) ?_
          refine r_iconst (nI 2) dX9_take_270 (by decide) ?_
          refine r_icmp_ne 278 dX9_take_271 (by decide) (fun hq => absurd (by rw [c2]) hq) (fun _ => ?_)
          refine r_iload_n dX9_take_274 rfl ?_
          refine r_goto 279 dX9_take_275 (by decide) ?_
          refine r_iadd dX9_take_279 ?_
          refine r_iastN (lay_ok hL rfl) (by omega) (by decide) dX9_take_280 ?_
          refine r_lay (lay_wI hL _ _ _) (fun hL => ?_)
          refine r_iinc (nI (i + 1)) _ dX9_take_281 (by decide) rfl (nI_1 _) rfl ?_
          refine r_goto 181 dX9_take_284 (by decide) ?_
          refine r_take 3 ?_
          exact ih (i + 1) _ (by omega) hL (by rw [es]; exact HA _ (by rw [q3, if_pos (by rw [← c2]; exact c225)]; rfl)) (hb.fr (S := fun x => 95 ≤ x ∧ x ≤ 97) (((am_fr.wI _ _ (by decide)).tr (am_fr.wI _ _ (by decide))).tr (am_fr.wI _ _ (by decide))) (by omega) (by omega) (by omega)) (hf.tr (((am_fr.wI _ _ ⟨by decide, by decide⟩).tr (am_fr.wI _ _ ⟨by decide, by decide⟩)).tr (am_fr.wI _ _ ⟨by decide, by decide⟩)))
        · refine r_iconst (1) dX9_take_228 (by decide) ?_
          refine r_goto 251 dX9_take_229 (by decide) ?_
          refine r_zastN (lay_ok hL rfl) (by omega) (by decide) (by decide) dX9_take_251 ?_
          refine r_lay (lay_wI hL _ _ _) (fun hL => ?_)
          refine r_aload_n dX9_take_252 rfl ?_
          refine r_getF kX9 (k := 8) (by decide) rfl fl_X9_17 (lay_ok hL rfl) (lay_r hL rfl) dX9_take_253 ?_
          refine r_iload_n dX9_take_256 rfl ?_
          refine r_iload_n dX9_take_257 rfl ?_
          refine r_iastN (lay_ok hL rfl) (by omega) (by decide) dX9_take_258 ?_
          refine r_lay (lay_wI hL _ _ _) (fun hL => ?_)
          refine r_aload_n dX9_take_259 rfl ?_
          refine r_getF kX9 (k := 9) (by decide) rfl fl_X9_20 (lay_ok hL rfl) (lay_r hL rfl) dX9_take_260 ?_
          refine r_iload_n dX9_take_263 rfl ?_
          refine r_dup2 dX9_take_264 rfl rfl ?_
          refine r_ialdE (gi h 2 i) (lay_ok hL rfl) (by omega) (by omega) dX9_take_265 (by rw [mI_wI_n _ _ _ (by decide), mI_wI_n _ _ _ (by decide)]; exact v2) ?_
          refine r_aload_n dX9_take_266 rfl ?_
          refine r_getE (nI (gs g 3)) kX9 (k := 3) (by decide) rfl fl_X9_121 (lay_ok hL rfl) dX9_take_267 (by rw [mI_wI_n _ _ _ (by decide), mI_wI_n _ _ _ (by decide)]; exact s3) ?_
          refine r_iconst (nI 2) dX9_take_270 (by decide) ?_
          refine r_icmp_ne 278 dX9_take_271 (by decide) (fun hq => absurd (by rw [c2]) hq) (fun _ => ?_)
          refine r_iload_n dX9_take_274 rfl ?_
          refine r_goto 279 dX9_take_275 (by decide) ?_
          refine r_iadd dX9_take_279 ?_
          refine r_iastN (lay_ok hL rfl) (by omega) (by decide) dX9_take_280 ?_
          refine r_lay (lay_wI hL _ _ _) (fun hL => ?_)
          refine r_iinc (nI (i + 1)) _ dX9_take_281 (by decide) rfl (nI_1 _) rfl ?_
          refine r_goto 181 dX9_take_284 (by decide) ?_
          refine r_take 3 ?_
          exact ih (i + 1) _ (by omega) hL (by rw [es]; exact HA _ (by rw [q3, if_neg (fun z => c225 (by rw [c2]; exact z))]; rfl)) (hb.fr (S := fun x => 95 ≤ x ∧ x ≤ 97) (((am_fr.wI _ _ (by decide)).tr (am_fr.wI _ _ (by decide))).tr (am_fr.wI _ _ (by decide))) (by omega) (by omega) (by omega)) (hf.tr (((am_fr.wI _ _ ⟨by decide, by decide⟩).tr (am_fr.wI _ _ ⟨by decide, by decide⟩)).tr (am_fr.wI _ _ ⟨by decide, by decide⟩)))
      · rw [if_neg c2] at q3
        have HA := fun a ha => absM_settle (B := t_box g n) hL.1 hA hvv (gi h 2 i) (by rw [e3, if_neg c2]) a ha
        rw [e3] at HA
        refine r_iload_n dX9_take_181 rfl ?_
        refine r_aload_n dX9_take_182 rfl ?_
        refine r_getE (nI (gs g 1)) kX9 (k := 1) (by decide) rfl fl_X9_115 (lay_ok hL rfl) dX9_take_183 s1 ?_
        refine r_icmp_ge 287 dX9_take_186 (by decide) (fun hq => absurd hq (nI_ge (by omega) (by omega))) (fun _ => ?_)
        refine r_aload_n dX9_take_189 rfl ?_
        refine r_getF kX9 (k := 11) (by decide) rfl fl_X9_27 (lay_ok hL rfl) (lay_r hL rfl) dX9_take_190 ?_
        refine r_iload_n dX9_take_193 rfl ?_
        refine r_ialdE (nI (ga g 0 i)) (lay_ok hL rfl) (by omega) (by omega) dX9_take_194 v4 ?_
        refine r_iload_n dX9_take_195 rfl ?_
        refine r_icmp_ne 281 dX9_take_196 (by decide) (fun hq => absurd (by rw [cn]) hq) (fun _ => ?_)
        refine r_aload_n dX9_take_199 rfl ?_
        refine r_iload_n dX9_take_200 rfl ?_
        refine r_aload_n dX9_take_201 rfl ?_
        refine r_getF kX9 (k := 8) (by decide) rfl fl_X9_17 (lay_ok hL rfl) (lay_r hL rfl) dX9_take_202 ?_
        refine r_iload_n dX9_take_205 rfl ?_
        refine r_ialdE (gi h 1 i) (lay_ok hL rfl) (by omega) (by omega) dX9_take_206 v1 ?_
        refine r_cV ca_yX9_behind ml_X9_196 im_yX9_behind se_yX9_behind (by decide) rfl (lay_ok hL rfl) (c_X9_behind hL s3 b4 hb (by omega)) ⟨by decide, by decide⟩ (by first | decide | omega) (by first | decide | omega) rfl (Nat.le_of_ble_eq_true rfl) dX9_take_207 ?_
        refine r_istore_n _ dX9_take_210 (by decide) rfl ?_
        refine r_aload_n dX9_take_211 rfl ?_
        refine r_getF kX9 (k := 10) (by decide) rfl fl_X9_23 (lay_ok hL rfl) (lay_r hL rfl) dX9_take_212 ?_
        refine r_iload_n dX9_take_215 rfl ?_
        refine r_aload_n dX9_take_216 rfl ?_
        refine r_getE (nI (gs g 3)) kX9 (k := 3) (by decide) rfl fl_X9_121 (lay_ok hL rfl) dX9_take_217 s3 ?_
        refine r_iconst (nI 2) dX9_take_220 (by decide) ?_
        refine r_icmp_ne 236 dX9_take_221 (by decide) (fun _ => ?_) (fun hq => absurd hq (fun z => c2 ((nI_eq (b := 2) (by omega) (by decide)).mp z)))
        refine r_iload_n dX9_take_236 rfl ?_
        refine r_aload_n dX9_take_237 rfl ?_
        refine r_getF kX9 (k := 8) (by decide) rfl fl_X9_17 (lay_ok hL rfl) (lay_r hL rfl) dX9_take_238 ?_
        refine r_iload_n dX9_take_241 rfl ?_
        refine r_ialdE (gi h 1 i) (lay_ok hL rfl) (by omega) (by omega) dX9_take_242 v1 ?_
        refine r_icmp_eq 250 dX9_take_243 (by decide) (fun c243 => ?_) (fun c243 => ?_)
        · refine r_iconst (0) dX9_take_250 (by decide) ?_
          refine r_zastN (lay_ok hL rfl) (by omega) (by decide) (by decide) dX9_take_251 ?_
          refine r_lay (lay_wI hL _ _ _) (fun hL => ?_)
          refine r_aload_n dX9_take_252 rfl ?_
          refine r_getF kX9 (k := 8) (by decide) rfl fl_X9_17 (lay_ok hL rfl) (lay_r hL rfl) dX9_take_253 ?_
          refine r_iload_n dX9_take_256 rfl ?_
          refine r_iload_n dX9_take_257 rfl ?_
          refine r_iastN (lay_ok hL rfl) (by omega) (by decide) dX9_take_258 ?_
          refine r_lay (lay_wI hL _ _ _) (fun hL => ?_)
          refine r_aload_n dX9_take_259 rfl ?_
          refine r_getF kX9 (k := 9) (by decide) rfl fl_X9_20 (lay_ok hL rfl) (lay_r hL rfl) dX9_take_260 ?_
          refine r_iload_n dX9_take_263 rfl ?_
          refine r_dup2 dX9_take_264 rfl rfl ?_
          refine r_ialdE (gi h 2 i) (lay_ok hL rfl) (by omega) (by omega) dX9_take_265 (by rw [mI_wI_n _ _ _ (by decide), mI_wI_n _ _ _ (by decide)]; exact v2) ?_
          refine r_aload_n dX9_take_266 rfl ?_
          refine r_getE (nI (gs g 3)) kX9 (k := 3) (by decide) rfl fl_X9_121 (lay_ok hL rfl) dX9_take_267 (by rw [mI_wI_n _ _ _ (by decide), mI_wI_n _ _ _ (by decide)]; exact s3) ?_
          refine r_iconst (nI 2) dX9_take_270 (by decide) ?_
          refine r_icmp_ne 278 dX9_take_271 (by decide) (fun _ => ?_) (fun hq => absurd hq (fun z => c2 ((nI_eq (b := 2) (by omega) (by decide)).mp z)))
          refine r_iconst (0) dX9_take_278 (by decide) ?_
          refine r_iadd dX9_take_279 ?_
          refine r_top (gi h 2 i) (Int32.add_zero _) ?_
          refine r_iastN (lay_ok hL rfl) (by omega) (by decide) dX9_take_280 ?_
          refine r_lay (lay_wI hL _ _ _) (fun hL => ?_)
          refine r_iinc (nI (i + 1)) _ dX9_take_281 (by decide) rfl (nI_1 _) rfl ?_
          refine r_goto 181 dX9_take_284 (by decide) ?_
          refine r_take 3 ?_
          exact ih (i + 1) _ (by omega) hL (by rw [es]; exact HA _ (by rw [q3, if_pos c243]; rfl)) (hb.fr (S := fun x => 95 ≤ x ∧ x ≤ 97) (((am_fr.wI _ _ (by decide)).tr (am_fr.wI _ _ (by decide))).tr (am_fr.wI _ _ (by decide))) (by omega) (by omega) (by omega)) (hf.tr (((am_fr.wI _ _ ⟨by decide, by decide⟩).tr (am_fr.wI _ _ ⟨by decide, by decide⟩)).tr (am_fr.wI _ _ ⟨by decide, by decide⟩)))
        · refine r_iconst (1) dX9_take_246 (by decide) ?_
          refine r_goto 251 dX9_take_247 (by decide) ?_
          refine r_zastN (lay_ok hL rfl) (by omega) (by decide) (by decide) dX9_take_251 ?_
          refine r_lay (lay_wI hL _ _ _) (fun hL => ?_)
          refine r_aload_n dX9_take_252 rfl ?_
          refine r_getF kX9 (k := 8) (by decide) rfl fl_X9_17 (lay_ok hL rfl) (lay_r hL rfl) dX9_take_253 ?_
          refine r_iload_n dX9_take_256 rfl ?_
          refine r_iload_n dX9_take_257 rfl ?_
          refine r_iastN (lay_ok hL rfl) (by omega) (by decide) dX9_take_258 ?_
          refine r_lay (lay_wI hL _ _ _) (fun hL => ?_)
          refine r_aload_n dX9_take_259 rfl ?_
          refine r_getF kX9 (k := 9) (by decide) rfl fl_X9_20 (lay_ok hL rfl) (lay_r hL rfl) dX9_take_260 ?_
          refine r_iload_n dX9_take_263 rfl ?_
          refine r_dup2 dX9_take_264 rfl rfl ?_
          refine r_ialdE (gi h 2 i) (lay_ok hL rfl) (by omega) (by omega) dX9_take_265 (by rw [mI_wI_n _ _ _ (by decide), mI_wI_n _ _ _ (by decide)]; exact v2) ?_
          refine r_aload_n dX9_take_266 rfl ?_
          refine r_getE (nI (gs g 3)) kX9 (k := 3) (by decide) rfl fl_X9_121 (lay_ok hL rfl) dX9_take_267 (by rw [mI_wI_n _ _ _ (by decide), mI_wI_n _ _ _ (by decide)]; exact s3) ?_
          refine r_iconst (nI 2) dX9_take_270 (by decide) ?_
          refine r_icmp_ne 278 dX9_take_271 (by decide) (fun _ => ?_) (fun hq => absurd hq (fun z => c2 ((nI_eq (b := 2) (by omega) (by decide)).mp z)))
          refine r_iconst (0) dX9_take_278 (by decide) ?_
          refine r_iadd dX9_take_279 ?_
          refine r_top (gi h 2 i) (Int32.add_zero _) ?_
          refine r_iastN (lay_ok hL rfl) (by omega) (by decide) dX9_take_280 ?_
          refine r_lay (lay_wI hL _ _ _) (fun hL => ?_)
          refine r_iinc (nI (i + 1)) _ dX9_take_281 (by decide) rfl (nI_1 _) rfl ?_
          refine r_goto 181 dX9_take_284 (by decide) ?_
          refine r_take 3 ?_
          exact ih (i + 1) _ (by omega) hL (by rw [es]; exact HA _ (by rw [q3, if_neg c243]; rfl)) (hb.fr (S := fun x => 95 ≤ x ∧ x ≤ 97) (((am_fr.wI _ _ (by decide)).tr (am_fr.wI _ _ (by decide))).tr (am_fr.wI _ _ (by decide))) (by omega) (by omega) (by omega)) (hf.tr (((am_fr.wI _ _ ⟨by decide, by decide⟩).tr (am_fr.wI _ _ ⟨by decide, by decide⟩)).tr (am_fr.wI _ _ ⟨by decide, by decide⟩)))
    · rw [if_neg cn] at es
      refine r_iload_n dX9_take_181 rfl ?_
      refine r_aload_n dX9_take_182 rfl ?_
      refine r_getE (nI (gs g 1)) kX9 (k := 1) (by decide) rfl fl_X9_115 (lay_ok hL rfl) dX9_take_183 s1 ?_
      refine r_icmp_ge 287 dX9_take_186 (by decide) (fun hq => absurd hq (nI_ge (by omega) (by omega))) (fun _ => ?_)
      refine r_aload_n dX9_take_189 rfl ?_
      refine r_getF kX9 (k := 11) (by decide) rfl fl_X9_27 (lay_ok hL rfl) (lay_r hL rfl) dX9_take_190 ?_
      refine r_iload_n dX9_take_193 rfl ?_
      refine r_ialdE (nI (ga g 0 i)) (lay_ok hL rfl) (by omega) (by omega) dX9_take_194 v4 ?_
      refine r_iload_n dX9_take_195 rfl ?_
      refine r_icmp_ne 281 dX9_take_196 (by decide) (fun _ => ?_) (fun hq => absurd hq (fun z => cn ((nI_eq (by omega) (by omega)).mp z)))
      refine r_iinc (nI (i + 1)) _ dX9_take_281 (by decide) rfl (nI_1 _) rfl ?_
      refine r_goto 181 dX9_take_284 (by decide) ?_
      exact ih (i + 1) N (by omega) hL (by rw [es]; exact hA) hb hf
set_option maxHeartbeats 4000000 in
set_option maxRecDepth 100000 in
theorem l2i_X9_take {l : Launch} {X : Nat × (Nat → Int32)} {M : am_M} {g : tG} {n i : Nat} {t : tL} {Bx : tB} {Post : Option Value → am_M → Prop} (hA : absM M g) (hB : gB g) (hn : n < 5) (hi : i < 5) (hne : i ≠ n) (ht : gl g 0 n i = some t) (kk : ∀ N', Lay N' → am_fr s_got M N' → BM N' (t_hearL (gs g 3) Bx t.2.2.2.2.2) → am_V l yX9_take cX9_take 6 (none) (am_R 2 0 0) 0 0 X Post 0 0 98 [some (.ref 93), some (.int (nI n)), some (.int (nI (i + 1)))] [] N') : ∀ (k j : Nat) (N : am_M), j + k = t.2.2.2.2.2.length → Lay N → am_fr s_got M N → BM N (t_hearL (gs g 3) Bx (t.2.2.2.2.2.take j)) → am_V l yX9_take cX9_take 6 (none) (am_R 2 0 0) 0 0 X Post 0 0 117 [some (.ref 93), some (.int (nI n)), some (.int (nI i)), some (.int (nI (110 + 10 * n + 5 * 0 + i))), some (.int (nI j))] [] N := by
  intro k
  have ok := hB.2.2.2.2.2.2.2.2.2.2.2.2.2.2.2 _ _ _ _ ht
  have l40 := ok.2.2.2.2.2.2.1
  have b2 := hB.2.2.1
  have b4 := hB.2.2.2.2.1
  have hy := (hA.2.2.2.2.2.1 n i 0 hn hi (by decide)).1
  rw [ht] at hy
  obtain ⟨y0, y1, y2, y3, y4, y5, y6, y7⟩ := hy
  induction k with
  | zero =>
    intro j N hj hL hf hb
    have hj : j = t.2.2.2.2.2.length := by omega
    rw [hj, List.take_length] at hb
    have y6 := hf.i (by unfold s_got; omega) y6
    refine r_iload_n dX9_take_117 rfl ?_
    refine r_iload_n dX9_take_118 rfl ?_
    refine r_icmp_eq 173 dX9_take_119 (by decide) (fun hq => absurd hq (fun z => hne ((nI_eq (by omega) (by omega)).mp z))) (fun _ => ?_)
    refine r_iload dX9_take_122 rfl ?_
    refine r_aload_n dX9_take_124 rfl ?_
    refine r_getF kX9 (k := 25) (by decide) rfl fl_X9_66 (lay_ok hL rfl) (lay_r hL rfl) dX9_take_125 ?_
    refine r_iload_n dX9_take_128 rfl ?_
    refine r_ialdE (nI t.2.2.2.2.2.length) (lay_ok hL rfl) (by omega) (by omega) dX9_take_129 y6 ?_
    refine r_icmp_ge 173 dX9_take_130 (by decide) (fun _ => ?_) (fun hq => absurd (nI_le (by omega) (by omega)) hq)
    refine r_iinc (nI (i + 1)) _ dX9_take_173 (by decide) rfl (nI_1 _) rfl ?_
    refine r_goto 98 dX9_take_176 (by decide) ?_
    refine r_take 3 ?_
    exact kk N hL hf hb
  | succ k ih =>
    intro j N hj hL hf hb
    obtain ⟨e, he⟩ : ∃ e, t.2.2.2.2.2[j]? = some e := ⟨_, List.getElem?_eq_getElem (show j < t.2.2.2.2.2.length by omega)⟩
    obtain ⟨z1, z2, z3⟩ := y7 j e he
    obtain ⟨x1, x2⟩ := ok.2.2.2.2.2.2.2 e (List.mem_of_getElem? he)
    have y6 := hf.i (by unfold s_got; omega) y6
    have z1 := hf.i (by unfold s_got; omega) z1
    have z2 := hf.i (by unfold s_got; omega) z2
    have z3 := hf.i (by unfold s_got; omega) z3
    have s3 := hf.i (by unfold s_got; omega) hA.1.2.2.2.1
    have et : t_hearL (gs g 3) Bx (t.2.2.2.2.2.take (j + 1)) = t_hear (gs g 3) (t_hearL (gs g 3) Bx (t.2.2.2.2.2.take j)) e.1 e.2.1 e.2.2 := by
      rw [List.take_add_one, he]
      unfold t_hearL
      rw [Option.toList_some, List.foldl_append]
      rfl
    refine r_iload_n dX9_take_117 rfl ?_
    refine r_iload_n dX9_take_118 rfl ?_
    refine r_icmp_eq 173 dX9_take_119 (by decide) (fun hq => absurd hq (fun z => hne ((nI_eq (by omega) (by omega)).mp z))) (fun _ => ?_)
    refine r_iload dX9_take_122 rfl ?_
    refine r_aload_n dX9_take_124 rfl ?_
    refine r_getF kX9 (k := 25) (by decide) rfl fl_X9_66 (lay_ok hL rfl) (lay_r hL rfl) dX9_take_125 ?_
    refine r_iload_n dX9_take_128 rfl ?_
    refine r_ialdE (nI t.2.2.2.2.2.length) (lay_ok hL rfl) (by omega) (by omega) dX9_take_129 y6 ?_
    refine r_icmp_ge 173 dX9_take_130 (by decide) (fun hq => absurd hq (nI_ge (by omega) (by omega))) (fun _ => ?_)
    refine r_bipush (nI 40) dX9_take_133 (by decide) ?_
    refine r_iload_n dX9_take_135 rfl ?_
    refine r_imul dX9_take_136 ?_
    refine r_top (nI (40 * (110 + 10 * n + 5 * 0 + i))) (nI_mul _ _) ?_
    refine r_iload dX9_take_137 rfl ?_
    refine r_iadd dX9_take_139 ?_
    refine r_top (nI ((40 * (110 + 10 * n + 5 * 0 + i)) + j)) (nI_add _ _) ?_
    refine r_istore _ dX9_take_140 (by decide) rfl ?_
    refine r_aload_n dX9_take_142 rfl ?_
    refine r_aload_n dX9_take_143 rfl ?_
    refine r_getF kX9 (k := 26) (by decide) rfl fl_X9_69 (lay_ok hL rfl) (lay_r hL rfl) dX9_take_144 ?_
    refine r_iload dX9_take_147 rfl ?_
    refine r_ialdE (nI e.1) (lay_ok hL rfl) (by omega) (by omega) dX9_take_149 z1 ?_
    refine r_aload_n dX9_take_150 rfl ?_
    refine r_getF kX9 (k := 27) (by decide) rfl fl_X9_72 (lay_ok hL rfl) (lay_r hL rfl) dX9_take_151 ?_
    refine r_iload dX9_take_154 rfl ?_
    refine r_ialdE (e.2.1) (lay_ok hL rfl) (by omega) (by omega) dX9_take_156 z2 ?_
    refine r_aload_n dX9_take_157 rfl ?_
    refine r_getF kX9 (k := 28) (by decide) rfl fl_X9_75 (lay_ok hL rfl) (lay_r hL rfl) dX9_take_158 ?_
    refine r_iload dX9_take_161 rfl ?_
    refine r_ialdE (nI e.2.2) (lay_ok hL rfl) (by omega) (by omega) dX9_take_163 z3 ?_
    refine r_callV ca_yX9_hear ml_X9_193 im_yX9_hear se_yX9_hear (by decide) rfl (lay_ok hL rfl) (c_X9_hear hL s3 b4 hb (by omega) x2) ⟨by decide, by decide⟩ (by first | decide | omega) (by first | decide | omega) rfl (Nat.le_of_ble_eq_true rfl) dX9_take_164 (fun v0 M1 hp1 => ?_)
    obtain ⟨rfl, hb2, hf2⟩ := hp1
    refine r_iinc (nI (j + 1)) _ dX9_take_167 (by decide) rfl (nI_1 _) rfl ?_
    refine r_goto 117 dX9_take_170 (by decide) ?_
    refine r_take 5 ?_
    exact ih (j + 1) M1 (by omega) (hf2.lay hL) (hf.tr hf2) (by rw [et]; exact hb2)
set_option maxHeartbeats 4000000 in
set_option maxRecDepth 100000 in
theorem l2_X9_take {l : Launch} {X : Nat × (Nat → Int32)} {M : am_M} {g : tG} {n : Nat} (hB : gB g) (hn : n < gs g 0) (hfull : ∀ o, o < gs g 0 → o ≠ n → gl g 0 n o ≠ none) (hnn : gl g 0 n n = none) : ∀ (k i : Nat) (N : am_M), i + k = gs g 0 → Lay N → absM N g → BM N (t_boxP g n i) → am_fr rS M N → am_V l yX9_take cX9_take 6 (none) (am_R 2 0 0) 0 0 X (fun v M' => v = none ∧ absM M' (g_take n g) ∧ Lay M' ∧ am_fr rS M M') 0 0 98 [some (.ref 93), some (.int (nI n)), some (.int (nI i))] [] N := by
  intro k
  have b1 := hB.2.1
  induction k with
  | zero =>
    intro i N hi hL hA hb hf
    obtain rfl : i = gs g 0 := by omega
    refine r_iload_n dX9_take_98 rfl ?_
    refine r_aload_n dX9_take_99 rfl ?_
    refine r_getE (nI (gs g 0)) kX9 (k := 0) (by decide) rfl fl_X9_7 (lay_ok hL rfl) dX9_take_100 hA.1.1 ?_
    refine r_icmp_ge 179 dX9_take_103 (by decide) (fun _ => ?_) (fun hq => absurd (nI_le (Nat.le_refl _) (by omega)) hq)
    refine r_iconst (nI 0) dX9_take_179 (by decide) ?_
    refine r_istore_n _ dX9_take_180 (by decide) rfl ?_
    exact l3_X9_take hB hn (gs g 1) 0 N (by omega) hL hA hb hf
  | succ k ih =>
    intro i N hi hL hA hb hf
    by_cases cn : i = n
    · subst cn
      refine r_iload_n dX9_take_98 rfl ?_
      refine r_aload_n dX9_take_99 rfl ?_
      refine r_getE (nI (gs g 0)) kX9 (k := 0) (by decide) rfl fl_X9_7 (lay_ok hL rfl) dX9_take_100 hA.1.1 ?_
      refine r_icmp_ge 179 dX9_take_103 (by decide) (fun hq => absurd hq (nI_ge (by omega) (by omega))) (fun _ => ?_)
      refine r_aload_n dX9_take_106 rfl ?_
      refine r_iload_n dX9_take_107 rfl ?_
      refine r_iconst (nI 0) dX9_take_108 (by decide) ?_
      refine r_iload_n dX9_take_109 rfl ?_
      refine r_cV ca_yX9_has ml_X9_181 im_yX9_has se_yX9_has (by decide) rfl (lay_ok hL rfl) (c_X9_has hL) ⟨by decide, by decide⟩ (by first | decide | omega) (by first | decide | omega) rfl (Nat.le_of_ble_eq_true rfl) dX9_take_110 ?_
      refine r_istore_n _ dX9_take_113 (by decide) rfl ?_
      refine r_iconst (nI 0) dX9_take_114 (by decide) ?_
      refine r_istore _ dX9_take_115 (by decide) rfl ?_
      refine r_iload_n dX9_take_117 rfl ?_
      refine r_iload_n dX9_take_118 rfl ?_
      refine r_icmp_eq 173 dX9_take_119 (by decide) (fun _ => ?_) (fun hq => absurd rfl hq)
      refine r_iinc (nI (i + 1)) _ dX9_take_173 (by decide) rfl (nI_1 _) rfl ?_
      refine r_goto 98 dX9_take_176 (by decide) ?_
      refine r_take 3 ?_
      exact ih (i + 1) N (by omega) hL hA (by rw [t_boxP_n hnn]; exact hb) hf
    · obtain ⟨t, ht⟩ : ∃ t, gl g 0 n i = some t := by
        cases e : gl g 0 n i with
        | none => exact absurd e (hfull i (by omega) cn)
        | some t => exact ⟨t, rfl⟩
      refine r_iload_n dX9_take_98 rfl ?_
      refine r_aload_n dX9_take_99 rfl ?_
      refine r_getE (nI (gs g 0)) kX9 (k := 0) (by decide) rfl fl_X9_7 (lay_ok hL rfl) dX9_take_100 hA.1.1 ?_
      refine r_icmp_ge 179 dX9_take_103 (by decide) (fun hq => absurd hq (nI_ge (by omega) (by omega))) (fun _ => ?_)
      refine r_aload_n dX9_take_106 rfl ?_
      refine r_iload_n dX9_take_107 rfl ?_
      refine r_iconst (nI 0) dX9_take_108 (by decide) ?_
      refine r_iload_n dX9_take_109 rfl ?_
      refine r_cV ca_yX9_has ml_X9_181 im_yX9_has se_yX9_has (by decide) rfl (lay_ok hL rfl) (c_X9_has hL) ⟨by decide, by decide⟩ (by first | decide | omega) (by first | decide | omega) rfl (Nat.le_of_ble_eq_true rfl) dX9_take_110 ?_
      refine r_istore_n _ dX9_take_113 (by decide) rfl ?_
      refine r_iconst (nI 0) dX9_take_114 (by decide) ?_
      refine r_istore _ dX9_take_115 (by decide) rfl ?_
      exact l2i_X9_take hA hB (by omega) (by omega) cn ht (fun N' h1 h2 h3 => ih (i + 1) N' (by omega) h1 (hA.gr h2.gr hL.1 (fun x a b z => by unfold s_got at z; omega)) (by rw [t_boxP_s ht]; exact h3) (hf.tr (h2.wd (fun x z => by unfold s_got at z; exact ⟨by omega, by omega⟩)))) _ 0 N (Nat.zero_add _) hL am_fr.rf hb
set_option maxHeartbeats 4000000 in
set_option maxRecDepth 100000 in
theorem l1_X9_take {l : Launch} {X : Nat × (Nat → Int32)} {M : am_M} {g : tG} {n : Nat} (hB : gB g) (hn : n < gs g 0) (hfull : ∀ o, o < gs g 0 → o ≠ n → gl g 0 n o ≠ none) (hnn : gl g 0 n n = none) : ∀ (k i : Nat) (N : am_M), i + k = gs g 2 → Lay N → absM N g → BM N (t_locP g n i) → am_fr rS M N → am_V l yX9_take cX9_take 6 (none) (am_R 2 0 0) 0 0 X (fun v M' => v = none ∧ absM M' (g_take n g) ∧ Lay M' ∧ am_fr rS M M') 0 0 6 [some (.ref 93), some (.int (nI n)), some (.int (nI i))] [] N := by
  intro k
  obtain ⟨b0, b1, b2, b3, b4, b5, -, -, -, -, bV, bA, -⟩ := id hB
  induction k with
  | zero =>
    intro i N hi hL hA hb hf
    obtain rfl : i = gs g 2 := by omega
    refine r_iload_n dX9_take_6 rfl ?_
    refine r_aload_n dX9_take_7 rfl ?_
    refine r_getE (nI (gs g 2)) kX9 (k := 2) (by decide) rfl fl_X9_118 (lay_ok hL rfl) dX9_take_8 hA.1.2.2.1 ?_
    refine r_icmp_ge 96 dX9_take_11 (by decide) (fun _ => ?_) (fun hq => absurd (nI_le (Nat.le_refl _) (by omega)) hq)
    refine r_iconst (nI 0) dX9_take_96 (by decide) ?_
    refine r_istore_n _ dX9_take_97 (by decide) rfl ?_
    exact l2_X9_take hB hn hfull hnn (gs g 0) 0 N (by omega) hL hA hb hf
  | succ k ih =>
    intro i N hi hL hA hb hf
    obtain ⟨a0, a1, a2⟩ := hA.2.2.1 i (by omega)
    obtain ⟨y0, y1⟩ := bA i (by omega)
    have u4 := (hA.2.1 _ y0).2.2.2.2
    have u3 := (hA.2.1 _ y0).2.2.2.1
    have u1 := (hA.2.1 _ y0).2.1
    have x4 := (hA.2.1 _ y1).2.2.2.2
    obtain ⟨p1, p2⟩ := bV _ y0
    have p3 := (bV _ y1).1
    have s3 := hA.1.2.2.2.1
    have hst : t_locP g n (i + 1) = if ga g 0 (ga g 2 i) = n ∧ ga g 0 (ga g 3 i) = n ∧ ga g 1 (ga g 2 i) = 1 then t_hear (gs g 3) (t_locP g n i) (ga g 3 i) (t_msg (gs g 3) (gi g 1 (ga g 2 i)) (gi g 3 i)) i else t_locP g n i := rfl
    refine r_iload_n dX9_take_6 rfl ?_
    refine r_aload_n dX9_take_7 rfl ?_
    refine r_getE (nI (gs g 2)) kX9 (k := 2) (by decide) rfl fl_X9_118 (lay_ok hL rfl) dX9_take_8 hA.1.2.2.1 ?_
    refine r_icmp_ge 96 dX9_take_11 (by decide) (fun hq => absurd hq (nI_ge (by omega) (by omega))) (fun _ => ?_)
    refine r_aload_n dX9_take_14 rfl ?_
    refine r_getF kX9 (k := 11) (by decide) rfl fl_X9_27 (lay_ok hL rfl) (lay_r hL rfl) dX9_take_15 ?_
    refine r_aload_n dX9_take_18 rfl ?_
    refine r_getF kX9 (k := 12) (by decide) rfl fl_X9_30 (lay_ok hL rfl) (lay_r hL rfl) dX9_take_19 ?_
    refine r_iload_n dX9_take_22 rfl ?_
    refine r_ialdE (nI (ga g 2 i)) (lay_ok hL rfl) (by omega) (by omega) dX9_take_23 a0 ?_
    refine r_ialdE (nI (ga g 0 (ga g 2 i))) (lay_ok hL rfl) (by omega) (by omega) dX9_take_24 u4 ?_
    refine r_iload_n dX9_take_25 rfl ?_
    refine r_icmp_ne 90 dX9_take_26 (by decide) (fun c26 => ?_) (fun c26 => ?_)
    · refine r_iinc (nI (i + 1)) _ dX9_take_90 (by decide) rfl (nI_1 _) rfl ?_
      refine r_goto 6 dX9_take_93 (by decide) ?_
      first | exact ih (i + 1) N (by omega) hL hA (by rw [hst, if_neg (fun z => c26 (by rw [z.1]))]; exact hb) hf | exact ih (i + 1) N (by omega) hL hA (by rw [hst, if_neg (fun z => c41 (by rw [z.2.1]))]; exact hb) hf | exact ih (i + 1) N (by omega) hL hA (by rw [hst, if_neg (fun z => absurd c55 (by rw [z.2.2]; decide))]; exact hb) hf | exact ih (i + 1) M1 (by omega) (hf2.lay hL) (hA.gr hf2.gr hL.1 (fun x a b z => by unfold s_got at z; omega)) (by rw [hst, if_pos ⟨(nI_eq (by omega) (by omega)).mp c26, (nI_eq (by omega) (by omega)).mp c41, Nat.le_antisymm p2 (Nat.pos_of_ne_zero (fun z => c55 (by rw [z]; rfl)))⟩]; exact hb2) (hf.tr (hf2.wd (fun x z => by unfold s_got at z; exact ⟨by omega, by omega⟩)))
    · refine r_aload_n dX9_take_29 rfl ?_
      refine r_getF kX9 (k := 11) (by decide) rfl fl_X9_27 (lay_ok hL rfl) (lay_r hL rfl) dX9_take_30 ?_
      refine r_aload_n dX9_take_33 rfl ?_
      refine r_getF kX9 (k := 13) (by decide) rfl fl_X9_33 (lay_ok hL rfl) (lay_r hL rfl) dX9_take_34 ?_
      refine r_iload_n dX9_take_37 rfl ?_
      refine r_ialdE (nI (ga g 3 i)) (lay_ok hL rfl) (by omega) (by omega) dX9_take_38 a1 ?_
      refine r_ialdE (nI (ga g 0 (ga g 3 i))) (lay_ok hL rfl) (by omega) (by omega) dX9_take_39 x4 ?_
      refine r_iload_n dX9_take_40 rfl ?_
      refine r_icmp_ne 90 dX9_take_41 (by decide) (fun c41 => ?_) (fun c41 => ?_)
      · refine r_iinc (nI (i + 1)) _ dX9_take_90 (by decide) rfl (nI_1 _) rfl ?_
        refine r_goto 6 dX9_take_93 (by decide) ?_
        first | exact ih (i + 1) N (by omega) hL hA (by rw [hst, if_neg (fun z => c26 (by rw [z.1]))]; exact hb) hf | exact ih (i + 1) N (by omega) hL hA (by rw [hst, if_neg (fun z => c41 (by rw [z.2.1]))]; exact hb) hf | exact ih (i + 1) N (by omega) hL hA (by rw [hst, if_neg (fun z => absurd c55 (by rw [z.2.2]; decide))]; exact hb) hf | exact ih (i + 1) M1 (by omega) (hf2.lay hL) (hA.gr hf2.gr hL.1 (fun x a b z => by unfold s_got at z; omega)) (by rw [hst, if_pos ⟨(nI_eq (by omega) (by omega)).mp c26, (nI_eq (by omega) (by omega)).mp c41, Nat.le_antisymm p2 (Nat.pos_of_ne_zero (fun z => c55 (by rw [z]; rfl)))⟩]; exact hb2) (hf.tr (hf2.wd (fun x z => by unfold s_got at z; exact ⟨by omega, by omega⟩)))
      · refine r_aload_n dX9_take_44 rfl ?_
        refine r_getF kX9 (k := 10) (by decide) rfl fl_X9_23 (lay_ok hL rfl) (lay_r hL rfl) dX9_take_45 ?_
        refine r_aload_n dX9_take_48 rfl ?_
        refine r_getF kX9 (k := 12) (by decide) rfl fl_X9_30 (lay_ok hL rfl) (lay_r hL rfl) dX9_take_49 ?_
        refine r_iload_n dX9_take_52 rfl ?_
        refine r_ialdE (nI (ga g 2 i)) (lay_ok hL rfl) (by omega) (by omega) dX9_take_53 a0 ?_
        refine r_zaldE (nI (ga g 1 (ga g 2 i))) (lay_ok hL rfl) (by omega) (by omega) dX9_take_54 u3 ?_
        refine r_if_eq 90 dX9_take_55 (by decide) (fun c55 => ?_) (fun c55 => ?_)
        · refine r_iinc (nI (i + 1)) _ dX9_take_90 (by decide) rfl (nI_1 _) rfl ?_
          refine r_goto 6 dX9_take_93 (by decide) ?_
          first | exact ih (i + 1) N (by omega) hL hA (by rw [hst, if_neg (fun z => c26 (by rw [z.1]))]; exact hb) hf | exact ih (i + 1) N (by omega) hL hA (by rw [hst, if_neg (fun z => c41 (by rw [z.2.1]))]; exact hb) hf | exact ih (i + 1) N (by omega) hL hA (by rw [hst, if_neg (fun z => absurd c55 (by rw [z.2.2]; decide))]; exact hb) hf | exact ih (i + 1) M1 (by omega) (hf2.lay hL) (hA.gr hf2.gr hL.1 (fun x a b z => by unfold s_got at z; omega)) (by rw [hst, if_pos ⟨(nI_eq (by omega) (by omega)).mp c26, (nI_eq (by omega) (by omega)).mp c41, Nat.le_antisymm p2 (Nat.pos_of_ne_zero (fun z => c55 (by rw [z]; rfl)))⟩]; exact hb2) (hf.tr (hf2.wd (fun x z => by unfold s_got at z; exact ⟨by omega, by omega⟩)))
        · refine r_aload_n dX9_take_58 rfl ?_
          refine r_aload_n dX9_take_59 rfl ?_
          refine r_getF kX9 (k := 13) (by decide) rfl fl_X9_33 (lay_ok hL rfl) (lay_r hL rfl) dX9_take_60 ?_
          refine r_iload_n dX9_take_63 rfl ?_
          refine r_ialdE (nI (ga g 3 i)) (lay_ok hL rfl) (by omega) (by omega) dX9_take_64 a1 ?_
          refine r_aload_n dX9_take_65 rfl ?_
          refine r_aload_n dX9_take_66 rfl ?_
          refine r_getF kX9 (k := 8) (by decide) rfl fl_X9_17 (lay_ok hL rfl) (lay_r hL rfl) dX9_take_67 ?_
          refine r_aload_n dX9_take_70 rfl ?_
          refine r_getF kX9 (k := 12) (by decide) rfl fl_X9_30 (lay_ok hL rfl) (lay_r hL rfl) dX9_take_71 ?_
          refine r_iload_n dX9_take_74 rfl ?_
          refine r_ialdE (nI (ga g 2 i)) (lay_ok hL rfl) (by omega) (by omega) dX9_take_75 a0 ?_
          refine r_ialdE (gi g 1 (ga g 2 i)) (lay_ok hL rfl) (by omega) (by omega) dX9_take_76 u1 ?_
          refine r_aload_n dX9_take_77 rfl ?_
          refine r_getF kX9 (k := 14) (by decide) rfl fl_X9_36 (lay_ok hL rfl) (lay_r hL rfl) dX9_take_78 ?_
          refine r_iload_n dX9_take_81 rfl ?_
          refine r_ialdE (gi g 3 i) (lay_ok hL rfl) (by omega) (by omega) dX9_take_82 a2 ?_
          refine r_cV ca_yX9_message ml_X9_166 im_yX9_message se_yX9_message (by decide) rfl (lay_ok hL rfl) (c_X9_message hL s3 b4) ⟨by decide, by decide⟩ (by first | decide | omega) (by first | decide | omega) rfl (Nat.le_of_ble_eq_true rfl) dX9_take_83 ?_
          refine r_iload_n dX9_take_86 rfl ?_
          refine r_callV ca_yX9_hear ml_X9_193 im_yX9_hear se_yX9_hear (by decide) rfl (lay_ok hL rfl) (c_X9_hear hL s3 b4 hb (by omega) (by omega)) ⟨by decide, by decide⟩ (by first | decide | omega) (by first | decide | omega) rfl (Nat.le_of_ble_eq_true rfl) dX9_take_87 (fun v0 M1 hp1 => ?_)
          obtain ⟨rfl, hb2, hf2⟩ := hp1
          refine r_iinc (nI (i + 1)) _ dX9_take_90 (by decide) rfl (nI_1 _) rfl ?_
          refine r_goto 6 dX9_take_93 (by decide) ?_
          first | exact ih (i + 1) N (by omega) hL hA (by rw [hst, if_neg (fun z => c26 (by rw [z.1]))]; exact hb) hf | exact ih (i + 1) N (by omega) hL hA (by rw [hst, if_neg (fun z => c41 (by rw [z.2.1]))]; exact hb) hf | exact ih (i + 1) N (by omega) hL hA (by rw [hst, if_neg (fun z => absurd c55 (by rw [z.2.2]; decide))]; exact hb) hf | exact ih (i + 1) M1 (by omega) (hf2.lay hL) (hA.gr hf2.gr hL.1 (fun x a b z => by unfold s_got at z; omega)) (by rw [hst, if_pos ⟨(nI_eq (by omega) (by omega)).mp c26, (nI_eq (by omega) (by omega)).mp c41, Nat.le_antisymm p2 (Nat.pos_of_ne_zero (fun z => c55 (by rw [z]; rfl)))⟩]; exact hb2) (hf.tr (hf2.wd (fun x z => by unfold s_got at z; exact ⟨by omega, by omega⟩)))
set_option maxHeartbeats 4000000 in
set_option maxRecDepth 100000 in
theorem c_X9_take {l : Launch} {X : Nat × (Nat → Int32)} {M : am_M} (hL : Lay M) {g : tG} {n : Nat} (hA : absM M g) (hB : gB g) (hn : n < gs g 0) (hfull : ∀ o, o < gs g 0 → o ≠ n → gl g 0 n o ≠ none) (hnn : gl g 0 n n = none) : am_C l yX9_take cX9_take 6 (none) 2 0 0 X [.ref 93, .int (nI n)] M (fun v M' => v = none ∧ absM M' (g_take n g) ∧ Lay M' ∧ am_fr rS M M') := by
  refine am_C.of (by decide) (by simp [Value.category, va_rf]) (Nat.le_of_ble_eq_true rfl) ?_
  refine r_aload_n dX9_take_0 rfl ?_
  refine r_callV ca_yX9_begin ml_X9_190 im_yX9_begin se_yX9_begin (by decide) rfl (lay_ok hL rfl) (c_X9_begin hL) ⟨by decide, by decide⟩ (by first | decide | omega) (by first | decide | omega) rfl (Nat.le_of_ble_eq_true rfl) dX9_take_1 (fun v0 M1 hp1 => ?_)
  obtain ⟨rfl, hb, hf⟩ := hp1
  refine r_iconst (nI 0) dX9_take_4 (by decide) ?_
  refine r_istore_n _ dX9_take_5 (by decide) rfl ?_
  exact l1_X9_take hB hn hfull hnn (gs g 2) 0 M1 (by omega) (hf.lay hL) (hA.gr hf.gr hL.1 (fun x a b z => by unfold s_got at z; omega)) hb (hf.wd (fun x z => by unfold s_got at z; exact ⟨by omega, by omega⟩))
theorem itr_cnt_le (P : Nat → Prop) [DecidablePred P] : ∀ i, itr (fun o c => if P o then c + 1 else c) i 0 ≤ i
  | 0 => Nat.le_refl _
  | i + 1 => by
    have := itr_cnt_le P i
    rw [itr_s _ i _]
    split <;> omega
theorem itr_cnt_full (P : Nat → Prop) [DecidablePred P] {n : Nat} (hn : ¬ P n) : ∀ i, (n < i → itr (fun o c => if P o then c + 1 else c) i 0 ≤ i - 1) ∧ ((n < i → itr (fun o c => if P o then c + 1 else c) i 0 = i - 1 → ∀ o, o < i → o ≠ n → P o) ∧ (i ≤ n → itr (fun o c => if P o then c + 1 else c) i 0 = i → ∀ o, o < i → P o))
  | 0 => ⟨fun h => by omega, fun h => by omega, fun _ _ o h => by omega⟩
  | i + 1 => by
    obtain ⟨h1, h2, h3⟩ := itr_cnt_full P hn i
    have hle := itr_cnt_le P i
    rw [itr_s _ i _]
    generalize itr (fun o c => if P o then c + 1 else c) i 0 = x at h1 h2 h3 hle ⊢
    refine ⟨fun h => ?_, fun h e o ho hne => ?_, fun h e o ho => ?_⟩
    · by_cases c : n = i
      · subst c; rw [if_neg hn]; omega
      · have := h1 (by omega)
        split <;> omega
    · by_cases c : n = i
      · subst c
        rw [if_neg hn] at e
        exact h3 (Nat.le_refl _) (by omega) o (by omega)
      · have q := h1 (by omega)
        by_cases d : P i
        · rw [if_pos d] at e
          by_cases f : o = i
          · rw [f]; exact d
          · exact h2 (by omega) (by omega) o (by omega) hne
        · rw [if_neg d] at e
          omega
    · by_cases d : P i
      · rw [if_pos d] at e
        by_cases f : o = i
        · rw [f]; exact d
        · exact h3 (by omega) (by omega) o (by omega)
      · rw [if_neg d] at e
        omega
theorem held_full {g : tG} {n : Nat} (hn : n < gs g 0) (hnn : gl g 0 n n = none) (h : t_held g n = gs g 0 - 1) : ∀ o, o < gs g 0 → o ≠ n → gl g 0 n o ≠ none := fun o ho hne => by
  have := ((itr_cnt_full (fun o => (gl g 0 n o).isSome = true) (n := n) (by rw [hnn]; decide) (gs g 0)).2.1 hn h) o ho hne
  intro z
  rw [z] at this
  cases this
def t_tolP (g : tG) (n i : Nat) : Nat := itr (fun o c => match gl g 0 n o with
  | none => c
  | some t => c + t.2.2.2.2.1) i (t_act g n)
theorem tolP_le {g : tG} (hB : gB g) (n : Nat) : ∀ i, t_tolP g n i ≤ 16 + 16 * i
  | 0 => by
    have := t_act_le g n (gs g 1)
    have := hB.2.2.1
    show t_act g n ≤ _
    unfold t_act
    omega
  | i + 1 => by
    have ih := tolP_le hB n i
    show (match gl g 0 n i with
      | none => t_tolP g n i
      | some t => t_tolP g n i + t.2.2.2.2.1) ≤ _
    cases e : gl g 0 n i with
    | none => show t_tolP g n i ≤ _; omega
    | some t =>
      have := (hB.2.2.2.2.2.2.2.2.2.2.2.2.2.2.2 _ _ _ _ e).2.2.2.2.2.1
      show t_tolP g n i + t.2.2.2.2.1 ≤ _
      omega
theorem tolP_n {g : tG} {n i : Nat} (h : gl g 0 n i = none) : t_tolP g n (i + 1) = t_tolP g n i := by
  show (match gl g 0 n i with
      | none => t_tolP g n i
      | some t => t_tolP g n i + t.2.2.2.2.1) = _
  rw [h]
theorem tolP_s {g : tG} {n i : Nat} {t : tL} (h : gl g 0 n i = some t) : t_tolP g n (i + 1) = t_tolP g n i + t.2.2.2.2.1 := by
  show (match gl g 0 n i with
      | none => t_tolP g n i
      | some t => t_tolP g n i + t.2.2.2.2.1) = _
  rw [h]
set_option maxHeartbeats 4000000 in
set_option maxRecDepth 100000 in
theorem li_X9_goOn {l : Launch} {X : Nat × (Nat → Int32)} {M N : am_M} {g kk : tG} {n : Nat} (hL : Lay N) (hA : absM N g) (hB : gB g) (hn : n < gs g 0) (hr : ga g 4 n ≤ 199) (hfull : ∀ o, o < gs g 0 → o ≠ n → gl g 0 n o ≠ none) (hnn : gl g 0 n n = none) (hf : am_fr rS M N) (kc : ∀ N', Lay N' → absM N' (g_fin n g) → am_fr rS M N' → am_V l yX9_goOn cX9_goOn 4 (none) (am_R 4 0 0) 0 0 X (fun v M' => v = none ∧ absM M' (kk) ∧ Lay M' ∧ am_fr rS M M') 0 0 0 [some (.ref 93), some (.int (nI n))] [] N') : ∀ (k i : Nat), i + k = gs g 0 → am_V l yX9_goOn cX9_goOn 4 (none) (am_R 4 0 0) 0 0 X (fun v M' => v = none ∧ absM M' (kk) ∧ Lay M' ∧ am_fr rS M M') 0 0 31 [some (.ref 93), some (.int (nI n)), some (.int (nI (t_tolP g n i))), some (.int (nI i))] [] N := by
  intro k
  have b1 := hB.2.1
  induction k with
  | zero =>
    intro i hi
    obtain rfl : i = gs g 0 := by omega
    have tl := tolP_le hB n (gs g 0)
    have n4 := (hA.2.2.2.1 n (by omega)).1
    by_cases c : t_toldA g n = 0
    · have ef : g_fin n g = ua g 5 n 1 := if_pos c
      have hA5 := absM_node hL.1 hA (show n < 5 by omega) 5 1 (by omega)
      refine r_iload_n dX9_goOn_31 rfl ?_
      refine r_aload_n dX9_goOn_32 rfl ?_
      refine r_getE (nI (gs g 0)) kX9 (k := 0) (by decide) rfl fl_X9_7 (lay_ok hL rfl) dX9_goOn_33 hA.1.1 ?_
      refine r_icmp_ge 69 dX9_goOn_36 (by decide) (fun _ => ?_) (fun hq => absurd (nI_le (Nat.le_refl _) (by omega)) hq)
      refine r_iload_n dX9_goOn_69 rfl ?_
      refine r_if_ne 83 dX9_goOn_70 (by decide) (fun hq => absurd (by rw [show t_tolP g n (gs g 0) = 0 from c]; rfl) hq) (fun _ => ?_)
      refine r_aload_n dX9_goOn_73 rfl ?_
      refine r_getF kX9 (k := 16) (by decide) rfl fl_X9_42 (lay_ok hL rfl) (lay_r hL rfl) dX9_goOn_74 ?_
      refine r_iload_n dX9_goOn_77 rfl ?_
      refine r_iconst (1) dX9_goOn_78 (by decide) ?_
      refine r_zastN (lay_ok hL rfl) (by omega) (by decide) (by decide) dX9_goOn_79 ?_
      refine r_lay (lay_wI hL _ _ _) (fun hL => ?_)
      refine r_goto 101 dX9_goOn_80 (by decide) ?_
      refine r_goto 0 dX9_goOn_101 (by decide) ?_
      refine r_take 2 ?_
      exact kc _ hL (by rw [ef]; exact hA5) (hf.tr (am_fr.wI _ _ ⟨by decide, by decide⟩))
    · have ef : g_fin n g = g_come n (ga g 4 n + 1) (g_take n g) := if_neg c
      have st := sameT_take n g
      have c' : t_tolP g n (gs g 0) ≠ 0 := c
      refine r_iload_n dX9_goOn_31 rfl ?_
      refine r_aload_n dX9_goOn_32 rfl ?_
      refine r_getE (nI (gs g 0)) kX9 (k := 0) (by decide) rfl fl_X9_7 (lay_ok hL rfl) dX9_goOn_33 hA.1.1 ?_
      refine r_icmp_ge 69 dX9_goOn_36 (by decide) (fun _ => ?_) (fun hq => absurd (nI_le (Nat.le_refl _) (by omega)) hq)
      refine r_iload_n dX9_goOn_69 rfl ?_
      refine r_if_ne 83 dX9_goOn_70 (by decide) (fun _ => ?_) (fun hq => absurd hq (nI_ne0 (by omega) (by omega)))
      refine r_aload_n dX9_goOn_83 rfl ?_
      refine r_iload_n dX9_goOn_84 rfl ?_
      refine r_callV ca_yX9_take ml_X9_202 im_yX9_take se_yX9_take (by decide) rfl (lay_ok hL rfl) (c_X9_take hL hA hB hn hfull hnn) ⟨by decide, by decide⟩ (by first | decide | omega) (by first | decide | omega) rfl (Nat.le_of_ble_eq_true rfl) dX9_goOn_85 (fun v0 M1 hp1 => ?_)
      obtain ⟨rfl, hA2, hL2, hf2⟩ := hp1
      have n42 := (hA2.2.2.2.1 n (by omega)).1
      rw [st.2.2.2.2.2.1 4 (by decide)] at n42
      have hL := hL2
      refine r_aload_n dX9_goOn_88 rfl ?_
      refine r_iload_n dX9_goOn_89 rfl ?_
      refine r_aload_n dX9_goOn_90 rfl ?_
      refine r_getF kX9 (k := 15) (by decide) rfl fl_X9_39 (lay_ok hL rfl) (lay_r hL rfl) dX9_goOn_91 ?_
      refine r_iload_n dX9_goOn_94 rfl ?_
      refine r_ialdE (nI (ga g 4 n)) (lay_ok hL rfl) (by omega) (by omega) dX9_goOn_95 n42 ?_
      refine r_iconst (1) dX9_goOn_96 (by decide) ?_
      refine r_iadd dX9_goOn_97 ?_
      refine r_top (nI (ga g 4 n + 1)) (nI_1 _) ?_
      refine r_callV ca_yX9_come ml_X9_205 im_yX9_come se_yX9_come (by decide) rfl (lay_ok hL rfl) (c_X9_come hL2 hA2 (gB_take hB) (by rw [st.1]; exact hn) (by omega)) ⟨by decide, by decide⟩ (by first | decide | omega) (by first | decide | omega) rfl (Nat.le_of_ble_eq_true rfl) dX9_goOn_98 (fun v0 M1 hp1 => ?_)
      obtain ⟨rfl, hA3, hL3, hf3⟩ := hp1
      refine r_goto 0 dX9_goOn_101 (by decide) ?_
      refine r_take 2 ?_
      exact kc _ hL3 (by rw [ef]; exact hA3) ((hf.tr hf2).tr hf3)
  | succ k ih =>
    intro i hi
    have q := ih (i + 1) (by omega)
    by_cases cn : i = n
    · rw [cn, tolP_n hnn] at q
      subst cn
      refine r_iload_n dX9_goOn_31 rfl ?_
      refine r_aload_n dX9_goOn_32 rfl ?_
      refine r_getE (nI (gs g 0)) kX9 (k := 0) (by decide) rfl fl_X9_7 (lay_ok hL rfl) dX9_goOn_33 hA.1.1 ?_
      refine r_icmp_ge 69 dX9_goOn_36 (by decide) (fun hq => absurd hq (nI_ge (by omega) (by omega))) (fun _ => ?_)
      refine r_iload_n dX9_goOn_39 rfl ?_
      refine r_iload_n dX9_goOn_40 rfl ?_
      refine r_iload_n dX9_goOn_41 rfl ?_
      refine r_icmp_ne 49 dX9_goOn_42 (by decide) (fun hq => absurd rfl hq) (fun _ => ?_)
      refine r_iconst (nI 0) dX9_goOn_45 (by decide) ?_
      refine r_goto 61 dX9_goOn_46 (by decide) ?_
      refine r_iadd dX9_goOn_61 ?_
      refine r_top (nI ((t_tolP g i i) + 0)) (nI_add _ _) ?_
      refine r_istore_n _ dX9_goOn_62 (by decide) rfl ?_
      refine r_iinc (nI (i + 1)) _ dX9_goOn_63 (by decide) rfl (nI_1 _) rfl ?_
      refine r_goto 31 dX9_goOn_66 (by decide) ?_
      exact q
    · obtain ⟨t, ht⟩ : ∃ t, gl g 0 n i = some t := by
        cases e : gl g 0 n i with
        | none => exact absurd e (hfull i (by omega) cn)
        | some t => exact ⟨t, rfl⟩
      rw [tolP_s ht] at q
      have hy := (hA.2.2.2.2.2.1 n i 0 (by omega) (by omega) (by decide)).1
      rw [ht] at hy
      have y5 := hy.2.2.2.2.2.1
      refine r_iload_n dX9_goOn_31 rfl ?_
      refine r_aload_n dX9_goOn_32 rfl ?_
      refine r_getE (nI (gs g 0)) kX9 (k := 0) (by decide) rfl fl_X9_7 (lay_ok hL rfl) dX9_goOn_33 hA.1.1 ?_
      refine r_icmp_ge 69 dX9_goOn_36 (by decide) (fun hq => absurd hq (nI_ge (by omega) (by omega))) (fun _ => ?_)
      refine r_iload_n dX9_goOn_39 rfl ?_
      refine r_iload_n dX9_goOn_40 rfl ?_
      refine r_iload_n dX9_goOn_41 rfl ?_
      refine r_icmp_ne 49 dX9_goOn_42 (by decide) (fun _ => ?_) (fun hq => absurd hq (fun z => cn ((nI_eq (by omega) (by omega)).mp z)))
      refine r_aload_n dX9_goOn_49 rfl ?_
      refine r_getF kX9 (k := 24) (by decide) rfl fl_X9_63 (lay_ok hL rfl) (lay_r hL rfl) dX9_goOn_50 ?_
      refine r_aload_n dX9_goOn_53 rfl ?_
      refine r_iload_n dX9_goOn_54 rfl ?_
      refine r_iconst (nI 0) dX9_goOn_55 (by decide) ?_
      refine r_iload_n dX9_goOn_56 rfl ?_
      refine r_cV ca_yX9_has ml_X9_181 im_yX9_has se_yX9_has (by decide) rfl (lay_ok hL rfl) (c_X9_has hL) ⟨by decide, by decide⟩ (by first | decide | omega) (by first | decide | omega) rfl (Nat.le_of_ble_eq_true rfl) dX9_goOn_57 ?_
      refine r_ialdE (nI t.2.2.2.2.1) (lay_ok hL rfl) (by omega) (by omega) dX9_goOn_60 y5 ?_
      refine r_iadd dX9_goOn_61 ?_
      refine r_top (nI ((t_tolP g n i) + t.2.2.2.2.1)) (nI_add _ _) ?_
      refine r_istore_n _ dX9_goOn_62 (by decide) rfl ?_
      refine r_iinc (nI (i + 1)) _ dX9_goOn_63 (by decide) rfl (nI_1 _) rfl ?_
      refine r_goto 31 dX9_goOn_66 (by decide) ?_
      exact q
theorem fin_nn {n : Nat} {h : tG} (z1 : gl h 0 n n = none) (z2 : gl h 1 n n = none) : gl (g_fin n h) 0 n n = none ∧ gl (g_fin n h) 1 n n = none := by
  by_cases c : t_toldA h n = 0
  · rw [show g_fin n h = ua h 5 n 1 from if_pos c]
    exact ⟨z1, z2⟩
  · rw [show g_fin n h = g_come n (ga h 4 n + 1) (g_take n h) from if_neg c]
    have st := sameT_take n h
    constructor
    · rw [come_gl (by decide)]
      show (if n = n then (if 0 = 0 then gl (g_take n h) 1 n n else _) else _) = _
      rw [if_pos rfl, if_pos rfl, st.2.2.1]
      exact z2
    · rw [come_gl (by decide)]
      show (if n = n then (if 1 = 0 then _ else if 1 = 2 then _ else if 1 = 1 ∨ 1 = 3 then none else _) else _) = _
      rw [if_pos rfl, if_neg (by decide), if_neg (by decide), if_pos (by decide)]
set_option maxHeartbeats 4000000 in
set_option maxRecDepth 100000 in
theorem l_X9_goOn {l : Launch} {X : Nat × (Nat → Int32)} {M : am_M} {kk : tG} {n : Nat} : ∀ (k i : Nat) (N : am_M) (h : tG), i + k = 2 → onI n i h → gl h 0 n n = none → gl h 1 n n = none → Lay N → absM N h → am_fr rS M N → kk = g_on n (201 - i) h → am_V l yX9_goOn cX9_goOn 4 (none) (am_R 4 0 0) 0 0 X (fun v M' => v = none ∧ absM M' (kk) ∧ Lay M' ∧ am_fr rS M M') 0 0 0 [some (.ref 93), some (.int (nI n))] [] N := by
  intro k
  have NO : ∀ (N : am_M) (h : tG), onI n 0 h → ¬ (ga h 5 n = 0 ∧ t_held h n = gs h 0 - 1) → Lay N → absM N h → am_fr rS M N → kk = h → am_V l yX9_goOn cX9_goOn 4 (none) (am_R 4 0 0) 0 0 X (fun v M' => v = none ∧ absM M' (kk) ∧ Lay M' ∧ am_fr rS M M') 0 0 0 [some (.ref 93), some (.int (nI n))] [] N := fun N h hJ hz hL hA hf hk => by
    have hn5 : n < 5 := by have := hJ.2.1; have := hJ.1.2.1; omega
    have n5 := (hA.2.2.2.1 n hn5).2.1
    have w5 := (hJ.1.2.2.2.2.2.2.2.2.2.2.2.2.1 n hn5).2.1
    have b1 := hJ.1.2.1
    have b0 := hJ.1.1
    have hle := itr_cnt_le (fun o => (gl h 0 n o).isSome = true) (gs h 0)
    have hle : t_held h n ≤ gs h 0 := hle
    by_cases c : ga h 5 n = 0
    · have hz : t_held h n ≠ gs h 0 - 1 := fun z => hz ⟨c, z⟩
      refine r_aload_n dX9_goOn_0 rfl ?_
      refine r_getF kX9 (k := 16) (by decide) rfl fl_X9_42 (lay_ok hL rfl) (lay_r hL rfl) dX9_goOn_1 ?_
      refine r_iload_n dX9_goOn_4 rfl ?_
      refine r_zaldE (0) (lay_ok hL rfl) (by omega) (by omega) dX9_goOn_5 (by rw [n5, c]; rfl) ?_
      refine r_if_ne 104 dX9_goOn_6 (by decide) (fun hq => absurd (by decide) hq) (fun _ => ?_)
      refine r_aload_n dX9_goOn_9 rfl ?_
      refine r_iload_n dX9_goOn_10 rfl ?_
      refine r_cV ca_yX9_letters ml_X9_199 im_yX9_letters se_yX9_letters (by decide) rfl (lay_ok hL rfl) (c_X9_letters hL hA.1.1 b1 hA.2.2.2.2.2.1 hn5) ⟨by decide, by decide⟩ (by first | decide | omega) (by first | decide | omega) rfl (Nat.le_of_ble_eq_true rfl) dX9_goOn_11 ?_
      refine r_aload_n dX9_goOn_14 rfl ?_
      refine r_getE (nI (gs h 0)) kX9 (k := 0) (by decide) rfl fl_X9_7 (lay_ok hL rfl) dX9_goOn_15 hA.1.1 ?_
      refine r_iconst (1) dX9_goOn_18 (by decide) ?_
      refine r_isub dX9_goOn_19 ?_
      refine r_top (nI (gs h 0 - 1)) (nI_sub1 (by omega)) ?_
      refine r_icmp_ne 104 dX9_goOn_20 (by decide) (fun _ => ?_) (fun hq => absurd hq (fun z => hz ((nI_eq (by omega) (by omega)).mp z)))
      exact r_vret rfl dX9_goOn_104 ⟨rfl, by rw [hk]; exact hA, hL, hf⟩
    · skip
      refine r_aload_n dX9_goOn_0 rfl ?_
      refine r_getF kX9 (k := 16) (by decide) rfl fl_X9_42 (lay_ok hL rfl) (lay_r hL rfl) dX9_goOn_1 ?_
      refine r_iload_n dX9_goOn_4 rfl ?_
      refine r_zaldE (1) (lay_ok hL rfl) (by omega) (by omega) dX9_goOn_5 (by rw [n5, show ga h 5 n = 1 by omega]; rfl) ?_
      refine r_if_ne 104 dX9_goOn_6 (by decide) (fun _ => ?_) (fun hq => absurd hq (by decide))
      exact r_vret rfl dX9_goOn_104 ⟨rfl, by rw [hk]; exact hA, hL, hf⟩
  have J0 : ∀ i h, onI n i h → onI n 0 h := fun i h q => ⟨q.1, q.2.1, q.2.2.1, q.2.2.2.1, fun z => absurd z (by decide), fun z => absurd z (by decide)⟩
  induction k with
  | zero =>
    intro i N h hi hJ z1 z2 hL hA hf hk
    obtain rfl : i = 2 := by omega
    have hz := onI_stop hJ
    rw [on_not hz] at hk
    exact NO N h (J0 _ _ hJ) hz hL hA hf hk
  | succ k ih =>
    intro i N h hi hJ z1 z2 hL hA hf hk
    by_cases hz : ga h 5 n = 0 ∧ t_held h n = gs h 0 - 1
    · rw [show 201 - i = 200 - i + 1 by omega, on_full hz] at hk
      have hn5 : n < 5 := by have := hJ.2.1; have := hJ.1.2.1; omega
      have n5 := (hA.2.2.2.1 n hn5).2.1
      have b1 := hJ.1.2.1
      have b0 := hJ.1.1
      have nn := fin_nn z1 z2
      refine r_aload_n dX9_goOn_0 rfl ?_
      refine r_getF kX9 (k := 16) (by decide) rfl fl_X9_42 (lay_ok hL rfl) (lay_r hL rfl) dX9_goOn_1 ?_
      refine r_iload_n dX9_goOn_4 rfl ?_
      refine r_zaldE (0) (lay_ok hL rfl) (by omega) (by omega) dX9_goOn_5 (by rw [n5, hz.1]; rfl) ?_
      refine r_if_ne 104 dX9_goOn_6 (by decide) (fun hq => absurd (by decide) hq) (fun _ => ?_)
      refine r_aload_n dX9_goOn_9 rfl ?_
      refine r_iload_n dX9_goOn_10 rfl ?_
      refine r_cV ca_yX9_letters ml_X9_199 im_yX9_letters se_yX9_letters (by decide) rfl (lay_ok hL rfl) (c_X9_letters hL hA.1.1 b1 hA.2.2.2.2.2.1 hn5) ⟨by decide, by decide⟩ (by first | decide | omega) (by first | decide | omega) rfl (Nat.le_of_ble_eq_true rfl) dX9_goOn_11 ?_
      refine r_aload_n dX9_goOn_14 rfl ?_
      refine r_getE (nI (gs h 0)) kX9 (k := 0) (by decide) rfl fl_X9_7 (lay_ok hL rfl) dX9_goOn_15 hA.1.1 ?_
      refine r_iconst (1) dX9_goOn_18 (by decide) ?_
      refine r_isub dX9_goOn_19 ?_
      refine r_top (nI (gs h 0 - 1)) (nI_sub1 (by omega)) ?_
      refine r_icmp_ne 104 dX9_goOn_20 (by decide) (fun hq => absurd (by rw [hz.2]) hq) (fun _ => ?_)
      refine r_aload_n dX9_goOn_23 rfl ?_
      refine r_iload_n dX9_goOn_24 rfl ?_
      refine r_cV ca_yX9_activeAt ml_X9_162 im_yX9_activeAt se_yX9_activeAt (by decide) rfl (lay_ok hL rfl) (c_X9_activeAt hL hA.1.2.1 hA.2.1 hJ.1 hn5) ⟨by decide, by decide⟩ (by first | decide | omega) (by first | decide | omega) rfl (Nat.le_of_ble_eq_true rfl) dX9_goOn_25 ?_
      refine r_istore_n _ dX9_goOn_28 (by decide) rfl ?_
      refine r_iconst (nI 0) dX9_goOn_29 (by decide) ?_
      refine r_istore_n _ dX9_goOn_30 (by decide) rfl ?_
      exact li_X9_goOn hL hA hJ.1 hJ.2.1 (hJ.2.2.1 hz.1) (held_full hJ.2.1 z1 hz.2) z1 hf (fun N' h1 h2 h3 => ih (i + 1) N' (g_fin n h) (by omega) (onI_step hJ hz) nn.1 nn.2 h1 h2 h3 (by rw [hk, show 201 - (i + 1) = 200 - i by omega])) (gs h 0) 0 (by omega)
    · rw [on_not hz] at hk
      exact NO N h (J0 _ _ hJ) hz hL hA hf hk
theorem c_X9_goOn {l : Launch} {X : Nat × (Nat → Int32)} {M : am_M} (hL : Lay M) {h : tG} {n : Nat} (hJ : onI n 0 h) (z1 : gl h 0 n n = none) (z2 : gl h 1 n n = none) (hA : absM M h) : am_C l yX9_goOn cX9_goOn 4 (none) 4 0 0 X [.ref 93, .int (nI n)] M (fun v M' => v = none ∧ absM M' (g_on n 201 h) ∧ Lay M' ∧ am_fr rS M M') := by
  refine am_C.of (by decide) (by simp [Value.category, va_rf]) (Nat.le_of_ble_eq_true rfl) ?_
  exact l_X9_goOn 2 0 M h (by omega) hJ z1 z2 hL hA am_fr.rf rfl
