/-! THE REFERENCE ALONE -/
def yOne (M : am_M) (h : tG) (i : Nat) : Prop := ∀ v, v < i → mI M 123 v = gi h 1 v ∧ mI M 124 v = gi h 2 v ∧ mI M 125 v = nI (ga h 1 v)
theorem yOne.fr {S : Nat → Prop} {M M' : am_M} {h : tG} {i : Nat} (f : am_fr S M M') (h1 : ¬ S 123) (h2 : ¬ S 124) (h3 : ¬ S 125) (k : yOne M h i) : yOne M' h i := fun v hv => ⟨f.i h1 (k v hv).1, f.i h2 (k v hv).2.1, f.i h3 (k v hv).2.2⟩
def s_one (x : Nat) : Prop := 120 ≤ x ∧ x ≤ 125
theorem yOne_settle {M : am_M} {h : tG} {B : tB} {v j : Nat} (k : yOne M h j) (a c : Int32) (hc : c = if gs h 3 = 2 then gi h 2 v + t_behind 2 B v (gi h 1 v) else gi h 2 v) (ha : a = nI (ga (g_settle B v h) 1 v)) : yOne (wI (wI (wI M 125 v a) 123 v (t_behind (gs h 3) B v (gi h 1 v))) 124 v c) (g_settle B v h) j := fun u hu => by
  obtain ⟨q1, q2, q3⟩ := settle_f B v h
  obtain ⟨z1, z2, z3⟩ := k u hu
  by_cases d : u = v
  · subst d
    refine ⟨?_, ?_, ?_⟩
    · rw [q1, if_pos rfl, mI_wI_n _ _ _ (by decide), mI_wI, if_pos ⟨rfl, rfl⟩]
    · rw [q2, mI_wI, if_pos ⟨rfl, rfl⟩, hc]
      by_cases e : gs h 3 = 2
      · rw [if_pos e, if_pos ⟨rfl, e⟩]
      · rw [if_neg e, if_neg (fun z => e z.2)]
    · rw [mI_wI_n _ _ _ (by decide), mI_wI_n _ _ _ (by decide), mI_wI, if_pos ⟨rfl, rfl⟩, ha]
  · refine ⟨?_, ?_, ?_⟩
    · rw [q1, if_neg d, mI_wI_n _ _ _ (by decide), mI_wI, if_neg (fun z => d z.2), mI_wI_n _ _ _ (by decide)]; exact z1
    · rw [q2, if_neg (fun z => d z.1), mI_wI, if_neg (fun z => d z.2), mI_wI_n _ _ _ (by decide), mI_wI_n _ _ _ (by decide)]; exact z2
    · rw [q3, if_neg d, mI_wI_n _ _ _ (by decide), mI_wI_n _ _ _ (by decide), mI_wI, if_neg (fun z => d z.2)]; exact z3
set_option maxHeartbeats 4000000 in
set_option maxRecDepth 100000 in
theorem l2_X9_oneRound {l : Launch} {X : Nat × (Nat → Int32)} {M : am_M} {g h : tG} (hB : gB g) (st : sameT g h) (hl : ∀ u, u < gs g 1 → ga h 1 u ≤ 1) : ∀ (k i : Nat) (N : am_M), i + k = gs g 1 → Lay N → absM N g → yOne N (o_takeP h i) (gs g 1) → BM N (o_boxP h (gs h 2)) → am_fr s_one M N → am_V l yX9_oneRound cX9_oneRound 3 (none) (am_R 2 0 0) 0 0 X (fun v' M' => v' = none ∧ absM M' g ∧ yOne M' (o_round h) (gs g 1) ∧ Lay M' ∧ am_fr s_one M M') 0 0 68 [some (.ref 93), some (.int (nI i))] [] N := by
  intro k
  obtain ⟨b0, b1, b2, b3, b4, b5, -, -, -, -, bV, bA, bN, -, -, bh⟩ := id hB
  have es : gs h = gs g := st.1
  have e2 : ga h 2 = ga g 2 := st.2.2.2.2.2.1 2 (by decide)
  have e3 : ga h 3 = ga g 3 := st.2.2.2.2.2.1 3 (by decide)
  have ei : gi h 3 = gi g 3 := st.2.2.2.2.2.2.1 3 (by decide) (by decide)
  induction k with
  | zero =>
    intro i N hi hL hA hx hb hf
    obtain rfl : i = gs g 1 := by omega
    have er : o_round h = o_takeP h (gs g 1) := by show o_takeP h (gs h 1) = _; rw [es]
    refine r_iload_n dX9_oneRound_68 rfl ?_
    refine r_aload_n dX9_oneRound_69 rfl ?_
    refine r_getE (nI (gs g 1)) kX9 (k := 1) (by decide) rfl fl_X9_115 (lay_ok hL rfl) dX9_oneRound_70 hA.1.2.1 ?_
    refine r_icmp_ge 164 dX9_oneRound_73 (by decide) (fun _ => ?_) (fun hq => absurd (nI_le (Nat.le_refl _) (by omega)) hq)
    exact r_vret rfl dX9_oneRound_164 ⟨rfl, hA, by rw [er]; exact hx, hL, hf⟩
  | succ k ih =>
    intro i N hi hL hA hx hb hf
    have s1 := hA.1.2.1
    have s3 := hA.1.2.2.2.1
    have sp : gs (o_takeP h i) = gs g := (sameT_oP h i).1.trans es
    have e3' : gs (o_takeP h i) 3 = gs g 3 := by rw [sp]
    have eP : o_takeP h (i + 1) = g_settle (o_boxP h (gs h 2)) i (o_takeP h i) := rfl
    have q3 := (settle_f (o_boxP h (gs h 2)) i (o_takeP h i)).2.2 i
    rw [if_pos rfl, e3'] at q3
    obtain ⟨v1, v2, v3⟩ := hx i (by omega)
    generalize o_takeP h i = p at hx v1 v2 v3 eP q3 e3'
    by_cases c2 : gs g 3 = 2
    · rw [if_pos c2] at q3
      have HA := fun a ha => yOne_settle (B := o_boxP h (gs h 2)) (v := i) hx a (gi p 2 i + t_behind (gs g 3) (o_boxP h (gs h 2)) i (gi p 1 i)) (by rw [e3', if_pos c2, c2]) ha
      rw [e3'] at HA
      have hL0 := hL
      refine r_iload_n dX9_oneRound_68 rfl ?_
      refine r_aload_n dX9_oneRound_69 rfl ?_
      refine r_getE (nI (gs g 1)) kX9 (k := 1) (by decide) rfl fl_X9_115 (lay_ok hL rfl) dX9_oneRound_70 s1 ?_
      refine r_icmp_ge 164 dX9_oneRound_73 (by decide) (fun hq => absurd hq (nI_ge (by omega) (by omega))) (fun _ => ?_)
      refine r_aload_n dX9_oneRound_76 rfl ?_
      refine r_iload_n dX9_oneRound_77 rfl ?_
      refine r_aload_n dX9_oneRound_78 rfl ?_
      refine r_getF kX9 (k := 39) (by decide) rfl fl_X9_102 (lay_ok hL rfl) (lay_r hL rfl) dX9_oneRound_79 ?_
      refine r_iload_n dX9_oneRound_82 rfl ?_
      refine r_ialdE (gi p 1 i) (lay_ok hL rfl) (by omega) (by omega) dX9_oneRound_83 v1 ?_
      refine r_cV ca_yX9_behind ml_X9_196 im_yX9_behind se_yX9_behind (by decide) rfl (lay_ok hL rfl) (c_X9_behind hL s3 b4 hb (by omega)) ⟨by decide, by decide⟩ (by first | decide | omega) (by first | decide | omega) rfl (Nat.le_of_ble_eq_true rfl) dX9_oneRound_84 ?_
      refine r_istore_n _ dX9_oneRound_87 (by decide) rfl ?_
      refine r_aload_n dX9_oneRound_88 rfl ?_
      refine r_getF kX9 (k := 41) (by decide) rfl fl_X9_108 (lay_ok hL rfl) (lay_r hL rfl) dX9_oneRound_89 ?_
      refine r_iload_n dX9_oneRound_92 rfl ?_
      refine r_aload_n dX9_oneRound_93 rfl ?_
      refine r_getE (nI (gs g 3)) kX9 (k := 3) (by decide) rfl fl_X9_121 (lay_ok hL rfl) dX9_oneRound_94 s3 ?_
      refine r_iconst (nI 2) dX9_oneRound_97 (by decide) ?_
      refine r_icmp_ne 113 dX9_oneRound_98 (by decide) (fun hq => absurd (by rw [c2]) hq) (fun _ => ?_)
      refine r_iload_n dX9_oneRound_101 rfl ?_
      refine r_if_eq 109 dX9_oneRound_102 (by decide) (fun c102 => ?_) (fun c102 => ?_)
      · refine r_iconst (0) dX9_oneRound_109 (by decide) ?_
        refine r_goto 128 dX9_oneRound_110 (by decide) ?_
        refine r_zastN (lay_ok hL rfl) (by omega) (by decide) (by decide) dX9_oneRound_128 ?_
        refine r_lay (lay_wI hL _ _ _) (fun hL => ?_)
        refine r_aload_n dX9_oneRound_129 rfl ?_
        refine r_getF kX9 (k := 39) (by decide) rfl fl_X9_102 (lay_ok hL rfl) (lay_r hL rfl) dX9_oneRound_130 ?_
        refine r_iload_n dX9_oneRound_133 rfl ?_
        refine r_iload_n dX9_oneRound_134 rfl ?_
        refine r_iastN (lay_ok hL rfl) (by omega) (by decide) dX9_oneRound_135 ?_
        refine r_lay (lay_wI hL _ _ _) (fun hL => ?_)
        refine r_aload_n dX9_oneRound_136 rfl ?_
        refine r_getF kX9 (k := 40) (by decide) rfl fl_X9_105 (lay_ok hL rfl) (lay_r hL rfl) dX9_oneRound_137 ?_
        refine r_iload_n dX9_oneRound_140 rfl ?_
        refine r_dup2 dX9_oneRound_141 rfl rfl ?_
        refine r_ialdE (gi p 2 i) (lay_ok hL rfl) (by omega) (by omega) dX9_oneRound_142 (by rw [mI_wI_n _ _ _ (by decide), mI_wI_n _ _ _ (by decide)]; exact v2) ?_
        refine r_aload_n dX9_oneRound_143 rfl ?_
        refine r_getE (nI (gs g 3)) kX9 (k := 3) (by decide) rfl fl_X9_121 (lay_ok hL rfl) dX9_oneRound_144 (by rw [mI_wI_n _ _ _ (by decide), mI_wI_n _ _ _ (by decide)]; exact s3) ?_
        refine r_iconst (nI 2) dX9_oneRound_147 (by decide) ?_
        refine r_icmp_ne 155 dX9_oneRound_148 (by decide) (fun hq => absurd (by rw [c2]) hq) (fun _ => ?_)
        refine r_iload_n dX9_oneRound_151 rfl ?_
        refine r_goto 156 dX9_oneRound_152 (by decide) ?_
        refine r_iadd dX9_oneRound_156 ?_
        refine r_iastN (lay_ok hL rfl) (by omega) (by decide) dX9_oneRound_157 ?_
        refine r_lay (lay_wI hL _ _ _) (fun hL => ?_)
        refine r_iinc (nI (i + 1)) _ dX9_oneRound_158 (by decide) rfl (nI_1 _) rfl ?_
        refine r_goto 68 dX9_oneRound_161 (by decide) ?_
        refine r_take 2 ?_
        exact ih (i + 1) _ (by omega) hL (hA.gr (S := fun x => 123 ≤ x ∧ x ≤ 125) (am_fr.gr (((am_fr.wI _ _ (by decide)).tr (am_fr.wI _ _ (by decide))).tr (am_fr.wI _ _ (by decide)))) hL0.1 (fun x a b z => by omega)) (by rw [eP]; exact HA _ (by rw [q3, if_pos (by have z := c102; rw [c2] at z; exact z)]; rfl)) (hb.fr (S := fun x => 123 ≤ x ∧ x ≤ 125) (((am_fr.wI _ _ (by decide)).tr (am_fr.wI _ _ (by decide))).tr (am_fr.wI _ _ (by decide))) (by omega) (by omega) (by omega)) (hf.tr (((am_fr.wI _ _ ⟨by decide, by decide⟩).tr (am_fr.wI _ _ ⟨by decide, by decide⟩)).tr (am_fr.wI _ _ ⟨by decide, by decide⟩)))
      · refine r_iconst (1) dX9_oneRound_105 (by decide) ?_
        refine r_goto 128 dX9_oneRound_106 (by decide) ?_
        refine r_zastN (lay_ok hL rfl) (by omega) (by decide) (by decide) dX9_oneRound_128 ?_
        refine r_lay (lay_wI hL _ _ _) (fun hL => ?_)
        refine r_aload_n dX9_oneRound_129 rfl ?_
        refine r_getF kX9 (k := 39) (by decide) rfl fl_X9_102 (lay_ok hL rfl) (lay_r hL rfl) dX9_oneRound_130 ?_
        refine r_iload_n dX9_oneRound_133 rfl ?_
        refine r_iload_n dX9_oneRound_134 rfl ?_
        refine r_iastN (lay_ok hL rfl) (by omega) (by decide) dX9_oneRound_135 ?_
        refine r_lay (lay_wI hL _ _ _) (fun hL => ?_)
        refine r_aload_n dX9_oneRound_136 rfl ?_
        refine r_getF kX9 (k := 40) (by decide) rfl fl_X9_105 (lay_ok hL rfl) (lay_r hL rfl) dX9_oneRound_137 ?_
        refine r_iload_n dX9_oneRound_140 rfl ?_
        refine r_dup2 dX9_oneRound_141 rfl rfl ?_
        refine r_ialdE (gi p 2 i) (lay_ok hL rfl) (by omega) (by omega) dX9_oneRound_142 (by rw [mI_wI_n _ _ _ (by decide), mI_wI_n _ _ _ (by decide)]; exact v2) ?_
        refine r_aload_n dX9_oneRound_143 rfl ?_
        refine r_getE (nI (gs g 3)) kX9 (k := 3) (by decide) rfl fl_X9_121 (lay_ok hL rfl) dX9_oneRound_144 (by rw [mI_wI_n _ _ _ (by decide), mI_wI_n _ _ _ (by decide)]; exact s3) ?_
        refine r_iconst (nI 2) dX9_oneRound_147 (by decide) ?_
        refine r_icmp_ne 155 dX9_oneRound_148 (by decide) (fun hq => absurd (by rw [c2]) hq) (fun _ => ?_)
        refine r_iload_n dX9_oneRound_151 rfl ?_
        refine r_goto 156 dX9_oneRound_152 (by decide) ?_
        refine r_iadd dX9_oneRound_156 ?_
        refine r_iastN (lay_ok hL rfl) (by omega) (by decide) dX9_oneRound_157 ?_
        refine r_lay (lay_wI hL _ _ _) (fun hL => ?_)
        refine r_iinc (nI (i + 1)) _ dX9_oneRound_158 (by decide) rfl (nI_1 _) rfl ?_
        refine r_goto 68 dX9_oneRound_161 (by decide) ?_
        refine r_take 2 ?_
        exact ih (i + 1) _ (by omega) hL (hA.gr (S := fun x => 123 ≤ x ∧ x ≤ 125) (am_fr.gr (((am_fr.wI _ _ (by decide)).tr (am_fr.wI _ _ (by decide))).tr (am_fr.wI _ _ (by decide)))) hL0.1 (fun x a b z => by omega)) (by rw [eP]; exact HA _ (by rw [q3, if_neg (fun z => c102 (by rw [c2]; exact z))]; rfl)) (hb.fr (S := fun x => 123 ≤ x ∧ x ≤ 125) (((am_fr.wI _ _ (by decide)).tr (am_fr.wI _ _ (by decide))).tr (am_fr.wI _ _ (by decide))) (by omega) (by omega) (by omega)) (hf.tr (((am_fr.wI _ _ ⟨by decide, by decide⟩).tr (am_fr.wI _ _ ⟨by decide, by decide⟩)).tr (am_fr.wI _ _ ⟨by decide, by decide⟩)))
    · rw [if_neg c2] at q3
      have HA := fun a ha => yOne_settle (B := o_boxP h (gs h 2)) (v := i) hx a (gi p 2 i) (by rw [e3', if_neg c2]) ha
      rw [e3'] at HA
      have hL0 := hL
      refine r_iload_n dX9_oneRound_68 rfl ?_
      refine r_aload_n dX9_oneRound_69 rfl ?_
      refine r_getE (nI (gs g 1)) kX9 (k := 1) (by decide) rfl fl_X9_115 (lay_ok hL rfl) dX9_oneRound_70 s1 ?_
      refine r_icmp_ge 164 dX9_oneRound_73 (by decide) (fun hq => absurd hq (nI_ge (by omega) (by omega))) (fun _ => ?_)
      refine r_aload_n dX9_oneRound_76 rfl ?_
      refine r_iload_n dX9_oneRound_77 rfl ?_
      refine r_aload_n dX9_oneRound_78 rfl ?_
      refine r_getF kX9 (k := 39) (by decide) rfl fl_X9_102 (lay_ok hL rfl) (lay_r hL rfl) dX9_oneRound_79 ?_
      refine r_iload_n dX9_oneRound_82 rfl ?_
      refine r_ialdE (gi p 1 i) (lay_ok hL rfl) (by omega) (by omega) dX9_oneRound_83 v1 ?_
      refine r_cV ca_yX9_behind ml_X9_196 im_yX9_behind se_yX9_behind (by decide) rfl (lay_ok hL rfl) (c_X9_behind hL s3 b4 hb (by omega)) ⟨by decide, by decide⟩ (by first | decide | omega) (by first | decide | omega) rfl (Nat.le_of_ble_eq_true rfl) dX9_oneRound_84 ?_
      refine r_istore_n _ dX9_oneRound_87 (by decide) rfl ?_
      refine r_aload_n dX9_oneRound_88 rfl ?_
      refine r_getF kX9 (k := 41) (by decide) rfl fl_X9_108 (lay_ok hL rfl) (lay_r hL rfl) dX9_oneRound_89 ?_
      refine r_iload_n dX9_oneRound_92 rfl ?_
      refine r_aload_n dX9_oneRound_93 rfl ?_
      refine r_getE (nI (gs g 3)) kX9 (k := 3) (by decide) rfl fl_X9_121 (lay_ok hL rfl) dX9_oneRound_94 s3 ?_
      refine r_iconst (nI 2) dX9_oneRound_97 (by decide) ?_
      refine r_icmp_ne 113 dX9_oneRound_98 (by decide) (fun _ => ?_) (fun hq => absurd hq (fun z => c2 ((nI_eq (b := 2) (by omega) (by decide)).mp z)))
      refine r_iload_n dX9_oneRound_113 rfl ?_
      refine r_aload_n dX9_oneRound_114 rfl ?_
      refine r_getF kX9 (k := 39) (by decide) rfl fl_X9_102 (lay_ok hL rfl) (lay_r hL rfl) dX9_oneRound_115 ?_
      refine r_iload_n dX9_oneRound_118 rfl ?_
      refine r_ialdE (gi p 1 i) (lay_ok hL rfl) (by omega) (by omega) dX9_oneRound_119 v1 ?_
      refine r_icmp_eq 127 dX9_oneRound_120 (by decide) (fun c120 => ?_) (fun c120 => ?_)
      · refine r_iconst (0) dX9_oneRound_127 (by decide) ?_
        refine r_zastN (lay_ok hL rfl) (by omega) (by decide) (by decide) dX9_oneRound_128 ?_
        refine r_lay (lay_wI hL _ _ _) (fun hL => ?_)
        refine r_aload_n dX9_oneRound_129 rfl ?_
        refine r_getF kX9 (k := 39) (by decide) rfl fl_X9_102 (lay_ok hL rfl) (lay_r hL rfl) dX9_oneRound_130 ?_
        refine r_iload_n dX9_oneRound_133 rfl ?_
        refine r_iload_n dX9_oneRound_134 rfl ?_
        refine r_iastN (lay_ok hL rfl) (by omega) (by decide) dX9_oneRound_135 ?_
        refine r_lay (lay_wI hL _ _ _) (fun hL => ?_)
        refine r_aload_n dX9_oneRound_136 rfl ?_
        refine r_getF kX9 (k := 40) (by decide) rfl fl_X9_105 (lay_ok hL rfl) (lay_r hL rfl) dX9_oneRound_137 ?_
        refine r_iload_n dX9_oneRound_140 rfl ?_
        refine r_dup2 dX9_oneRound_141 rfl rfl ?_
        refine r_ialdE (gi p 2 i) (lay_ok hL rfl) (by omega) (by omega) dX9_oneRound_142 (by rw [mI_wI_n _ _ _ (by decide), mI_wI_n _ _ _ (by decide)]; exact v2) ?_
        refine r_aload_n dX9_oneRound_143 rfl ?_
        refine r_getE (nI (gs g 3)) kX9 (k := 3) (by decide) rfl fl_X9_121 (lay_ok hL rfl) dX9_oneRound_144 (by rw [mI_wI_n _ _ _ (by decide), mI_wI_n _ _ _ (by decide)]; exact s3) ?_
        refine r_iconst (nI 2) dX9_oneRound_147 (by decide) ?_
        refine r_icmp_ne 155 dX9_oneRound_148 (by decide) (fun _ => ?_) (fun hq => absurd hq (fun z => c2 ((nI_eq (b := 2) (by omega) (by decide)).mp z)))
        refine r_iconst (0) dX9_oneRound_155 (by decide) ?_
        refine r_iadd dX9_oneRound_156 ?_
        refine r_top (gi p 2 i) (Int32.add_zero _) ?_
        refine r_iastN (lay_ok hL rfl) (by omega) (by decide) dX9_oneRound_157 ?_
        refine r_lay (lay_wI hL _ _ _) (fun hL => ?_)
        refine r_iinc (nI (i + 1)) _ dX9_oneRound_158 (by decide) rfl (nI_1 _) rfl ?_
        refine r_goto 68 dX9_oneRound_161 (by decide) ?_
        refine r_take 2 ?_
        exact ih (i + 1) _ (by omega) hL (hA.gr (S := fun x => 123 ≤ x ∧ x ≤ 125) (am_fr.gr (((am_fr.wI _ _ (by decide)).tr (am_fr.wI _ _ (by decide))).tr (am_fr.wI _ _ (by decide)))) hL0.1 (fun x a b z => by omega)) (by rw [eP]; exact HA _ (by rw [q3, if_pos c120]; rfl)) (hb.fr (S := fun x => 123 ≤ x ∧ x ≤ 125) (((am_fr.wI _ _ (by decide)).tr (am_fr.wI _ _ (by decide))).tr (am_fr.wI _ _ (by decide))) (by omega) (by omega) (by omega)) (hf.tr (((am_fr.wI _ _ ⟨by decide, by decide⟩).tr (am_fr.wI _ _ ⟨by decide, by decide⟩)).tr (am_fr.wI _ _ ⟨by decide, by decide⟩)))
      · refine r_iconst (1) dX9_oneRound_123 (by decide) ?_
        refine r_goto 128 dX9_oneRound_124 (by decide) ?_
        refine r_zastN (lay_ok hL rfl) (by omega) (by decide) (by decide) dX9_oneRound_128 ?_
        refine r_lay (lay_wI hL _ _ _) (fun hL => ?_)
        refine r_aload_n dX9_oneRound_129 rfl ?_
        refine r_getF kX9 (k := 39) (by decide) rfl fl_X9_102 (lay_ok hL rfl) (lay_r hL rfl) dX9_oneRound_130 ?_
        refine r_iload_n dX9_oneRound_133 rfl ?_
        refine r_iload_n dX9_oneRound_134 rfl ?_
        refine r_iastN (lay_ok hL rfl) (by omega) (by decide) dX9_oneRound_135 ?_
        refine r_lay (lay_wI hL _ _ _) (fun hL => ?_)
        refine r_aload_n dX9_oneRound_136 rfl ?_
        refine r_getF kX9 (k := 40) (by decide) rfl fl_X9_105 (lay_ok hL rfl) (lay_r hL rfl) dX9_oneRound_137 ?_
        refine r_iload_n dX9_oneRound_140 rfl ?_
        refine r_dup2 dX9_oneRound_141 rfl rfl ?_
        refine r_ialdE (gi p 2 i) (lay_ok hL rfl) (by omega) (by omega) dX9_oneRound_142 (by rw [mI_wI_n _ _ _ (by decide), mI_wI_n _ _ _ (by decide)]; exact v2) ?_
        refine r_aload_n dX9_oneRound_143 rfl ?_
        refine r_getE (nI (gs g 3)) kX9 (k := 3) (by decide) rfl fl_X9_121 (lay_ok hL rfl) dX9_oneRound_144 (by rw [mI_wI_n _ _ _ (by decide), mI_wI_n _ _ _ (by decide)]; exact s3) ?_
        refine r_iconst (nI 2) dX9_oneRound_147 (by decide) ?_
        refine r_icmp_ne 155 dX9_oneRound_148 (by decide) (fun _ => ?_) (fun hq => absurd hq (fun z => c2 ((nI_eq (b := 2) (by omega) (by decide)).mp z)))
        refine r_iconst (0) dX9_oneRound_155 (by decide) ?_
        refine r_iadd dX9_oneRound_156 ?_
        refine r_top (gi p 2 i) (Int32.add_zero _) ?_
        refine r_iastN (lay_ok hL rfl) (by omega) (by decide) dX9_oneRound_157 ?_
        refine r_lay (lay_wI hL _ _ _) (fun hL => ?_)
        refine r_iinc (nI (i + 1)) _ dX9_oneRound_158 (by decide) rfl (nI_1 _) rfl ?_
        refine r_goto 68 dX9_oneRound_161 (by decide) ?_
        refine r_take 2 ?_
        exact ih (i + 1) _ (by omega) hL (hA.gr (S := fun x => 123 ≤ x ∧ x ≤ 125) (am_fr.gr (((am_fr.wI _ _ (by decide)).tr (am_fr.wI _ _ (by decide))).tr (am_fr.wI _ _ (by decide)))) hL0.1 (fun x a b z => by omega)) (by rw [eP]; exact HA _ (by rw [q3, if_neg c120]; rfl)) (hb.fr (S := fun x => 123 ≤ x ∧ x ≤ 125) (((am_fr.wI _ _ (by decide)).tr (am_fr.wI _ _ (by decide))).tr (am_fr.wI _ _ (by decide))) (by omega) (by omega) (by omega)) (hf.tr (((am_fr.wI _ _ ⟨by decide, by decide⟩).tr (am_fr.wI _ _ ⟨by decide, by decide⟩)).tr (am_fr.wI _ _ ⟨by decide, by decide⟩)))
set_option maxHeartbeats 4000000 in
set_option maxRecDepth 100000 in
theorem l1_X9_oneRound {l : Launch} {X : Nat × (Nat → Int32)} {M : am_M} {g h : tG} (hB : gB g) (st : sameT g h) (hl : ∀ u, u < gs g 1 → ga h 1 u ≤ 1) : ∀ (k i : Nat) (N : am_M), i + k = gs g 2 → Lay N → absM N g → yOne N h (gs g 1) → BM N (o_boxP h i) → am_fr s_one M N → am_V l yX9_oneRound cX9_oneRound 3 (none) (am_R 2 0 0) 0 0 X (fun v' M' => v' = none ∧ absM M' g ∧ yOne M' (o_round h) (gs g 1) ∧ Lay M' ∧ am_fr s_one M M') 0 0 6 [some (.ref 93), some (.int (nI i))] [] N := by
  intro k
  obtain ⟨b0, b1, b2, b3, b4, b5, -, -, -, -, bV, bA, bN, -, -, bh⟩ := id hB
  have es : gs h = gs g := st.1
  have e2 : ga h 2 = ga g 2 := st.2.2.2.2.2.1 2 (by decide)
  have e3 : ga h 3 = ga g 3 := st.2.2.2.2.2.1 3 (by decide)
  have ei : gi h 3 = gi g 3 := st.2.2.2.2.2.2.1 3 (by decide) (by decide)
  induction k with
  | zero =>
    intro i N hi hL hA hx hb hf
    obtain rfl : i = gs g 2 := by omega
    refine r_iload_n dX9_oneRound_6 rfl ?_
    refine r_aload_n dX9_oneRound_7 rfl ?_
    refine r_getE (nI (gs g 2)) kX9 (k := 2) (by decide) rfl fl_X9_118 (lay_ok hL rfl) dX9_oneRound_8 hA.1.2.2.1 ?_
    refine r_icmp_ge 66 dX9_oneRound_11 (by decide) (fun _ => ?_) (fun hq => absurd (nI_le (Nat.le_refl _) (by omega)) hq)
    refine r_iconst (nI 0) dX9_oneRound_66 (by decide) ?_
    refine r_istore_n _ dX9_oneRound_67 (by decide) rfl ?_
    exact l2_X9_oneRound hB st hl (gs g 1) 0 N (by omega) hL hA hx (by rw [es]; exact hb) hf
  | succ k ih =>
    intro i N hi hL hA hx hb hf
    have s3 := hA.1.2.2.2.1
    obtain ⟨a0, a1, a2⟩ := hA.2.2.1 i (by omega)
    obtain ⟨y0, y1⟩ := bA i (by omega)
    obtain ⟨x1, x2, x3⟩ := hx _ y0
    have p2 := hl _ y0
    have hst : o_boxP h (i + 1) = if ga h 1 (ga g 2 i) = 1 then t_hear (gs g 3) (o_boxP h i) (ga g 3 i) (t_msg (gs g 3) (gi h 1 (ga g 2 i)) (gi g 3 i)) i else o_boxP h i := by
      rw [show o_boxP h (i + 1) = if ga h 1 (ga h 2 i) = 1 then t_hear (gs h 3) (o_boxP h i) (ga h 3 i) (t_msg (gs h 3) (gi h 1 (ga h 2 i)) (gi h 3 i)) i else o_boxP h i from rfl, es, e2, e3, ei]
    refine r_iload_n dX9_oneRound_6 rfl ?_
    refine r_aload_n dX9_oneRound_7 rfl ?_
    refine r_getE (nI (gs g 2)) kX9 (k := 2) (by decide) rfl fl_X9_118 (lay_ok hL rfl) dX9_oneRound_8 hA.1.2.2.1 ?_
    refine r_icmp_ge 66 dX9_oneRound_11 (by decide) (fun hq => absurd hq (nI_ge (by omega) (by omega))) (fun _ => ?_)
    refine r_aload_n dX9_oneRound_14 rfl ?_
    refine r_getF kX9 (k := 41) (by decide) rfl fl_X9_108 (lay_ok hL rfl) (lay_r hL rfl) dX9_oneRound_15 ?_
    refine r_aload_n dX9_oneRound_18 rfl ?_
    refine r_getF kX9 (k := 12) (by decide) rfl fl_X9_30 (lay_ok hL rfl) (lay_r hL rfl) dX9_oneRound_19 ?_
    refine r_iload_n dX9_oneRound_22 rfl ?_
    refine r_ialdE (nI (ga g 2 i)) (lay_ok hL rfl) (by omega) (by omega) dX9_oneRound_23 a0 ?_
    refine r_zaldE (nI (ga h 1 (ga g 2 i))) (lay_ok hL rfl) (by omega) (by omega) dX9_oneRound_24 x3 ?_
    refine r_if_eq 60 dX9_oneRound_25 (by decide) (fun c25 => ?_) (fun c25 => ?_)
    · refine r_iinc (nI (i + 1)) _ dX9_oneRound_60 (by decide) rfl (nI_1 _) rfl ?_
      refine r_goto 6 dX9_oneRound_63 (by decide) ?_
      first | exact ih (i + 1) N (by omega) hL hA hx (by rw [hst, if_neg (fun z => absurd c25 (by rw [z]; decide))]; exact hb) hf | exact ih (i + 1) M1 (by omega) (hf2.lay hL) (hA.gr hf2.gr hL.1 (fun x a b z => by unfold s_got at z; omega)) (hx.fr hf2 (by unfold s_got; omega) (by unfold s_got; omega) (by unfold s_got; omega)) (by rw [hst, if_pos (Nat.le_antisymm p2 (Nat.pos_of_ne_zero (fun z => c25 (by rw [z]; rfl))))]; exact hb2) (hf.tr (hf2.wd (fun x z => by unfold s_got at z; exact ⟨by omega, by omega⟩)))
    · refine r_aload_n dX9_oneRound_28 rfl ?_
      refine r_aload_n dX9_oneRound_29 rfl ?_
      refine r_getF kX9 (k := 13) (by decide) rfl fl_X9_33 (lay_ok hL rfl) (lay_r hL rfl) dX9_oneRound_30 ?_
      refine r_iload_n dX9_oneRound_33 rfl ?_
      refine r_ialdE (nI (ga g 3 i)) (lay_ok hL rfl) (by omega) (by omega) dX9_oneRound_34 a1 ?_
      refine r_aload_n dX9_oneRound_35 rfl ?_
      refine r_aload_n dX9_oneRound_36 rfl ?_
      refine r_getF kX9 (k := 39) (by decide) rfl fl_X9_102 (lay_ok hL rfl) (lay_r hL rfl) dX9_oneRound_37 ?_
      refine r_aload_n dX9_oneRound_40 rfl ?_
      refine r_getF kX9 (k := 12) (by decide) rfl fl_X9_30 (lay_ok hL rfl) (lay_r hL rfl) dX9_oneRound_41 ?_
      refine r_iload_n dX9_oneRound_44 rfl ?_
      refine r_ialdE (nI (ga g 2 i)) (lay_ok hL rfl) (by omega) (by omega) dX9_oneRound_45 a0 ?_
      refine r_ialdE (gi h 1 (ga g 2 i)) (lay_ok hL rfl) (by omega) (by omega) dX9_oneRound_46 x1 ?_
      refine r_aload_n dX9_oneRound_47 rfl ?_
      refine r_getF kX9 (k := 14) (by decide) rfl fl_X9_36 (lay_ok hL rfl) (lay_r hL rfl) dX9_oneRound_48 ?_
      refine r_iload_n dX9_oneRound_51 rfl ?_
      refine r_ialdE (gi g 3 i) (lay_ok hL rfl) (by omega) (by omega) dX9_oneRound_52 a2 ?_
      refine r_cV ca_yX9_message ml_X9_166 im_yX9_message se_yX9_message (by decide) rfl (lay_ok hL rfl) (c_X9_message hL s3 b4) ⟨by decide, by decide⟩ (by first | decide | omega) (by first | decide | omega) rfl (Nat.le_of_ble_eq_true rfl) dX9_oneRound_53 ?_
      refine r_iload_n dX9_oneRound_56 rfl ?_
      refine r_callV ca_yX9_hear ml_X9_193 im_yX9_hear se_yX9_hear (by decide) rfl (lay_ok hL rfl) (c_X9_hear hL s3 b4 hb (by omega) (by omega)) ⟨by decide, by decide⟩ (by first | decide | omega) (by first | decide | omega) rfl (Nat.le_of_ble_eq_true rfl) dX9_oneRound_57 (fun v0 M1 hp1 => ?_)
      obtain ⟨rfl, hb2, hf2⟩ := hp1
      refine r_iinc (nI (i + 1)) _ dX9_oneRound_60 (by decide) rfl (nI_1 _) rfl ?_
      refine r_goto 6 dX9_oneRound_63 (by decide) ?_
      first | exact ih (i + 1) N (by omega) hL hA hx (by rw [hst, if_neg (fun z => absurd c25 (by rw [z]; decide))]; exact hb) hf | exact ih (i + 1) M1 (by omega) (hf2.lay hL) (hA.gr hf2.gr hL.1 (fun x a b z => by unfold s_got at z; omega)) (hx.fr hf2 (by unfold s_got; omega) (by unfold s_got; omega) (by unfold s_got; omega)) (by rw [hst, if_pos (Nat.le_antisymm p2 (Nat.pos_of_ne_zero (fun z => c25 (by rw [z]; rfl))))]; exact hb2) (hf.tr (hf2.wd (fun x z => by unfold s_got at z; exact ⟨by omega, by omega⟩)))
set_option maxHeartbeats 4000000 in
set_option maxRecDepth 100000 in
theorem c_X9_oneRound {l : Launch} {X : Nat × (Nat → Int32)} {M : am_M} (hL : Lay M) {g h : tG} (hB : gB g) (st : sameT g h) (hl : ∀ u, u < gs g 1 → ga h 1 u ≤ 1) (hA : absM M g) (hx : yOne M h (gs g 1)) : am_C l yX9_oneRound cX9_oneRound 3 (none) 2 0 0 X [.ref 93] M (fun v' M' => v' = none ∧ absM M' g ∧ yOne M' (o_round h) (gs g 1) ∧ Lay M' ∧ am_fr s_one M M') := by
  refine am_C.of (by decide) (by simp [Value.category, va_rf]) (Nat.le_of_ble_eq_true rfl) ?_
  refine r_aload_n dX9_oneRound_0 rfl ?_
  refine r_callV ca_yX9_begin ml_X9_190 im_yX9_begin se_yX9_begin (by decide) rfl (lay_ok hL rfl) (c_X9_begin hL) ⟨by decide, by decide⟩ (by first | decide | omega) (by first | decide | omega) rfl (Nat.le_of_ble_eq_true rfl) dX9_oneRound_1 (fun v0 M1 hp1 => ?_)
  obtain ⟨rfl, hb, hf⟩ := hp1
  refine r_iconst (nI 0) dX9_oneRound_4 (by decide) ?_
  refine r_istore_n _ dX9_oneRound_5 (by decide) rfl ?_
  exact l1_X9_oneRound hB st hl (gs g 2) 0 M1 (by omega) (hf.lay hL) (hA.gr hf.gr hL.1 (fun x a b z => by unfold s_got at z; omega)) (hx.fr hf (by unfold s_got; omega) (by unfold s_got; omega) (by unfold s_got; omega)) hb (hf.wd (fun x z => by unfold s_got at z; exact ⟨by omega, by omega⟩))
set_option maxHeartbeats 4000000 in
set_option maxRecDepth 100000 in
theorem l2_X9_alone {l : Launch} {X : Nat × (Nat → Int32)} {M : am_M} {g : tG} {j r z : Nat} (hB : gB g) (hj : j < gs g 1) (hr : r ≤ 200) (hz : z ≤ 2) (hk : k_alone (nI j) (nI r) (nI z) g = t_tell (o_at g r) j (nI z)) : ∀ (k i : Nat) (N : am_M), i + k = r → Lay N → absM N g → yOne N (o_at g i) (gs g 1) → am_fr rS M N → am_V l yX9_alone cX9_alone 5 (some .long) (am_R 3 0 0) 0 0 X (fun v' M' => v' = some (.long (k_alone (nI j) (nI r) (nI z) g)) ∧ absM M' g ∧ Lay M' ∧ am_fr rS M M') 0 0 83 [some (.ref 93), some (.int (nI j)), some (.int (nI r)), some (.int (nI z)), some (.int (nI i))] [] N := by
  intro k
  have b2 := hB.2.2.1
  induction k with
  | zero =>
    intro i N hi hL hA hx hf
    obtain rfl : i = r := by omega
    obtain ⟨v1, v2, v3⟩ := hx j hj
    have w1 := at_le g i j hj
    rcases (show z = 0 ∨ z = 1 ∨ z = 2 by omega) with rfl | rfl | rfl
    · have hk : k_alone (nI j) (nI i) (nI 0) g = (gi (o_at g i) 1 j).toInt64 := hk
      refine r_iload dX9_alone_83 rfl ?_
      refine r_iload_n dX9_alone_85 rfl ?_
      refine r_icmp_ge 99 dX9_alone_86 (by decide) (fun _ => ?_) (fun hq => absurd (nI_le (Nat.le_refl _) (by omega)) hq)
      refine r_iload_n dX9_alone_99 rfl ?_
      refine r_if_ne 113 dX9_alone_100 (by decide) (fun hq => absurd rfl hq) (fun _ => ?_)
      refine r_aload_n dX9_alone_103 rfl ?_
      refine r_getF kX9 (k := 39) (by decide) rfl fl_X9_102 (lay_ok hL rfl) (lay_r hL rfl) dX9_alone_104 ?_
      refine r_iload_n dX9_alone_107 rfl ?_
      refine r_ialdE (gi (o_at g i) 1 j) (lay_ok hL rfl) (by omega) (by omega) dX9_alone_108 v1 ?_
      refine r_i2l dX9_alone_109 ?_
      refine r_goto 142 dX9_alone_110 (by decide) ?_
      exact r_lret rfl dX9_alone_142 ⟨(congrArg (fun q : Int64 => some (Value.long q)) hk).symm, hA, hL, hf⟩
    · have hk : k_alone (nI j) (nI i) (nI 1) g = (gi (o_at g i) 2 j).toInt64 := hk
      refine r_iload dX9_alone_83 rfl ?_
      refine r_iload_n dX9_alone_85 rfl ?_
      refine r_icmp_ge 99 dX9_alone_86 (by decide) (fun _ => ?_) (fun hq => absurd (nI_le (Nat.le_refl _) (by omega)) hq)
      refine r_iload_n dX9_alone_99 rfl ?_
      refine r_if_ne 113 dX9_alone_100 (by decide) (fun _ => ?_) (fun hq => absurd hq (by decide))
      refine r_iload_n dX9_alone_113 rfl ?_
      refine r_iconst (1) dX9_alone_114 (by decide) ?_
      refine r_icmp_ne 128 dX9_alone_115 (by decide) (fun hq => absurd rfl hq) (fun _ => ?_)
      refine r_aload_n dX9_alone_118 rfl ?_
      refine r_getF kX9 (k := 40) (by decide) rfl fl_X9_105 (lay_ok hL rfl) (lay_r hL rfl) dX9_alone_119 ?_
      refine r_iload_n dX9_alone_122 rfl ?_
      refine r_ialdE (gi (o_at g i) 2 j) (lay_ok hL rfl) (by omega) (by omega) dX9_alone_123 v2 ?_
      refine r_i2l dX9_alone_124 ?_
      refine r_goto 142 dX9_alone_125 (by decide) ?_
      exact r_lret rfl dX9_alone_142 ⟨(congrArg (fun q : Int64 => some (Value.long q)) hk).symm, hA, hL, hf⟩
    · have hk : k_alone (nI j) (nI i) (nI 2) g = (nI (ga (o_at g i) 1 j)).toInt64 := hk
      refine r_iload dX9_alone_83 rfl ?_
      refine r_iload_n dX9_alone_85 rfl ?_
      refine r_icmp_ge 99 dX9_alone_86 (by decide) (fun _ => ?_) (fun hq => absurd (nI_le (Nat.le_refl _) (by omega)) hq)
      refine r_iload_n dX9_alone_99 rfl ?_
      refine r_if_ne 113 dX9_alone_100 (by decide) (fun _ => ?_) (fun hq => absurd hq (by decide))
      refine r_iload_n dX9_alone_113 rfl ?_
      refine r_iconst (1) dX9_alone_114 (by decide) ?_
      refine r_icmp_ne 128 dX9_alone_115 (by decide) (fun _ => ?_) (fun hq => absurd hq (by decide))
      refine r_aload_n dX9_alone_128 rfl ?_
      refine r_getF kX9 (k := 41) (by decide) rfl fl_X9_108 (lay_ok hL rfl) (lay_r hL rfl) dX9_alone_129 ?_
      refine r_iload_n dX9_alone_132 rfl ?_
      refine r_zaldE (nI (ga (o_at g i) 1 j)) (lay_ok hL rfl) (by omega) (by omega) dX9_alone_133 v3 ?_
      refine r_if_eq 141 dX9_alone_134 (by decide) (fun c134 => ?_) (fun c134 => ?_)
      · refine r_lconst (0) dX9_alone_141 (by decide) ?_
        exact r_lret rfl dX9_alone_142 ⟨(congrArg (fun q : Int64 => some (Value.long q)) (hk.trans ((congrArg Int32.toInt64 c134).trans rfl))).symm, hA, hL, hf⟩
      · refine r_lconst (1) dX9_alone_137 (by decide) ?_
        refine r_goto 142 dX9_alone_138 (by decide) ?_
        exact r_lret rfl dX9_alone_142 ⟨(congrArg (fun q : Int64 => some (Value.long q)) (hk.trans ((congrArg Int32.toInt64 (b01_1 w1 c134).symm).trans rfl))).symm, hA, hL, hf⟩
  | succ k ih =>
    intro i N hi hL hA hx hf
    refine r_iload dX9_alone_83 rfl ?_
    refine r_iload_n dX9_alone_85 rfl ?_
    refine r_icmp_ge 99 dX9_alone_86 (by decide) (fun hq => absurd hq (nI_ge (by omega) (by omega))) (fun _ => ?_)
    refine r_aload_n dX9_alone_89 rfl ?_
    refine r_callV ca_yX9_oneRound ml_X9_235 im_yX9_oneRound se_yX9_oneRound (by decide) rfl (lay_ok hL rfl) (c_X9_oneRound hL hB (sameT_at g i) (at_le g i) hA hx) ⟨by decide, by decide⟩ (by first | decide | omega) (by first | decide | omega) rfl (Nat.le_of_ble_eq_true rfl) dX9_alone_90 (fun v0 M1 hp1 => ?_)
    obtain ⟨rfl, hA2, hx2, hL2, hf2⟩ := hp1
    refine r_iinc (nI (i + 1)) _ dX9_alone_93 (by decide) rfl (nI_1 _) rfl ?_
    refine r_goto 83 dX9_alone_96 (by decide) ?_
    exact ih (i + 1) M1 (by omega) hL2 hA2 hx2 (hf.tr (hf2.wd (fun x a => by have := a.1; have := a.2; exact ⟨by omega, by omega⟩)))
set_option maxHeartbeats 4000000 in
set_option maxRecDepth 100000 in
theorem l1_X9_alone {l : Launch} {X : Nat × (Nat → Int32)} {M : am_M} {g : tG} {j r z : Nat} (hB : gB g) (hj : j < gs g 1) (hr : r ≤ 200) (hz : z ≤ 2) (hk : k_alone (nI j) (nI r) (nI z) g = t_tell (o_at g r) j (nI z)) : ∀ (k i : Nat) (N : am_M), i + k = gs g 1 → Lay N → absM N g → yOne N (o_first g i) i → am_fr rS M N → am_V l yX9_alone cX9_alone 5 (some .long) (am_R 3 0 0) 0 0 X (fun v' M' => v' = some (.long (k_alone (nI j) (nI r) (nI z) g)) ∧ absM M' g ∧ Lay M' ∧ am_fr rS M M') 0 0 35 [some (.ref 93), some (.int (nI j)), some (.int (nI r)), some (.int (nI z)), some (.int (nI i))] [] N := by
  intro k
  have b2 := hB.2.2.1
  induction k with
  | zero =>
    intro i N hi hL hA hx hf
    obtain rfl : i = gs g 1 := by omega
    refine r_iload dX9_alone_35 rfl ?_
    refine r_aload_n dX9_alone_37 rfl ?_
    refine r_getE (nI (gs g 1)) kX9 (k := 1) (by decide) rfl fl_X9_115 (lay_ok hL rfl) dX9_alone_38 hA.1.2.1 ?_
    refine r_icmp_ge 80 dX9_alone_41 (by decide) (fun _ => ?_) (fun hq => absurd (nI_le (Nat.le_refl _) (by omega)) hq)
    refine r_iconst (nI 0) dX9_alone_80 (by decide) ?_
    refine r_istore _ dX9_alone_81 (by decide) rfl ?_
    exact l2_X9_alone hB hj hr hz hk r 0 N (by omega) hL hA hx hf
  | succ k ih =>
    intro i N hi hL hA hx hf
    have v0 := (hA.2.1 i (by omega)).1
    have hL0 := hL
    have f0 : am_fr (fun x => 123 ≤ x ∧ x ≤ 125) N (wI (wI (wI N 123 i (gi g 0 i)) 124 i 0) 125 i 1) := ((am_fr.wI _ _ (by decide)).tr (am_fr.wI _ _ (by decide))).tr (am_fr.wI _ _ (by decide))
    have hx1 : yOne (wI (wI (wI N 123 i (gi g 0 i)) 124 i 0) 125 i 1) (o_first g (i + 1)) (i + 1) := fun v hv => by
      show _ = gi (ui (ui (o_first g i) 1 i (gi g 0 i)) 2 i 0) 1 v ∧ _ = gi (ui (ui (o_first g i) 1 i (gi g 0 i)) 2 i 0) 2 v ∧ _ = nI (ga (ua (ui (ui (o_first g i) 1 i (gi g 0 i)) 2 i 0) 1 i 1) 1 v)
      by_cases c : v = i
      · subst c
        simp [mI_wI, ga_ua, gi_ui]
        decide
      · obtain ⟨u1, u2, u3⟩ := hx v (by omega)
        simp [mI_wI, ga_ua, gi_ui, ga_ui, c, u1, u2, u3]
    refine r_iload dX9_alone_35 rfl ?_
    refine r_aload_n dX9_alone_37 rfl ?_
    refine r_getE (nI (gs g 1)) kX9 (k := 1) (by decide) rfl fl_X9_115 (lay_ok hL rfl) dX9_alone_38 hA.1.2.1 ?_
    refine r_icmp_ge 80 dX9_alone_41 (by decide) (fun hq => absurd hq (nI_ge (by omega) (by omega))) (fun _ => ?_)
    refine r_aload_n dX9_alone_44 rfl ?_
    refine r_getF kX9 (k := 39) (by decide) rfl fl_X9_102 (lay_ok hL rfl) (lay_r hL rfl) dX9_alone_45 ?_
    refine r_iload dX9_alone_48 rfl ?_
    refine r_aload_n dX9_alone_50 rfl ?_
    refine r_getF kX9 (k := 7) (by decide) rfl fl_X9_13 (lay_ok hL rfl) (lay_r hL rfl) dX9_alone_51 ?_
    refine r_iload dX9_alone_54 rfl ?_
    refine r_ialdE (gi g 0 i) (lay_ok hL rfl) (by omega) (by omega) dX9_alone_56 v0 ?_
    refine r_iastN (lay_ok hL rfl) (by omega) (by decide) dX9_alone_57 ?_
    refine r_lay (lay_wI hL _ _ _) (fun hL => ?_)
    refine r_aload_n dX9_alone_58 rfl ?_
    refine r_getF kX9 (k := 40) (by decide) rfl fl_X9_105 (lay_ok hL rfl) (lay_r hL rfl) dX9_alone_59 ?_
    refine r_iload dX9_alone_62 rfl ?_
    refine r_iconst (0) dX9_alone_64 (by decide) ?_
    refine r_iastN (lay_ok hL rfl) (by omega) (by decide) dX9_alone_65 ?_
    refine r_lay (lay_wI hL _ _ _) (fun hL => ?_)
    refine r_aload_n dX9_alone_66 rfl ?_
    refine r_getF kX9 (k := 41) (by decide) rfl fl_X9_108 (lay_ok hL rfl) (lay_r hL rfl) dX9_alone_67 ?_
    refine r_iload dX9_alone_70 rfl ?_
    refine r_iconst (1) dX9_alone_72 (by decide) ?_
    refine r_zastN (lay_ok hL rfl) (by omega) (by decide) (by decide) dX9_alone_73 ?_
    refine r_lay (lay_wI hL _ _ _) (fun hL => ?_)
    refine r_iinc (nI (i + 1)) _ dX9_alone_74 (by decide) rfl (nI_1 _) rfl ?_
    refine r_goto 35 dX9_alone_77 (by decide) ?_
    exact ih (i + 1) _ (by omega) hL (hA.gr f0.gr hL0.1 (fun x a b z => by omega)) hx1 (hf.tr (f0.wd (fun x a => ⟨by omega, by omega⟩)))
set_option maxHeartbeats 4000000 in
set_option maxRecDepth 100000 in
theorem k_X9_alone {l : Launch} {X : Nat × (Nat → Int32)} {M : am_M} (hL : Lay M) {g : tG} {c0 : Nat} (hA : absM M g) (hI : gI c0 g) {x y z : Int32} : am_C l yX9_alone cX9_alone 5 (some .long) 3 0 0 X [.ref 93, .int x, .int y, .int z] M (fun v' M' => v' = some (.long (k_alone x y z g)) ∧ absM M' g ∧ Lay M' ∧ am_fr rS M M') := by
  refine am_C.of (by decide) (by simp [Value.category, va_rf]) (Nat.le_of_ble_eq_true rfl) ?_
  have hB := hI.1
  obtain ⟨b0, b1, b2, b3, b4, b5, b6, b7, b8, b9, bV, bA, bN, bl, bn, bh⟩ := id hB
  obtain ⟨s0, s1, s2, s3, s4, s5, s6, s7, s8, s9⟩ := hA.1
  have s18 := hA.2.2.2.2.1.1
  have hL0 := hL
  rcases inN_cases x (k := gs g 1) (by omega) with ⟨e, c⟩ | ⟨j, hj, rfl, e⟩
  · have hk : k_alone x y z g = k_NONE := by simp only [k_alone, e]
    refine r_aload_n dX9_alone_0 rfl ?_
    refine r_iload_n dX9_alone_1 rfl ?_
    refine r_cV ca_yX9_isVertex ml_X9_151 im_yX9_isVertex se_yX9_isVertex (by decide) rfl (lay_ok hL rfl) (c_X9_isVertex hL s1 (by omega)) ⟨by decide, by decide⟩ (by first | decide | omega) (by first | decide | omega) rfl (Nat.le_of_ble_eq_true rfl) dX9_alone_2 ?_
    refine r_top 0 (inN_no c) ?_
    refine r_if_eq 28 dX9_alone_5 (by decide) (fun _ => ?_) (fun hq => absurd (by decide) hq)
    refine r_ldc2 _ dX9_alone_28 kl_X9_211 ?_
    exact r_lret rfl dX9_alone_31 ⟨(congrArg (fun q : Int64 => some (Value.long q)) hk).symm, hA, hL0, am_fr.rf⟩
  · rcases inN_cases y (k := 201) (by decide) with ⟨f, c⟩ | ⟨r, hr, rfl, f⟩
    · have hk : k_alone (nI j) y z g = k_NONE := by simp only [k_alone, e, f]
      refine r_aload_n dX9_alone_0 rfl ?_
      refine r_iload_n dX9_alone_1 rfl ?_
      refine r_cV ca_yX9_isVertex ml_X9_151 im_yX9_isVertex se_yX9_isVertex (by decide) rfl (lay_ok hL rfl) (c_X9_isVertex hL s1 (by omega)) ⟨by decide, by decide⟩ (by first | decide | omega) (by first | decide | omega) rfl (Nat.le_of_ble_eq_true rfl) dX9_alone_2 ?_
      refine r_top 1 (inN_yes hj (by omega)) ?_
      refine r_if_eq 28 dX9_alone_5 (by decide) (fun hq => absurd hq (by decide)) (fun _ => ?_)
      refine r_iload_n dX9_alone_8 rfl ?_
      refine r_iconst (0) dX9_alone_9 (by decide) ?_
      refine r_sipush (200) dX9_alone_10 (by decide) ?_
      refine r_cS ca_yX9_in ml_X9_143 sm_yX9_in (c_X9_in hL) ⟨by decide, by decide⟩ (by first | decide | omega) (by first | decide | omega) rfl (Nat.le_of_ble_eq_true rfl) dX9_alone_13 ?_
      refine r_top 0 (by rcases c with c | c; rw [if_pos c]; rw [if_neg c.1, if_pos (Int32.not_le.mp (le_200 c.2))]) ?_
      refine r_if_eq 28 dX9_alone_16 (by decide) (fun _ => ?_) (fun hq => absurd (by decide) hq)
      refine r_ldc2 _ dX9_alone_28 kl_X9_211 ?_
      exact r_lret rfl dX9_alone_31 ⟨(congrArg (fun q : Int64 => some (Value.long q)) hk).symm, hA, hL0, am_fr.rf⟩
    · have hk : k_alone (nI j) (nI r) z g = t_tell (o_at g r) j z := by simp only [k_alone, e, f]
      have hin : (if nI r < 0 then (0 : Int32) else if 200 < nI r then 0 else 1) = 1 := by rw [if_neg (nI_pos (by omega)), if_neg (show ¬ (200 : Int32) < nI r from nI_nlt (a := 200) (by omega) (by decide))]
      by_cases hz : ∃ q, q ≤ 2 ∧ z = nI q
      · obtain ⟨q, hq, rfl⟩ := hz
        have hi2 : (if nI q < 0 then (0 : Int32) else if 2 < nI q then 0 else 1) = 1 := by rw [if_neg (nI_pos (by omega)), if_neg (show ¬ (2 : Int32) < nI q from nI_nlt (a := 2) (by omega) (by decide))]
        refine r_aload_n dX9_alone_0 rfl ?_
        refine r_iload_n dX9_alone_1 rfl ?_
        refine r_cV ca_yX9_isVertex ml_X9_151 im_yX9_isVertex se_yX9_isVertex (by decide) rfl (lay_ok hL rfl) (c_X9_isVertex hL s1 (by omega)) ⟨by decide, by decide⟩ (by first | decide | omega) (by first | decide | omega) rfl (Nat.le_of_ble_eq_true rfl) dX9_alone_2 ?_
        refine r_top 1 (inN_yes hj (by omega)) ?_
        refine r_if_eq 28 dX9_alone_5 (by decide) (fun hq => absurd hq (by decide)) (fun _ => ?_)
        refine r_iload_n dX9_alone_8 rfl ?_
        refine r_iconst (0) dX9_alone_9 (by decide) ?_
        refine r_sipush (200) dX9_alone_10 (by decide) ?_
        refine r_cS ca_yX9_in ml_X9_143 sm_yX9_in (c_X9_in hL) ⟨by decide, by decide⟩ (by first | decide | omega) (by first | decide | omega) rfl (Nat.le_of_ble_eq_true rfl) dX9_alone_13 ?_
        refine r_top 1 (hin) ?_
        refine r_if_eq 28 dX9_alone_16 (by decide) (fun hq => absurd hq (by decide)) (fun _ => ?_)
        refine r_iload_n dX9_alone_19 rfl ?_
        refine r_iconst (0) dX9_alone_20 (by decide) ?_
        refine r_iconst (2) dX9_alone_21 (by decide) ?_
        refine r_cS ca_yX9_in ml_X9_143 sm_yX9_in (c_X9_in hL) ⟨by decide, by decide⟩ (by first | decide | omega) (by first | decide | omega) rfl (Nat.le_of_ble_eq_true rfl) dX9_alone_22 ?_
        refine r_top 1 (hi2) ?_
        refine r_if_ne 32 dX9_alone_25 (by decide) (fun _ => ?_) (fun hq => absurd hq (by decide))
        refine r_iconst (nI 0) dX9_alone_32 (by decide) ?_
        refine r_istore _ dX9_alone_33 (by decide) rfl ?_
        exact l1_X9_alone hB hj (by omega) hq hk (gs g 1) 0 _ (by omega) hL hA (fun v hv => absurd hv (by omega)) am_fr.rf
      · have hne : ∀ q, q ≤ 2 → ¬ z = nI q := fun q hq y => hz ⟨q, hq, y⟩
        have hk : k_alone (nI j) (nI r) z g = k_NONE := by
          rw [hk]
          unfold t_tell
          rw [if_neg (show ¬ z = 0 from hne 0 (by decide)), if_neg (show ¬ z = 1 from hne 1 (by decide)), if_neg (show ¬ z = 2 from hne 2 (by decide))]
        refine r_aload_n dX9_alone_0 rfl ?_
        refine r_iload_n dX9_alone_1 rfl ?_
        refine r_cV ca_yX9_isVertex ml_X9_151 im_yX9_isVertex se_yX9_isVertex (by decide) rfl (lay_ok hL rfl) (c_X9_isVertex hL s1 (by omega)) ⟨by decide, by decide⟩ (by first | decide | omega) (by first | decide | omega) rfl (Nat.le_of_ble_eq_true rfl) dX9_alone_2 ?_
        refine r_top 1 (inN_yes hj (by omega)) ?_
        refine r_if_eq 28 dX9_alone_5 (by decide) (fun hq => absurd hq (by decide)) (fun _ => ?_)
        refine r_iload_n dX9_alone_8 rfl ?_
        refine r_iconst (0) dX9_alone_9 (by decide) ?_
        refine r_sipush (200) dX9_alone_10 (by decide) ?_
        refine r_cS ca_yX9_in ml_X9_143 sm_yX9_in (c_X9_in hL) ⟨by decide, by decide⟩ (by first | decide | omega) (by first | decide | omega) rfl (Nat.le_of_ble_eq_true rfl) dX9_alone_13 ?_
        refine r_top 1 (hin) ?_
        refine r_if_eq 28 dX9_alone_16 (by decide) (fun hq => absurd hq (by decide)) (fun _ => ?_)
        refine r_iload_n dX9_alone_19 rfl ?_
        refine r_iconst (0) dX9_alone_20 (by decide) ?_
        refine r_iconst (2) dX9_alone_21 (by decide) ?_
        refine r_cS ca_yX9_in ml_X9_143 sm_yX9_in (c_X9_in hL) ⟨by decide, by decide⟩ (by first | decide | omega) (by first | decide | omega) rfl (Nat.le_of_ble_eq_true rfl) dX9_alone_22 ?_
        refine r_top 0 (out_k (k := 2) (by decide) hne) ?_
        refine r_if_ne 32 dX9_alone_25 (by decide) (fun hq => absurd (by decide) hq) (fun _ => ?_)
        refine r_ldc2 _ dX9_alone_28 kl_X9_211 ?_
        exact r_lret rfl dX9_alone_31 ⟨(congrArg (fun q : Int64 => some (Value.long q)) hk).symm, hA, hL0, am_fr.rf⟩
