set_option maxHeartbeats 4000000 in
set_option maxRecDepth 100000 in
theorem c_J7_copyOf {l : Launch} {X : Nat × (Nat → Int32)} {M : am_M} (hL : Lay M) {a k : Nat} (ha : am_ok M a 10 40) (hk : k ≤ 40) : am_C l yJ7_copyOf_59c91 cJ7_copyOf_59c91 3 (some (.array .int)) 1 1 40 X [.ref a, .int (nI k)] M (fun v M' => ∃ f, v = some (.ref (mN M + 1)) ∧ M' = wA M k f ∧ ∀ j, j < k → f j = mI M a j) := by
  refine am_C.of (by decide) (by simp [Value.category, va_rf]) (Nat.le_of_ble_eq_true rfl) ?_
  refine r_iload_n dJ7_copyOf_59c91_0 rfl ?_
  refine r_aload_n dJ7_copyOf_59c91_1 rfl ?_
  refine r_alen (Or.inl rfl) ha dJ7_copyOf_59c91_2 ?_
  refine r_icmp_ne 14 dJ7_copyOf_59c91_3 (by decide) (fun c3 => ?_) (fun c3 => ?_)
  · refine r_iload_n dJ7_copyOf_59c91_14 rfl ?_
    refine r_newaIN (by omega) (by decide) hk dJ7_copyOf_59c91_15 ?_
    have ha2 := okw_wN ha 10 k
    refine r_astore_n _ dJ7_copyOf_59c91_17 (by decide) rfl ?_
    refine r_aload_n dJ7_copyOf_59c91_18 rfl ?_
    refine r_iconst (0) dJ7_copyOf_59c91_19 (by decide) ?_
    refine r_aload_n dJ7_copyOf_59c91_20 rfl ?_
    refine r_iconst (0) dJ7_copyOf_59c91_21 (by decide) ?_
    refine r_aload_n dJ7_copyOf_59c91_22 rfl ?_
    refine r_alen (Or.inl rfl) ha2 dJ7_copyOf_59c91_23 ?_
    refine r_iload_n dJ7_copyOf_59c91_24 rfl ?_
    refine r_mmin ml_J7_304 sm_yJ9_min_7cf53 ini_J9 co_min ⟨by decide, Nat.le_of_ble_eq_true rfl⟩ dJ7_copyOf_59c91_25 ?_
    refine r_top (nI k) (by rcases Nat.lt_or_ge k 40 with q | q; rw [if_pos (nI_lt q (by omega))]; rw [show k = 40 by omega]; rfl) ?_
    refine r_copyi ha2 (okw_new M 10 k) ml_J7_150 nt_arraycopyName sm_arraycopyName ini_J10 (by decide) (by decide) (nI_pos (by omega)) (by rw [nI_clamp (by omega)]; show 0 + k ≤ 40; omega) (by rw [nI_clamp (by omega)]; show 0 + k ≤ k; omega) ⟨by decide, Nat.le_of_ble_eq_true rfl⟩ dJ7_copyOf_59c91_28 ?_
    refine r_aload_n dJ7_copyOf_59c91_31 rfl ?_
    refine r_aret (r := some (mN M + 1)) (Or.inr ⟨_, rfl⟩) dJ7_copyOf_59c91_32 ⟨_, rfl, rfl, fun j hj => ?_⟩
    rw [nI_clamp (by omega)]
    show va_cpy (mI (wN M 10 k) a) _ 0 0 k j = mI M a j
    rw [sb_cpy0 hj, mI_wN_n M 10 k (by have := ha.2.1; omega)]
  · refine r_aload_n dJ7_copyOf_59c91_6 rfl ?_
    have hk40 : k = 40 := (nI_eq (by omega) (by omega)).mp (by exact c3)
    subst hk40
    refine r_clone ha ml_J7_316 sam_clone nt_javalangObjectcloneLjavalangObject im_javalangObjectcloneLjavalangObject se_IcloneLjavalangObject ⟨by decide, Nat.le_of_ble_eq_true rfl⟩ (by decide) (by decide) dJ7_copyOf_59c91_7 ?_
    have okc : am_ok (wC M a 40) (mN M + 1) 10 40 := okw_wF (okw_new M 10 40) _ _
    refine r_castA okc cl_J7_317 dJ7_copyOf_59c91_10 ?_
    exact r_aret (r := some (mN M + 1)) (Or.inr ⟨_, rfl⟩) dJ7_copyOf_59c91_13 ⟨mI M a, rfl, rfl, fun _ _ => rfl⟩
set_option maxHeartbeats 4000000 in
set_option maxRecDepth 100000 in
theorem l_J7_fill {l : Launch} {X : Nat × (Nat → Int32)} {M : am_M} (hL : Lay M) {x : Int32} : ∀ k i : Nat, i + k = 4 → am_V l yJ7_fill_53178 cJ7_fill_53178 4 (none) (am_R 0 0 0) 0 0 X (fun v M' => v = none ∧ M' = wF M 27 (fl (mI M 27) 4 x)) 0 0 5 [some (.ref 27), some (.int x), some (.int (nI i)), some (.int (nI 4))] [] (wF M 27 (fl (mI M 27) i x)) := by
  intro k
  induction k with
  | zero =>
    intro i hi
    obtain rfl : i = 4 := by omega
    refine r_iload_n dJ7_fill_53178_5 rfl ?_
    refine r_iload_n dJ7_fill_53178_6 rfl ?_
    refine r_icmp_ge 20 dJ7_fill_53178_7 (by decide) (fun _ => ?_) (fun hq => absurd (nI_le (Nat.le_refl 4) (by decide)) hq)
    exact r_vret rfl dJ7_fill_53178_20 ⟨rfl, rfl⟩
  | succ k ih =>
    intro i hi
    have hL := lay_wF hL 27 (fl (mI M 27) i x)
    refine r_iload_n dJ7_fill_53178_5 rfl ?_
    refine r_iload_n dJ7_fill_53178_6 rfl ?_
    refine r_icmp_ge 20 dJ7_fill_53178_7 (by decide) (fun hq => absurd hq (nI_ge (by omega) (by decide))) (fun _ => ?_)
    refine r_aload_n dJ7_fill_53178_10 rfl ?_
    refine r_iload_n dJ7_fill_53178_11 rfl ?_
    refine r_iload_n dJ7_fill_53178_12 rfl ?_
    refine r_iastN (lay_ok hL rfl) (by omega) (by decide) dJ7_fill_53178_13 ?_
    refine r_lay (lay_wI hL _ _ _) (fun hL => ?_)
    refine r_iinc (nI (i + 1)) _ dJ7_fill_53178_14 (by decide) rfl (nI_1 _) rfl ?_
    refine r_goto 5 dJ7_fill_53178_17 (by decide) ?_
    have q := ih (i + 1) (by omega)
    rw [← fl_s (mI M 27) i x, ← wI_wF] at q
    exact q
set_option maxHeartbeats 4000000 in
set_option maxRecDepth 100000 in
theorem c_J7_fill {l : Launch} {X : Nat × (Nat → Int32)} {M : am_M} (hL : Lay M) {x : Int32}  : am_F l yJ7_fill_53178 cJ7_fill_53178 4 (none) 0 0 0 X [.ref 27, .int x] M (none) (wF M 27 (fl (mI M 27) 4 x)) := by
  refine am_C.of (by decide) (by simp [Value.category, va_rf]) (Nat.le_of_ble_eq_true rfl) ?_
  refine r_iconst (nI 0) dJ7_fill_53178_0 (by decide) ?_
  refine r_istore_n _ dJ7_fill_53178_1 (by decide) rfl ?_
  refine r_aload_n dJ7_fill_53178_2 rfl ?_
  refine r_alen (Or.inl rfl) (lay_ok hL rfl) dJ7_fill_53178_3 ?_
  refine r_istore_n _ dJ7_fill_53178_4 (by decide) rfl ?_
  have q := l_J7_fill (l := l) (X := X) hL (x := x) 4 0 (by omega)
  rw [fl_0, wF_id] at q
  exact q
