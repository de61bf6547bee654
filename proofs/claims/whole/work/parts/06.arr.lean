/-! ROWS OF ARRAYS, NEW CELLS, ANSWERS -/
section AmArr
variable {l : Launch} {y : MethodName} {cc : ByteArray} {nL : Nat} {rt : Option FieldType} {R : Room} {mc ms : Nat} {X : Nat × (Nat → Int32)} {Post : Option Value → am_M → Prop} {bc bs pc : Nat} {ls : List (Option Value)} {st : List Value} {M : am_M}
theorem r_iald {a n : Nat} {i : Int32} (hok : am_ok M a 10 n) (hi : vp_in i n) (hd : decode cc pc = .ok (.iaload, 1)) (kk : am_V l y cc nL rt R mc ms X Post bc bs (pc + 1) ls (.int (mI M a i.toNatClampNeg) :: st) M) : am_V l y cc nL rt R mc ms X Post bc bs pc ls (.int i :: .ref a :: st) M := by
  intro p e s m args below meth c D cA b base H locs cells slots lsr E0 H0 L0 q1 q2
  obtain ⟨hx, hb, -⟩ := id E0
  obtain ⟨⟨hK, -⟩, hP, -⟩ := id H0
  exact va_iald hx hb hK hP (a - 1) 0 ((am_ws_at hok.1 hok.2.1).trans (by rw [am_ob_i hok.2.2])) rfl hi hd (kk p e s m args below meth c D cA b base H locs cells slots lsr E0 H0 L0 q1 q2)
theorem r_zald {a n : Nat} {i : Int32} (hok : am_ok M a 11 n) (hi : vp_in i n) (hd : decode cc pc = .ok (.baload, 1)) (kk : am_V l y cc nL rt R mc ms X Post bc bs (pc + 1) ls (.int (mI M a i.toNatClampNeg) :: st) M) : am_V l y cc nL rt R mc ms X Post bc bs pc ls (.int i :: .ref a :: st) M := by
  intro p e s m args below meth c D cA b base H locs cells slots lsr E0 H0 L0 q1 q2
  obtain ⟨hx, hb, -⟩ := id E0
  obtain ⟨⟨hK, -⟩, hP, -⟩ := id H0
  exact va_zald hx hb hK hP (a - 1) 1 ((am_ws_at hok.1 hok.2.1).trans (by rw [am_ob_z hok.2.2])) rfl hi hd (kk p e s m args below meth c D cA b base H locs cells slots lsr E0 H0 L0 q1 q2)
theorem r_aald {a n t : Nat} {i : Int32} (ht : t = 12 ∨ t = 13) (hok : am_ok M a t n) (hi : vp_in i n) (hd : decode cc pc = .ok (.aaload, 1)) (kk : am_V l y cc nL rt R mc ms X Post bc bs (pc + 1) ls (va_rf (mR M a i.toNatClampNeg) :: st) M) : am_V l y cc nL rt R mc ms X Post bc bs pc ls (.int i :: .ref a :: st) M := by
  intro p e s m args below meth c D cA b base H locs cells slots lsr E0 H0 L0 q1 q2
  obtain ⟨hx, hb, -⟩ := id E0
  obtain ⟨⟨hK, -⟩, hP, -⟩ := id H0
  have k2 := kk p e s m args below meth c D cA b base H locs cells slots lsr E0 H0 L0 q1 q2
  rw [List.map_cons, am_tv_rf] at k2
  rcases ht with rfl | rfl
  · exact va_aldq (C := RX3) hx hb hK hP (a - 1) 2 ((am_ws_at hok.1 hok.2.1).trans (by rw [am_ob_q (by decide) hok.2.2])) rfl hi hd k2
  · exact va_aldq (C := RX6) hx hb hK hP (a - 1) 3 ((am_ws_at hok.1 hok.2.1).trans (by rw [am_ob_q (by decide) hok.2.2])) rfl hi hd k2
theorem r_alen {a n t : Nat} (ht : t = 10 ∨ t = 11) (hok : am_ok M a t n) (hd : decode cc pc = .ok (.arraylength, 1)) (kk : am_V l y cc nL rt R mc ms X Post bc bs (pc + 1) ls (.int (nI n) :: st) M) : am_V l y cc nL rt R mc ms X Post bc bs pc ls (.ref a :: st) M := by
  intro p e s m args below meth c D cA b base H locs cells slots lsr E0 H0 L0 q1 q2
  obtain ⟨hx, hb, -⟩ := id E0
  obtain ⟨⟨hK, -⟩, hP, -⟩ := id H0
  rcases ht with rfl | rfl
  · exact va_alen (x := (n, .inl (mI M a))) hx hb hK hP (a - 1) 0 ((am_ws_at hok.1 hok.2.1).trans (by rw [am_ob_i hok.2.2])) rfl rfl hd (kk p e s m args below meth c D cA b base H locs cells slots lsr E0 H0 L0 q1 q2)
  · exact va_alen (x := (n, .inl (mI M a))) hx hb hK hP (a - 1) 1 ((am_ws_at hok.1 hok.2.1).trans (by rw [am_ob_z hok.2.2])) rfl rfl hd (kk p e s m args below meth c D cA b base H locs cells slots lsr E0 H0 L0 q1 q2)
/-- the script -/
theorem r_sld {i : Int32} (hi : vp_in i X.1) (hd : decode cc pc = .ok (.iaload, 1)) (kk : am_V l y cc nL rt R mc ms X Post bc bs (pc + 1) ls (.int (X.2 i.toNatClampNeg) :: st) M) : am_V l y cc nL rt R mc ms X Post bc bs pc ls (.int i :: .ref 0 :: st) M := by
  intro p e s m args below meth c D cA b base H locs cells slots lsr E0 H0 L0 q1 q2
  obtain ⟨hx, hb, -⟩ := id E0
  obtain ⟨-, -, -, hX, hbb, hle, hS⟩ := id H0
  exact va_sld hx hb hX (Nat.lt_of_lt_of_le hbb hle) (Nat.not_le.mpr hbb) hS hi hd (kk p e s m args below meth c D cA b base H locs cells slots lsr E0 H0 L0 q1 q2)
theorem r_slen (hd : decode cc pc = .ok (.arraylength, 1)) (kk : am_V l y cc nL rt R mc ms X Post bc bs (pc + 1) ls (.int (nI X.1) :: st) M) : am_V l y cc nL rt R mc ms X Post bc bs pc ls (.ref 0 :: st) M := by
  intro p e s m args below meth c D cA b base H locs cells slots lsr E0 H0 L0 q1 q2
  obtain ⟨hx, hb, -⟩ := id E0
  obtain ⟨-, -, -, hX, hbb, hle, hS⟩ := id H0
  exact va_slen hx hb hX (Nat.lt_of_lt_of_le hbb hle) (Nat.not_le.mpr hbb) hS hd (kk p e s m args below meth c D cA b base H locs cells slots lsr E0 H0 L0 q1 q2)
theorem r_iast {a n : Nat} {i x : Int32} (hok : am_ok M a 10 n) (hi : vp_in i n) (hd : decode cc pc = .ok (.iastore, 1)) (kk : am_V l y cc nL rt R mc ms X Post bc bs (pc + 1) ls st (wI M a i.toNatClampNeg x)) : am_V l y cc nL rt R mc ms X Post bc bs pc ls (.int x :: .int i :: .ref a :: st) M := by
  intro p e s m args below meth c D cA b base H locs cells slots lsr E0 H0 L0 q1 q2
  obtain ⟨hx, hb, -⟩ := id E0
  obtain ⟨⟨hK, -⟩, hP, -⟩ := id H0
  have hat := hP (a - 1) _ ((am_ws_at hok.1 hok.2.1).trans (by rw [am_ob_i hok.2.2]))
  refine W.iast hx hb hat ((hK.2 0 _ rfl).1 n (fun j => .int (mI M a j))) (fun q => by cases q) (by show ¬ (i < 0 ∨ (arrV _ _ _).slots.size ≤ _); rw [arrV_size]; exact hi) rfl rfl hd fun H1 e1 z oq => ?_
  refine kk p e s m args below meth c D cA b base H1 _ cells slots lsr E0 (am_H_set H0 hok rfl (fun x' hx' => am_ob_congr rfl (mI_wI_n M _ _ hx') rfl) ?_ z oq) L0 q1 q2
  rw [am_ob_i (show mT (wI M a i.toNatClampNeg x) a = (10, n) from hok.2.2)]
  show H1[_]? = some (vp_cell _ _)
  rw [e1, vp_cell_i, vp_cell_i, arrV_store, mI_wI_s]
  congr 2
  funext q
  by_cases hq : q = i.toNatClampNeg
  · subst hq
    simp [updV, va_up]
  · simp [updV, va_up, hq]
theorem r_zast {a n : Nat} {i x : Int32} (hok : am_ok M a 11 n) (hi : vp_in i n) (h01 : x = 0 ∨ x = 1) (hd : decode cc pc = .ok (.bastore, 1)) (kk : am_V l y cc nL rt R mc ms X Post bc bs (pc + 1) ls st (wI M a i.toNatClampNeg x)) : am_V l y cc nL rt R mc ms X Post bc bs pc ls (.int x :: .int i :: .ref a :: st) M := by
  intro p e s m args below meth c D cA b base H locs cells slots lsr E0 H0 L0 q1 q2
  obtain ⟨hx, hb, -⟩ := id E0
  obtain ⟨⟨hK, -⟩, hP, -⟩ := id H0
  have hat := hP (a - 1) _ ((am_ws_at hok.1 hok.2.1).trans (by rw [am_ob_z hok.2.2]))
  refine W.zast hx hb hat ((hK.2 1 _ rfl).1 n (fun j => .int (mI M a j))) (fun q => by cases q) (by show ¬ (i < 0 ∨ (arrV _ _ _).slots.size ≤ _); rw [arrV_size]; exact hi) rfl rfl hd fun H1 e1 z oq => ?_
  refine kk p e s m args below meth c D cA b base H1 _ cells slots lsr E0 (am_H_set H0 hok rfl (fun x' hx' => am_ob_congr rfl (mI_wI_n M _ _ hx') rfl) ?_ z oq) L0 q1 q2
  rw [am_ob_z (show mT (wI M a i.toNatClampNeg x) a = (11, n) from hok.2.2)]
  show H1[_]? = some (vp_cell _ _)
  have hnar : narrow .boolean (.int x) = .int x := by rcases h01 with rfl | rfl <;> rfl
  rw [e1, vp_cell_i, vp_cell_i, arrV_store, mI_wI_s]
  congr 2
  funext q
  by_cases hq : q = i.toNatClampNeg
  · subst hq
    simp [updV, va_up, hnar]
  · simp [updV, va_up, hq]
theorem r_aast {a n t i' ci n' : Nat} {i : Int32} (ht : (t = 12 ∧ ci = 3) ∨ (t = 13 ∧ ci = 6)) (hok : am_ok M a t n) (hi : vp_in i n) (hv : am_ok M i' ci n') (hd : decode cc pc = .ok (.aastore, 1)) (kk : am_V l y cc nL rt R mc ms X Post bc bs (pc + 1) ls st (wR M a i.toNatClampNeg (some i'))) : am_V l y cc nL rt R mc ms X Post bc bs pc ls (.ref i' :: .int i :: .ref a :: st) M := by
  intro p e s m args below meth c D cA b base H locs cells slots lsr E0 H0 L0 q1 q2
  obtain ⟨hx, hb, -⟩ := id E0
  obtain ⟨⟨hK, -⟩, hP, -⟩ := id H0
  have hlt : i.toNatClampNeg < n := Nat.not_le.mp fun q => hi (Or.inr q)
  have h0 : ¬ i < 0 := fun q => hi (Or.inl q)
  have ht12 : ¬ t < 12 := by rcases ht with ⟨rfl, -⟩ | ⟨rfl, -⟩ <;> decide
  have hci : ci < 10 := by rcases ht with ⟨-, rfl⟩ | ⟨-, rfl⟩ <;> decide
  have hat := hP (a - 1) _ ((am_ws_at hok.1 hok.2.1).trans (by rw [am_ob_q ht12 hok.2.2]))
  obtain ⟨r', hr', cellV, g1, g2, g3, -⟩ := hP (i' - 1) _ (am_P_ob hP hv hci)
  obtain ⟨Cn, tk, hcl, hty⟩ : ∃ (r : vw_C) (tk : Nat), vwCl[ci]? = some r ∧ (am_tys cA)[tk]? = some (cA t, .object r.1) := by
    rcases ht with ⟨rfl, rfl⟩ | ⟨rfl, rfl⟩
    · exact ⟨_, 2, rfl, rfl⟩
    · exact ⟨_, 3, rfl, rfl⟩
  have hcls := (hK.1 ci Cn hcl).2
  obtain ⟨kA, comp, k1, k2, k3, -⟩ := (hK.2 tk _ hty).2
  have hcomp : comp = D.1 ci := Option.some.inj (k3.symm.trans hcls.1)
  subst hcomp
  obtain ⟨kC, hkC, -⟩ := hcls.2
  refine W.aast hx hb hat (fun q h => by cases h) (fun h => by cases h) k1 k2 rfl hkC ⟨h0, by show _ < (arrV _ _ _).slots.size; rw [arrV_size]; exact hlt⟩ g1 (fun q h => by rw [g3] at h; cases h) (by rw [g2]; exact hkC) (by rw [g2]; exact va_assign hcls) rfl rfl hd fun H1 e1 z oq => ?_
  refine kk p e s m args below meth c D cA b base H1 _ cells slots lsr E0 (am_H_set H0 hok rfl (fun x' hx' => am_ob_congr rfl rfl (mR_wR_n M _ _ hx')) ?_ z oq) L0 q1 q2
  rw [am_ob_q ht12 (show mT (wR M a i.toNatClampNeg (some i')) a = (t, n) from hok.2.2)]
  show H1[_]? = some (vp_cell _ _)
  rw [e1, vp_cell_q, vp_cell_q, arrV_store, mR_wR_s]
  congr 2
  funext q
  by_cases hq : q = i.toNatClampNeg
  · subst hq
    simp [updV, va_up, va_rf]
  · simp [updV, va_up, hq]
theorem r_aastN {a n t : Nat} {i : Int32} (ht : t = 12 ∨ t = 13) (hok : am_ok M a t n) (hi : vp_in i n) (hd : decode cc pc = .ok (.aastore, 1)) (kk : am_V l y cc nL rt R mc ms X Post bc bs (pc + 1) ls st (wR M a i.toNatClampNeg none)) : am_V l y cc nL rt R mc ms X Post bc bs pc ls (.null :: .int i :: .ref a :: st) M := by
  intro p e s m args below meth c D cA b base H locs cells slots lsr E0 H0 L0 q1 q2
  obtain ⟨hx, hb, -⟩ := id E0
  obtain ⟨⟨hK, -⟩, hP, -⟩ := id H0
  have ht12 : ¬ t < 12 := by rcases ht with rfl | rfl <;> decide
  have hat := hP (a - 1) _ ((am_ws_at hok.1 hok.2.1).trans (by rw [am_ob_q ht12 hok.2.2]))
  obtain ⟨C, tk, hty⟩ : ∃ (C : String) (tk : Nat), (am_tys cA)[tk]? = some (cA t, .object C) := by
    rcases ht with rfl | rfl
    · exact ⟨_, 2, rfl⟩
    · exact ⟨_, 3, rfl⟩
  refine va_WaastN (C := C) hx hb hat ((hK.2 tk _ hty).1 n (fun j => va_rf ((mR M a j).map (am_rho b base)))) (fun h => by cases h) (by show ¬ (i < 0 ∨ (arrV _ _ _).slots.size ≤ _); rw [arrV_size]; exact hi) rfl rfl hd fun H1 e1 z oq => ?_
  refine kk p e s m args below meth c D cA b base H1 _ cells slots lsr E0 (am_H_set H0 hok rfl (fun x' hx' => am_ob_congr rfl rfl (mR_wR_n M _ _ hx')) ?_ z oq) L0 q1 q2
  rw [am_ob_q ht12 (show mT (wR M a i.toNatClampNeg none) a = (t, n) from hok.2.2)]
  show H1[_]? = some (vp_cell _ _)
  rw [e1, vp_cell_q, vp_cell_q, arrV_store, mR_wR_s]
  congr 2
  funext q
  by_cases hq : q = i.toNatClampNeg
  · subst hq
    simp [updV, va_up, va_rf]
  · simp [updV, va_up, hq]
/-- what a new cell gives back -/
theorem am_H_new {D : va_G} {cA : Nat → ClassId} {b base t n : Nat} {s : State} {H H1 : Heap} {locs : List Loc} (H0 : am_H X D cA b base s M H locs) (hat : va_at D vwCl (base + mN M, am_ob b base cA (wN M t n) (mN M + 1)) H1) (z : H1.size = H.size + 1) (oq : ∀ q, q < H.size → H1[q]? = H[q]?) : am_H X D cA b base s (wN M t n) H1 locs := by
  obtain ⟨hK, hP, hsz, hX, hb, hle, hS⟩ := H0
  refine ⟨hK, ?_, by rw [z, hsz, mN_wN]; omega, hX, hb, hle, ⟨Nat.le_trans hS.1 (by omega), fun x h1 h2 => (oq x (Nat.lt_of_lt_of_le h1 hS.1)).trans (hS.2.1 x h1 h2), hS.2.2⟩⟩
  rw [am_ws_push]
  refine (hP.kept (fun k x hx => oq x.1 ((hP k x hx).lt))).app (fun k x hx => ?_)
  have hz : k < 1 := (List.getElem?_eq_some_iff.mp hx).1
  rw [show k = 0 by omega] at hx
  cases hx
  exact hat
theorem r_new {index ci : Nat} {C : String} {T : u_T} {N : Nat} {ty : Nat → FieldType} (hc : am_cls ci C T N ty) (hl : Cond.classLink y.cls index C ∈ am_gw) (hi : Cond.instantiable C N ∈ am_gw) (hini : Cond.initialized C ∈ am_gw) (hbc : 1 ≤ bc) (hbs : N ≤ bs) (hd : decode cc pc = .ok (.new index, 3))
    (kk : am_V l y cc nL rt R mc ms X Post (bc - 1) (bs - N) (pc + 3) ls (.ref (mN M + 1) :: st) (wN M ci 0)) : am_V l y cc nL rt R mc ms X Post bc bs pc ls st M := by
  intro p e s m args below meth c D cA b base H locs cells slots lsr E0 H0 L0 q1 q2
  obtain ⟨hx, hb, -, -, -, ho, hmn, ht, hRc, hRs⟩ := id E0
  obtain ⟨⟨hK, -⟩, hP, hsz, -⟩ := id H0
  obtain ⟨h10, hv, hN, hty0, hin, hty, hnm, hdf⟩ := hc
  have hKn := hK.1 ci _ hv
  refine W.newcK hx hb ho (ht _ hl) (ht _ hi) (ht _ hini) rfl hd (by omega) (by omega) hKn.2.1 hsz fun H1 kC hkC e1 z1 o1 => ?_
  refine kk p e s m args below meth c D cA b base H1 locs (cells + 1) (slots + N) lsr E0 (am_H_new H0 ?_ (by rw [z1, hsz]) (fun q hq => o1 q (by rw [← hsz]; exact hq))) L0 (by omega) (by omega)
  rw [am_ob_o h10 (mT_wN_s M ci 0)]
  refine ⟨_, hv, (u_born ty ht hin hKn hkC e1 hty).to (fun k hk => ?_)⟩
  show defaultValue (ty k) = (am_fs b base (wN M ci 0) (mN M + 1) ci).getD k .null
  rw [List.getD_eq_getElem?_getD, am_fs_get _ _ _ _ _ (by omega)]
  show defaultValue (ty k) = am_fv b base (wN M ci 0) (mN M + 1) ci k
  rw [hdf k hk]
  unfold am_fv
  rw [mI_wN_s, mR_wN_s]
  rfl
theorem r_newaI {n : Int32} (hn : ¬ n < 0) (hsm : n.toNatClampNeg ≤ 100000) (har : Cond.arrayClass .int ∈ am_gw) (hbc : 1 ≤ bc) (hbs : n.toNatClampNeg ≤ bs) (hd : decode cc pc = .ok (.newarray .int, 2))
    (kk : am_V l y cc nL rt R mc ms X Post (bc - 1) (bs - n.toNatClampNeg) (pc + 2) ls (.ref (mN M + 1) :: st) (wN M 10 n.toNatClampNeg)) : am_V l y cc nL rt R mc ms X Post bc bs pc ls (.int n :: st) M := by
  intro p e s m args below meth c D cA b base H locs cells slots lsr E0 H0 L0 q1 q2
  obtain ⟨hx, hb, -, -, -, ho, hmn, ht, hRc, hRs⟩ := id E0
  obtain ⟨⟨hK, -⟩, hP, hsz, -⟩ := id H0
  refine va_newaK hx hb (atype := .int) (ht _ har) rfl hd rfl hn rfl (by show _ * 4 ≤ _; omega) (by omega) (by omega) hsz fun H1 cB e1 z1 o1 hAr hNm => ?_
  have hcA : cB = cA 10 := Option.some.inj (hNm.symm.trans (hK.2 0 _ rfl).2)
  subst hcA
  refine kk p e s m args below meth c D cA b base H1 locs (cells + 1) (slots + n.toNatClampNeg) lsr E0 (am_H_new H0 ?_ (by rw [z1, hsz]) (fun q hq => o1 q (by rw [← hsz]; exact hq))) L0 (by omega) (by omega)
  rw [am_ob_i (mT_wN_s M 10 _), mI_wN_s]
  exact e1
theorem r_newaZ {n : Int32} (hn : ¬ n < 0) (hsm : n.toNatClampNeg ≤ 100000) (har : Cond.arrayClass .boolean ∈ am_gw) (hbc : 1 ≤ bc) (hbs : n.toNatClampNeg ≤ bs) (hd : decode cc pc = .ok (.newarray .boolean, 2))
    (kk : am_V l y cc nL rt R mc ms X Post (bc - 1) (bs - n.toNatClampNeg) (pc + 2) ls (.ref (mN M + 1) :: st) (wN M 11 n.toNatClampNeg)) : am_V l y cc nL rt R mc ms X Post bc bs pc ls (.int n :: st) M := by
  intro p e s m args below meth c D cA b base H locs cells slots lsr E0 H0 L0 q1 q2
  obtain ⟨hx, hb, -, -, -, ho, hmn, ht, hRc, hRs⟩ := id E0
  obtain ⟨⟨hK, -⟩, hP, hsz, -⟩ := id H0
  refine va_newaK hx hb (atype := .boolean) (ht _ har) rfl hd rfl hn rfl (by show _ * 1 ≤ _; omega) (by omega) (by omega) hsz fun H1 cB e1 z1 o1 hAr hNm => ?_
  have hcA : cB = cA 11 := Option.some.inj (hNm.symm.trans (hK.2 1 _ rfl).2)
  subst hcA
  refine kk p e s m args below meth c D cA b base H1 locs (cells + 1) (slots + n.toNatClampNeg) lsr E0 (am_H_new H0 ?_ (by rw [z1, hsz]) (fun q hq => o1 q (by rw [← hsz]; exact hq))) L0 (by omega) (by omega)
  rw [am_ob_z (mT_wN_s M 11 _), mI_wN_s]
  exact e1
theorem r_anew {index t : Nat} {n : Int32} {C : String} (hC : (t = 12 ∧ C = RX3) ∨ (t = 13 ∧ C = RX6)) (hl : Cond.classLink y.cls index C ∈ am_gw) (hn : ¬ n < 0) (hsm : n.toNatClampNeg ≤ 100000) (hbc : 1 ≤ bc) (hbs : n.toNatClampNeg ≤ bs) (hd : decode cc pc = .ok (.anewarray index, 3))
    (kk : am_V l y cc nL rt R mc ms X Post (bc - 1) (bs - n.toNatClampNeg) (pc + 3) ls (.ref (mN M + 1) :: st) (wN M t n.toNatClampNeg)) : am_V l y cc nL rt R mc ms X Post bc bs pc ls (.int n :: st) M := by
  intro p e s m args below meth c D cA b base H locs cells slots lsr E0 H0 L0 q1 q2
  obtain ⟨hx, hb, -, -, -, ho, hmn, ht, hRc, hRs⟩ := id E0
  obtain ⟨⟨hK, -, hA3, hA6, -⟩, hP, hsz, -⟩ := id H0
  have hover : va_AO C s := by rcases hC with ⟨-, rfl⟩ | ⟨-, rfl⟩ <;> assumption
  have hfc : s.vm.findClass ("[" ++ (FieldType.object C).toString) = some (cA t) := by
    rcases hC with ⟨rfl, rfl⟩ | ⟨rfl, rfl⟩
    · exact (hK.2 2 _ rfl).2.choose_spec.choose_spec.2.2.2
    · exact (hK.2 3 _ rfl).2.choose_spec.choose_spec.2.2.2
  have ht12 : ¬ t < 12 := by rcases hC with ⟨rfl, -⟩ | ⟨rfl, -⟩ <;> decide
  refine W.anew hx hb ho (ht _ hl) (va_AO.use hover) rfl hd rfl hn (by omega) (by omega) (by omega) fun cB kA comp f1 f2 f3 f4 => ?_
  have hcA : cB = cA t := Option.some.inj (f1.symm.trans hfc)
  subst hcA
  generalize hH1 : H.push ({ cls := cA t, slots := Array.replicate n.toNatClampNeg .null, vm := .none } : Cell) = H1
  have z1 : H1.size = H.size + 1 := by rw [← hH1, Array.size_push]
  have e1 : H1[H.size]? = some (arrV (cA t) n.toNatClampNeg (fun _ => .null)) := by rw [← hH1, Array.getElem?_push_size, ← arrV_new]
  have o1 : ∀ q : Nat, q < H.size → H1[q]? = H[q]? := fun q hq => by rw [← hH1, Array.getElem?_push, if_neg (Nat.ne_of_lt hq)]
  have hk := kk p e s m args below meth c D cA b base H1 locs (cells + 1) (slots + n.toNatClampNeg) lsr E0 (am_H_new H0 (by
    rw [am_ob_q ht12 (mT_wN_s M t _), mR_wN_s]
    show H1[base + mN M]? = some (vp_cell _ _)
    rw [← hsz]
    exact e1) z1 o1) L0 (by omega) (by omega)
  have hr : am_rho b base (mN M + 1) = H.size := by rw [hsz]; rfl
  rw [List.map_cons, show am_tv b base (.ref (mN M + 1)) = .ref H.size by rw [← hr]; rfl] at hk
  exact hk
/-- answers -/
theorem r_vret (hr : rt = none) (hd : decode cc pc = .ok (.return_, 1)) (hp : Post none M) : am_V l y cc nL rt R mc ms X Post bc bs pc ls [] M := by
  intro p e s m args below meth c D cA b base H locs cells slots lsr E0 H0 L0 q1 q2
  obtain ⟨hx, hb, hrt, hlk, -⟩ := id E0
  obtain ⟨-, hP, hsz, -, -, -, hS⟩ := id H0
  refine W.widen (k := mc) (n := ms) (by omega) (by omega) ?_
  exact W.vret hx hb (by rw [hrt]; exact hr) (fun t ht hW => ⟨none, M, rfl, hp, by rw [ht]; exact hP, by rw [ht]; exact hsz, hS.F ht⟩) hS.2.2 hd hlk
theorem r_iret {v : Int32} (hr : rt = some .int ∨ (rt = some .boolean ∧ (v = 0 ∨ v = 1))) (hd : decode cc pc = .ok (.ireturn, 1)) (hp : Post (some (.int v)) M) : am_V l y cc nL rt R mc ms X Post bc bs pc ls [.int v] M := by
  intro p e s m args below meth c D cA b base H locs cells slots lsr E0 H0 L0 q1 q2
  obtain ⟨hx, hb, hrt, hlk, -⟩ := id E0
  obtain ⟨-, hP, hsz, -, -, -, hS⟩ := id H0
  refine W.widen (k := mc) (n := ms) (by omega) (by omega) ?_
  rcases hr with hr | ⟨hr, h01⟩
  · exact W.iret hx hb (by rw [hrt]; exact hr) (fun t ht hW => ⟨some (.int v), M, rfl, hp, by rw [ht]; exact hP, by rw [ht]; exact hsz, hS.F ht⟩) hS.2.2 hd hlk
  · exact W.zret hx hb (by rw [hrt]; exact hr) (by rcases h01 with rfl | rfl <;> rfl) (fun t ht hW => ⟨some (.int v), M, rfl, hp, by rw [ht]; exact hP, by rw [ht]; exact hsz, hS.F ht⟩) hS.2.2 hd hlk
theorem r_lret {v : Int64} (hr : rt = some .long) (hd : decode cc pc = .ok (.lreturn, 1)) (hp : Post (some (.long v)) M) : am_V l y cc nL rt R mc ms X Post bc bs pc ls [.long v] M := by
  intro p e s m args below meth c D cA b base H locs cells slots lsr E0 H0 L0 q1 q2
  obtain ⟨hx, hb, hrt, hlk, -⟩ := id E0
  obtain ⟨-, hP, hsz, -, -, -, hS⟩ := id H0
  refine W.widen (k := mc) (n := ms) (by omega) (by omega) ?_
  exact W.lret hx hb (by rw [hrt]; exact hr) (fun t ht hW => ⟨some (.long v), M, rfl, hp, by rw [ht]; exact hP, by rw [ht]; exact hsz, hS.F ht⟩) hS.2.2 hd hlk
theorem r_aret {r : Option Nat} (hr : (∃ n, rt = some (.object n)) ∨ ∃ t, rt = some (.array t)) (hd : decode cc pc = .ok (.areturn, 1)) (hp : Post (some (va_rf r)) M) : am_V l y cc nL rt R mc ms X Post bc bs pc ls [va_rf r] M := by
  intro p e s m args below meth c D cA b base H locs cells slots lsr E0 H0 L0 q1 q2
  obtain ⟨hx, hb, hrt, hlk, -⟩ := id E0
  obtain ⟨-, hP, hsz, -, -, -, hS⟩ := id H0
  refine W.widen (k := mc) (n := ms) (by omega) (by omega) ?_
  have hv : am_tv b base (va_rf r) = .null ∨ ∃ a, am_tv b base (va_rf r) = .ref a := by rw [am_tv_rf]; exact va_rf_or _
  rcases hr with ⟨n, hr⟩ | ⟨n, hr⟩
  · exact W.aret hx hb (by rw [hrt]; exact hr) (Or.inl ⟨n, rfl⟩) hv (fun t ht hW => ⟨some (va_rf r), M, rfl, hp, by rw [ht]; exact hP, by rw [ht]; exact hsz, hS.F ht⟩) hS.2.2 hd hlk
  · exact W.aret hx hb (by rw [hrt]; exact hr) (Or.inr ⟨n, rfl⟩) hv (fun t ht hW => ⟨some (va_rf r), M, rfl, hp, by rw [ht]; exact hP, by rw [ht]; exact hsz, hS.F ht⟩) hS.2.2 hd hlk
end AmArr
