/-! ROWS OF THE JDK's NATIVES: arraycopy and clone of ints -/
section AmJdk
variable {l : Launch} {y : MethodName} {cc : ByteArray} {nL : Nat} {rt : Option FieldType} {R : Room} {mc ms : Nat} {X : Nat × (Nat → Int32)} {Post : Option Value → am_M → Prop} {bc bs pc : Nat} {ls : List (Option Value)} {st : List Value} {M : am_M}
theorem r_castA {index a n : Nat} (hok : am_ok M a 10 n) (hl : Cond.classLink y.cls index "[I" ∈ am_gw) (hd : decode cc pc = .ok (.checkcast index, 3)) (kk : am_V l y cc nL rt R mc ms X Post bc bs (pc + 3) ls (.ref a :: st) M) : am_V l y cc nL rt R mc ms X Post bc bs pc ls (.ref a :: st) M := by
  intro p e s m args below meth c D cA b base H locs cells slots lsr E0 H0 L0 q1 q2
  obtain ⟨hx, hb, -, -, hml, ho, hmn, ht, hRc, hRs⟩ := id E0
  obtain ⟨⟨hK, -⟩, hP, -⟩ := id H0
  exact va_castA hx hb ho (ht _ hl) hP (a - 1) ((am_ws_at hok.1 hok.2.1).trans (by rw [am_ob_i hok.2.2])) (va_nm_int (hK.2 0 _ rfl).2) hd (kk p e s m args below meth c D cA b base H locs cells slots lsr E0 H0 L0 q1 q2)
/-- a copy of an array of ints as a new cell -/
def wC (M : am_M) (a n : Nat) : am_M := wF (wN M 10 n) (mN M + 1) (mI M a)
theorem am_ob_wC {b base : Nat} {cA : Nat → ClassId} (M : am_M) (a n : Nat) : am_ws b base cA (wC M a n) = am_ws b base cA M ++ [(base + mN M, .inl (cA 10, n, .inl (mI M a)))] := by
  apply List.ext_getElem?
  intro k
  by_cases hk : k < mN M
  · rw [List.getElem?_append_left (by rw [am_ws_len]; exact hk), am_ws_get b base cA M hk, am_ws_get b base cA (wC M a n) (by show k < mN M + 1; omega)]
    have hne : k + 1 ≠ mN M + 1 := by omega
    rw [am_ob_congr (M := M) (M' := wC M a n) (mT_wN_n M 10 n hne) ((mI_wF_n _ _ hne).trans (mI_wN_n M 10 n hne)) (mR_wN_n M 10 n hne)]
  · by_cases e : k = mN M
    · subst e
      rw [am_ws_get b base cA (wC M a n) (by show mN M < mN M + 1; omega), List.getElem?_append_right (by rw [am_ws_len]; exact Nat.le_refl _), am_ws_len, Nat.sub_self, am_ob_i (show mT (wC M a n) (mN M + 1) = (10, n) from mT_wN_s M 10 n), show mI (wC M a n) (mN M + 1) = mI M a from mI_wF_s _ _ _]
      rfl
    · rw [List.getElem?_eq_none (by rw [am_ws_len]; show mN M + 1 ≤ k; omega), List.getElem?_eq_none (by rw [List.length_append, am_ws_len]; simp; omega)]
theorem r_clone {index a n : Nat} (hok : am_ok M a 10 n) (hl : Cond.methodLink y.cls index ⟨"[I", "clone", "()Ljava/lang/Object;"⟩ ∈ am_gw) (hsm : Cond.sameMethod "[I" "java/lang/Object" "clone" "()Ljava/lang/Object;" ∈ am_gw) (hnt : Cond.native ⟨"java/lang/Object", "clone", "()Ljava/lang/Object;"⟩ ∈ am_gw) (hin : Cond.instanceMethod ⟨"java/lang/Object", "clone", "()Ljava/lang/Object;"⟩ ∈ am_gw) (hse : Cond.selects "[I" ⟨"[I", "clone", "()Ljava/lang/Object;"⟩ ⟨"java/lang/Object", "clone", "()Ljava/lang/Object;"⟩ ∈ am_gw)
    (hR : 1 ≤ R.frames ∧ (st.map fun v => v.category).sum + 14 ≤ R.locals) (hbc : 1 ≤ bc) (hbs : n ≤ bs) (hd : decode cc pc = .ok (.invokevirtual index, 3)) (kk : am_V l y cc nL rt R mc ms X Post (bc - 1) (bs - n) (pc + 3) ls (.ref (mN M + 1) :: st) (wC M a n)) : am_V l y cc nL rt R mc ms X Post bc bs pc ls (.ref a :: st) M := by
  intro p e s m args below meth c D cA b base H locs cells slots lsr E0 H0 L0 q1 q2
  obtain ⟨hx, hb, -, -, hml, ho, hmn, ht, hRc, hRs⟩ := id E0
  obtain ⟨⟨hK, -, -, -, hcl⟩, hP, hsz, hXX, hbb, hle, hS⟩ := id H0
  have hnm : s.vm.findClass "[I" = some (cA 10) := va_nm_int (hK.2 0 _ rfl).2
  have ha : (am_ws b base cA M)[a - 1]? = some (am_rho b base a, .inl (cA 10, n, .inl (mI M a))) := (am_ws_at hok.1 hok.2.1).trans (by rw [am_ob_i hok.2.2])
  obtain ⟨c0, t0', f1, f2, f3⟩ := Cond.castable_spec (va_Nw.use (A := args) rfl hcl)
  cases hnm.symm.trans f1
  intro T hT Y
  generalize hcell : vp_cell (cA 10) (n, .inl (mI M a)) = cell
  have hszc : cell.slots.size = n := by rw [← hcell]; exact arrV_size _ _ _
  have hvm0 : cell.vm = .none := by rw [← hcell]; rfl
  have hcl0 : cell.cls = cA 10 := by rw [← hcell]; rfl
  have hcellE : ({ cls := cell.cls, slots := cell.slots } : Cell) = cell := by rw [← hcell]; rfl
  have hcellT : T.heap[am_rho b base a]? = some cell := by rw [hT, ← hcell]; exact hP (a - 1) _ ha
  obtain ⟨-, kA, hkA, comp, hkind⟩ := State.isArrayOf_alike Y.warmed.alike ((hK.2 0 _ rfl).1 0 (fun _ => .null))
  obtain ⟨-, kS, hkS, compS, hkindS⟩ := (hK.2 0 _ rfl).1 0 (fun _ => .null)
  obtain ⟨vm', Y', stp⟩ := Y.cloneArray hx ho (ht _ hl) (ht _ hsm) (ht _ hnt) (ht _ hin) (ht _ hse) (a := am_rho b base a) (cell := cell) hcellT (fun k h => by rw [hvm0] at h; cases h) (by rw [hvm0]; exact fun h => by cases h) (by rw [hcl0]; exact hnm) f2 (by rw [hcl0]; exact f3)
    (fun i v hv => by
      rw [hcl0]
      have hk' : T.vm.classes[cA 10]? = some kA := hkA
      have hf : fits .int v = true := by
        rw [← hcell] at hv
        have hlt : i < n := by
          have := (Array.getElem?_eq_some_iff.mp hv).1
          rwa [vp_cell_i, arrV_size] at this
        rw [vp_cell_i, arrV_read _ _ hlt] at hv
        cases hv
        rfl
      simpa [State.fitsSlot, State.slotType?, hk', hkind] using hf)
    (g := F0 m pc lsr (.ref (am_rho b base a) :: st.map (am_tv b base))) rfl (by rw [hml]; exact L0.1) rfl (by rw [hb]; exact hd) hR.1 (by show 2 * 0 + _ + 14 ≤ _; rw [am_cats]; omega) (by omega) (by rw [hszc]; omega) (hloader := by rw [hcl0]; exact Vm.clonesLoader_of_array hkS hkindS)
  rw [hcellE, hszc] at Y'
  generalize hH1 : H.push cell = H1
  have z1 : H1.size = H.size + 1 := by rw [← hH1, Array.size_push]
  have e1 : H1[H.size]? = some cell := by rw [← hH1, Array.getElem?_push_size]
  have o1 : ∀ q : Nat, q < H.size → H1[q]? = H[q]? := fun q hq => by rw [← hH1, Array.getElem?_push, if_neg (Nat.ne_of_lt hq)]
  have H2 : am_H X D cA b base s (wC M a n) H1 locs := by
    refine ⟨H0.1, ?_, by rw [z1, hsz]; show _ = base + (mN M + 1); omega, hXX, hbb, hle, ⟨Nat.le_trans hS.1 (by omega), fun x h1 h2 => (o1 x (Nat.lt_of_lt_of_le h1 hS.1)).trans (hS.2.1 x h1 h2), hS.2.2⟩⟩
    rw [am_ob_wC]
    refine (hP.kept (fun k x hx => o1 x.1 ((hP k x hx).lt))).app (fun k x hx => ?_)
    have hz : k < 1 := (List.getElem?_eq_some_iff.mp hx).1
    rw [show k = 0 by omega] at hx
    cases hx
    show H1[base + mN M]? = some _
    rw [← hsz, e1, hcell]
  obtain ⟨t, b1, b2⟩ := kk p e s m args below meth c D cA b base H1 locs (cells + 1) (slots + n) lsr E0 H2 L0 (by omega) (by omega) ((T.setVm vm').pushCell cell) (by rw [← hH1, ← hT]; rfl) Y'
  refine ⟨t, stp t ?_, b2⟩
  rw [hcellE, hT]
  have hr : am_rho b base (mN M + 1) = H.size := by rw [hsz]; rfl
  rw [List.map_cons, show am_tv b base (.ref (mN M + 1)) = .ref H.size by rw [← hr]; rfl] at b1
  exact b1
theorem r_copyi {index a a0 n0 n1 : Nat} {sp dp n : Int32} (hok0 : am_ok M a0 10 n0) (hok : am_ok M a 10 n1) (hl : Cond.methodLink y.cls index arraycopyName ∈ am_gw) (hnt : Cond.native arraycopyName ∈ am_gw) (hs : Cond.static arraycopyName ∈ am_gw) (hi : Cond.initialized "java/lang/System" ∈ am_gw)
    (h1 : ¬ sp < 0) (h2 : ¬ dp < 0) (h3 : ¬ n < 0) (h4 : sp.toNatClampNeg + n.toNatClampNeg ≤ n0) (h5 : dp.toNatClampNeg + n.toNatClampNeg ≤ n1) (hR : 1 ≤ R.frames ∧ (st.map fun v => v.category).sum + 18 ≤ R.locals) (hd : decode cc pc = .ok (.invokestatic index, 3))
    (kk : am_V l y cc nL rt R mc ms X Post bc bs (pc + 3) ls st (wF M a (va_cpy (mI M a0) (mI M a) sp.toNatClampNeg dp.toNatClampNeg n.toNatClampNeg))) : am_V l y cc nL rt R mc ms X Post bc bs pc ls (.int n :: .int dp :: .ref a :: .int sp :: .ref a0 :: st) M := by
  intro p e s m args below meth c D cA b base H locs cells slots lsr E0 H0 L0 q1 q2
  obtain ⟨hx, hb, -, -, hml, ho, hmn, ht, hRc, hRs⟩ := id E0
  obtain ⟨⟨hK, -⟩, hP, hsz, hXX, hbb, hle, hS⟩ := id H0
  have nn : ∀ z : Int32, ¬ z < 0 → z.toInt = (z.toNatClampNeg : Int) := by
    intro z hz
    have hz0 : (0 : Int) ≤ z.toInt := by
      have := Int32.not_lt.mp hz
      simpa using Int32.le_iff_toInt_le.mp this
    show z.toInt = ((z.toInt.toNat : Nat) : Int)
    omega
  intro T hT Y
  have ha0 : (am_ws b base cA M)[a0 - 1]? = some (am_rho b base a0, .inl (cA 10, n0, .inl (mI M a0))) := (am_ws_at hok0.1 hok0.2.1).trans (by rw [am_ob_i hok0.2.2])
  have ha1 : (am_ws b base cA M)[a - 1]? = some (am_rho b base a, .inl (cA 10, n1, .inl (mI M a))) := (am_ws_at hok.1 hok.2.1).trans (by rw [am_ob_i hok.2.2])
  have hc0 : H[am_rho b base a0]? = some (vp_cell (cA 10) (n0, .inl (mI M a0))) := hP (a0 - 1) _ ha0
  have hc1 : H[am_rho b base a]? = some (vp_cell (cA 10) (n1, .inl (mI M a))) := hP (a - 1) _ ha1
  have hnw : nativeFrameWords "java/lang/System" "arraycopy" 5 = 7 := by decide
  obtain ⟨-, k0, hk0, cm0, hkk0⟩ := (hK.2 0 _ rfl).1 n0 (fun j => .int (mI M a0 j))
  obtain ⟨-, k1, hk1, cm1, hkk1⟩ := (hK.2 0 _ rfl).1 n1 (fun j => .int (mI M a j))
  obtain ⟨vm', Y', step⟩ := Y.arraycopy hx ho (ht _ hl) (ht _ hnt) (ht _ hs) (ht _ hi) (src := am_rho b base a0) (dst := am_rho b base a) (cs := vp_cell (cA 10) (n0, .inl (mI M a0))) (cd := vp_cell (cA 10) (n1, .inl (mI M a))) (srcPos := sp) (destPos := dp) (n := n) (by rw [hT]; exact hc0) (by rw [hT]; exact hc1)
    (fun _ h => by cases h) (fun _ h => by cases h) (fun h => by cases h) (fun h => by cases h) hk0 hk1 hkk0 hkk1 (by simp [refKind]) h1 h2 h3
    (by rw [nn sp h1, nn n h3]; show ¬ _ > ((arrV (cA 10) n0 (fun j => .int (mI M a0 j))).slots.size : Int); rw [arrV_size]; omega)
    (by rw [nn dp h2, nn n h3]; show ¬ _ > ((arrV (cA 10) n1 (fun j => .int (mI M a j))).slots.size : Int); rw [arrV_size]; omega)
    (fun vm₁ _ i hi => by
      have e : (vp_cell (cA 10) (n0, .inl (mI M a0))).slots.getD (sp.toNatClampNeg + i) .null = .int (mI M a0 (sp.toNatClampNeg + i)) := by
        show (arrV (cA 10) n0 (fun j => .int (mI M a0 j))).slots.getD _ _ = _
        rw [Array.getD_eq_getD_getElem?, arrV_read _ _ (by omega)]
        rfl
      refine ⟨?_, ?_⟩
      · rw [e]
        rfl
      · rw [e]
        exact trivial)
    (g := F0 m pc lsr (.int n :: .int dp :: .ref (am_rho b base a) :: .int sp :: .ref (am_rho b base a0) :: st.map (am_tv b base))) rfl (by rw [hml]; exact L0.1) (rest := st.map (am_tv b base)) rfl (by rw [hb]; exact hd) hR.1 (by show 2 * 0 + _ + (nativeFrameWords "java/lang/System" "arraycopy" 5 + 11) ≤ _; rw [am_cats, hnw]; omega)
  have e1 : copied (vp_cell (cA 10) (n0, .inl (mI M a0))) (vp_cell (cA 10) (n1, .inl (mI M a))) sp dp n = vp_cell (cA 10) (n1, .inl (va_cpy (mI M a0) (mI M a) sp.toNatClampNeg dp.toNatClampNeg n.toNatClampNeg)) := va_copied (fun z => .int z) (cA 10) (cA 10) (mI M a0) (mI M a) h4
  rw [e1] at Y' step
  generalize hf : va_cpy (mI M a0) (mI M a) sp.toNatClampNeg dp.toNatClampNeg n.toNatClampNeg = f at Y' step kk
  have hlt : am_rho b base a < H.size := (Array.getElem?_eq_some_iff.mp hc1).1
  have hheap : ((T.setVm vm').setCell (am_rho b base a) (vp_cell (cA 10) (n1, .inl f))).heap = H.setIfInBounds (am_rho b base a) (vp_cell (cA 10) (n1, .inl f)) := by rw [← hT]; rfl
  have oq : ∀ q : Nat, q ≠ am_rho b base a → (H.setIfInBounds (am_rho b base a) (vp_cell (cA 10) (n1, .inl f)))[q]? = H[q]? := fun q hq => by simp [Array.getElem?_setIfInBounds, Ne.symm hq]
  have hD := am_D b base cA M
  have hg : (am_ws b base cA M)[a - 1]? = some (am_rho b base a, am_ob b base cA M a) := am_ws_at hok.1 hok.2.1
  obtain ⟨t, a1, b1⟩ := kk p e s m args below meth c D cA b base _ _ cells slots lsr E0 ⟨H0.1, by
      rw [am_ws_set (M' := wF M a f) hok.1 hok.2.1 rfl (fun x hx => am_ob_congr rfl (mI_wF_n _ _ hx) rfl), am_ob_i (show mT (wF M a f) a = (10, n1) from hok.2.2), mI_wF_s]
      exact hP.set hD hg (show (H.setIfInBounds (am_rho b base a) _)[am_rho b base a]? = some _ by simp [Array.getElem?_setIfInBounds, hlt]) oq, by simp; exact hsz, hXX, hbb, hle, ⟨by simp; exact hS.1, fun q g1 g2 => by
      rw [oq q (fun e => g2 (by rw [e]; exact hD.2 (a - 1) _ hg))]
      exact hS.2.1 q g1 g2, fun q hq => by
      rcases List.mem_append.mp hq with h | h
      · exact hS.2.2 q h
      · obtain ⟨z, -, hz⟩ := List.mem_map.mp h
        rw [← hz]
        exact hD.2 (a - 1) _ hg⟩⟩ L0 q1 q2 _ hheap Y'
  exact ⟨t, step t a1, b1⟩
end AmJdk
