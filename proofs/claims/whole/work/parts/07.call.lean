/-! ROWS OF CALLS -/
section AmCall
variable {l : Launch} {y : MethodName} {cc : ByteArray} {nL : Nat} {rt : Option FieldType} {R : Room} {mc ms : Nat} {X : Nat × (Nat → Int32)} {Post : Option Value → am_M → Prop} {bc bs pc : Nat} {ls : List (Option Value)} {st : List Value} {M : am_M}
/-- what the caller goes on with, behind any call -/
theorem am_after {p : Program} {e : Env} {s : State} {m : MethodId} {args : Array Value} {below : List Frame} {meth : Method} {c : Code} {D : va_G} {cA : Nat → ClassId} {b base : Nat} {H : Heap} {locs : List Loc} {cells slots mc' ms' : Nat} {lsr : Array Slot} {st0 rest : List Value} {Post' : Option Value → am_M → Prop} {a : Array Value}
    (E0 : am_E y cc nL rt R mc ms p s m args meth c) (H0 : am_H X D cA b base s M H locs) (L0 : am_L b base nL lsr ls) (q1 : cells + bc ≤ mc) (q2 : slots + bs ≤ ms) (hbc : mc' ≤ bc) (hbs : ms' ≤ bs)
    (hr : va_Run p l e R s m args below meth c H locs cells slots mc' ms' (F0 m pc lsr st0) (rest.map (am_tv b base)) (am_Q D cA b base Post' a) (fun q => base ≤ q))
    (kk : ∀ v M', Post' v M' → am_V l y cc nL rt R mc ms X Post (bc - mc') (bs - ms') (pc + 3) ls (v.toList ++ rest) M') : W p l e R s m args below meth c H locs cells slots (MQ below (am_Q D cA b base Post) args s mc ms (fun q => base ≤ q)) (F0 m pc lsr st0) := by
  intro T hT Y
  obtain ⟨v, st₀, t, T', L, hst, Y', hL, e1, e2, ⟨w, M', ho, hp, hP', hsz', hF⟩, go⟩ := hr T hT Y
  obtain ⟨hK, hP, hsz, hX, hb, hle, hS⟩ := H0
  have hv : v = w.map (am_tv b base) := by simpa using ho
  subst hv
  have H1 : am_H X D cA b base s M' T'.heap (locs ++ L) := by
    refine ⟨hK, by rw [e1]; exact hP', by rw [e1]; exact hsz', hX, hb, hle, ?_, ?_, ?_⟩
    · rw [e1]
      have := hF.1
      rw [hst] at this
      exact Nat.le_trans hS.1 this
    · intro q hq hA
      rw [e1]
      have h2 := hF.2 q (by rw [hst]; exact Nat.lt_of_lt_of_le hq hS.1) hA
      rw [hst] at h2
      exact h2.trans (hS.2.1 q hq hA)
    · intro q hq
      rcases List.mem_append.mp hq with h | h
      · exact hS.2.2 q h
      · exact hL q h
  obtain ⟨t2, a1, b1⟩ := kk w M' hp p e s m args below meth c D cA b base T'.heap (locs ++ L) (cells + mc') (slots + ms') lsr E0 H1 L0 (by omega) (by omega) T' rfl Y'
  refine ⟨t2, go t2 ?_, b1⟩
  have e3 : (w.map (am_tv b base)).toList ++ rest.map (am_tv b base) = (w.toList ++ rest).map (am_tv b base) := by cases w <;> simp
  rw [e3]
  exact a1
theorem am_Pc_blind {D : va_G} {cA : Nat → ClassId} {b base : Nat} {As : List Value} : FrameBlind (va_Pc (As.map (am_tv b base)) (fun U => am_K D cA U ∧ va_P D vwCl (am_ws b base cA M) U.heap ∧ U.heap.size = base + mN M ∧ va_X b X.1 X.2 U U.heap ∧ b < base)) := by
  intro a U g mk ⟨h0, hK, hP, hsz, hX, hb⟩
  exact ⟨h0, hK.same rfl, hP, hsz, hX, hb⟩
theorem am_Pc_in {D : va_G} {cA : Nat → ClassId} {b base : Nat} {s U : State} {H : Heap} {locs : List Loc} {As : List Value} (H0 : am_H X D cA b base s M H locs) (hU : U.heap = H) (hW : s.WarmedH U.vm) : va_Pc (As.map (am_tv b base)) (fun U => am_K D cA U ∧ va_P D vwCl (am_ws b base cA M) U.heap ∧ U.heap.size = base + mN M ∧ va_X b X.1 X.2 U U.heap ∧ b < base) (As.map (am_tv b base)).toArray U := by
  obtain ⟨hK, hP, hsz, hX, hb, hle, hS⟩ := H0
  refine ⟨rfl, hK.warm hW, by rw [hU]; exact hP, by rw [hU]; exact hsz, ?_, hb⟩
  have h1 : va_X b X.1 X.2 s U.heap := hX.kept (by rw [hU]; exact hS.2.1 b (Nat.lt_of_lt_of_le hb hle) (Nat.not_le.mpr hb))
  exact h1.moved hW.alike
theorem am_rev {b base : Nat} (As : List Value) (rest : List Value) : (As.reverse ++ rest).map (am_tv b base) = (As.map (am_tv b base)).reverse ++ rest.map (am_tv b base) := by simp
theorem am_rm {b base : Nat} {m : MethodId} {lsr : Array Slot} {st0 : List Value} (rest : List Value) (h : (rest.map fun v => v.category).sum ≤ 8) : 2 * (F0 m pc lsr st0).monitorRoom + ((rest.map (am_tv b base)).map fun v => v.category).sum ≤ 8 := by
  have e : ((rest.map (am_tv b base)).map fun v => v.category) = rest.map fun v => v.category := by
    rw [List.map_map]
    exact List.map_congr_left (fun v _ => am_tv_cat b base v)
  rw [e]
  exact lv_room h
/-- the words of a callee -/
def am_cal (y' : MethodName) (cc' : ByteArray) (nL' : Nat) (rt' : Option FieldType) (n : Nat) : Prop := Cond.code y' cc' nL' rt' ∈ am_gw ∧ Cond.initialized y'.cls ∈ am_gw ∧ (y'.cls ≠ "java/lang/invoke/MethodHandle" ∧ y'.cls ≠ "java/lang/invoke/VarHandle" ∧ (parseMethodDescriptor y'.desc).map (fun d => d.parameters.length) = some n)
theorem am_good {y' : MethodName} {cc' : ByteArray} {nL' : Nat} {rt' : Option FieldType} {n : Nat} (h : am_cal y' cc' nL' rt' n) : GoodIn am_gw (Cond.code y' cc' nL' rt' :: am_gw) := by
  intro w hw
  rcases List.mem_cons.mp hw with rfl | hw
  · exact am_gw_good _ h.1
  · exact am_gw_good _ hw
theorem r_callV {y' : MethodName} {cc' : ByteArray} {nL' index d' mc' ms' a ci n0 : Nat} {rt' : Option FieldType} {As rest : List Value} {Post' : Option Value → am_M → Prop} {T : u_T} {N : Nat} (hcal : am_cal y' cc' nL' rt' As.length) (hl : Cond.methodLink y.cls index y' ∈ am_gw) (hi : Cond.instanceMethod y' ∈ am_gw) (hs : Cond.selects y'.cls y' y' ∈ am_gw) (hci : ci < 10) (hvw : vwCl[ci]? = some (y'.cls, T, N))
    (hok : am_ok M a ci n0) (hC : am_C l y' cc' nL' rt' d' mc' ms' X (.ref a :: As) M Post') (hR : d' + 1 ≤ R.frames ∧ 8 + (nL' + 11) + 38 * d' ≤ R.locals) (hbc : mc' ≤ bc) (hbs : ms' ≤ bs) (hst : As.reverse ++ .ref a :: rest = st) (hW : (rest.map fun v => v.category).sum ≤ 8) (hd : decode cc pc = .ok (.invokevirtual index, 3))
    (kk : ∀ v M', Post' v M' → am_V l y cc nL rt R mc ms X Post (bc - mc') (bs - ms') (pc + 3) ls (v.toList ++ rest) M') : am_V l y cc nL rt R mc ms X Post bc bs pc ls st M := by
  intro p e s m args below meth c D cA b base H locs cells slots lsr E0 H0 L0 q1 q2
  obtain ⟨hx, hb, -, -, hml, ho, hmn, ht, hRc, hRs⟩ := id E0
  obtain ⟨⟨hK, -⟩, hP, -⟩ := id H0
  subst hst
  refine am_after (rest := rest) (a := (Value.ref (am_rho b base a) :: As.map (am_tv b base)).toArray) E0 H0 L0 q1 q2 hbc hbs ?_ kk
  refine va_runV (As := As.map (am_tv b base)) (b := am_rho b base a) (C := y'.cls) (n := As.length) ⟨hx, hb, hml, ho, ht⟩ (hC D cA b base) ⟨callB_of _ ht (am_good hcal) rfl rfl rfl (ht _ hcal.2.1) (ht _ hl) hcal.2.2 hR, ht _ hi, ht _ hs⟩ ⟨am_Pc_blind, va_recv hK hP hvw (am_P_ob hP hok hci), fun U hU hW => am_Pc_in (As := .ref a :: As) H0 hU hW⟩ rfl (by simp) L0.1 ?_ (am_rm rest hW) hd ⟨by omega, by omega⟩
  simp [am_tv]
theorem r_callS {y' : MethodName} {cc' : ByteArray} {nL' index d' mc' ms' : Nat} {rt' : Option FieldType} {As rest : List Value} {Post' : Option Value → am_M → Prop} (hcal : am_cal y' cc' nL' rt' As.length) (hl : Cond.methodLink y.cls index y' ∈ am_gw) (hi : Cond.static y' ∈ am_gw)
    (hC : am_C l y' cc' nL' rt' d' mc' ms' X As M Post') (hR : d' + 1 ≤ R.frames ∧ 8 + (nL' + 11) + 38 * d' ≤ R.locals) (hbc : mc' ≤ bc) (hbs : ms' ≤ bs) (hst : As.reverse ++ rest = st) (hW : (rest.map fun v => v.category).sum ≤ 8) (hd : decode cc pc = .ok (.invokestatic index, 3))
    (kk : ∀ v M', Post' v M' → am_V l y cc nL rt R mc ms X Post (bc - mc') (bs - ms') (pc + 3) ls (v.toList ++ rest) M') : am_V l y cc nL rt R mc ms X Post bc bs pc ls st M := by
  intro p e s m args below meth c D cA b base H locs cells slots lsr E0 H0 L0 q1 q2
  obtain ⟨hx, hb, -, -, hml, ho, hmn, ht, hRc, hRs⟩ := id E0
  subst hst
  refine am_after (rest := rest) (a := (As.map (am_tv b base)).toArray) E0 H0 L0 q1 q2 hbc hbs ?_ kk
  refine va_runS (As := As.map (am_tv b base)) (n := As.length) ⟨hx, hb, hml, ho, ht⟩ (hC D cA b base) ⟨callB_of _ ht (am_good hcal) rfl rfl rfl (ht _ hcal.2.1) (ht _ hl) hcal.2.2 hR, ht _ hi⟩ ⟨am_Pc_blind, fun U hU hW => am_Pc_in (As := As) H0 hU hW⟩ rfl (by simp) L0.1 ?_ (am_rm rest hW) hd ⟨by omega, by omega⟩
  simp
theorem r_callSN {y' : MethodName} {cc' : ByteArray} {nL' index d' mc' ms' : Nat} {host : String} {rt' : Option FieldType} {As rest : List Value} {Post' : Option Value → am_M → Prop} (hcal : am_cal y' cc' nL' rt' As.length) (hl : (y.cls, index, y', host) ∈ am_nk) (hi : Cond.static y' ∈ am_gw)
    (hC : am_C l y' cc' nL' rt' d' mc' ms' X As M Post') (hR : d' + 1 ≤ R.frames ∧ 8 + (nL' + 11) + 38 * d' ≤ R.locals) (hbc : mc' ≤ bc) (hbs : ms' ≤ bs) (hst : As.reverse ++ rest = st) (hW : (rest.map fun v => v.category).sum ≤ 8) (hd : decode cc pc = .ok (.invokestatic index, 3))
    (kk : ∀ v M', Post' v M' → am_V l y cc nL rt R mc ms X Post (bc - mc') (bs - ms') (pc + 3) ls (v.toList ++ rest) M') : am_V l y cc nL rt R mc ms X Post bc bs pc ls st M := by
  intro p e s m args below meth c D cA b base H locs cells slots lsr E0 H0 L0 q1 q2
  obtain ⟨hx, hb, -, -, hml, ho, hmn, ht, hRc, hRs⟩ := id E0
  obtain ⟨⟨-, hNk, -⟩, -⟩ := id H0
  subst hst
  refine am_after (rest := rest) (a := (As.map (am_tv b base)).toArray) E0 H0 L0 q1 q2 hbc hbs ?_ kk
  refine va_runSN (As := As.map (am_tv b base)) (n := As.length) ⟨hx, hb, hml, ho, ht⟩ (hC D cA b base) ⟨va_cnB _ ht (am_good hcal) rfl rfl rfl (hNk _ hl) (ht _ hcal.2.1) hcal.2.2 hR, ht _ hi, trivial⟩ ⟨am_Pc_blind, fun U hU hW => am_Pc_in (As := As) H0 hU hW⟩ rfl (by simp) L0.1 ?_ (am_rm rest hW) hd ⟨by omega, by omega⟩
  simp
theorem r_callI {y' : MethodName} {cc' : ByteArray} {nL' index d' mc' ms' a : Nat} {As rest : List Value} {Post' : Option Value → am_M → Prop} (hcal : am_cal y' cc' nL' none As.length) (hl : Cond.methodLink y.cls index y' ∈ am_gw) (hi : Cond.instanceMethod y' ∈ am_gw) (hn : y'.name = "<init>")
    (hC : am_C l y' cc' nL' none d' mc' ms' X (.ref a :: As) M Post') (hR : d' + 1 ≤ R.frames ∧ 8 + (nL' + 11) + 38 * d' ≤ R.locals) (hbc : mc' ≤ bc) (hbs : ms' ≤ bs) (hst : As.reverse ++ .ref a :: rest = st) (hW : (rest.map fun v => v.category).sum ≤ 8) (hd : decode cc pc = .ok (.invokespecial index, 3))
    (kk : ∀ v M', Post' v M' → am_V l y cc nL rt R mc ms X Post (bc - mc') (bs - ms') (pc + 3) ls (v.toList ++ rest) M') : am_V l y cc nL rt R mc ms X Post bc bs pc ls st M := by
  intro p e s m args below meth c D cA b base H locs cells slots lsr E0 H0 L0 q1 q2
  obtain ⟨hx, hb, -, -, hml, ho, hmn, ht, hRc, hRs⟩ := id E0
  subst hst
  refine am_after (rest := rest) (a := (Value.ref (am_rho b base a) :: As.map (am_tv b base)).toArray) E0 H0 L0 q1 q2 hbc hbs ?_ kk
  refine va_runI (As := As.map (am_tv b base)) (b := am_rho b base a) (n := As.length) ⟨hx, hb, hml, ho, ht⟩ (hC D cA b base) ⟨callB_of _ ht (am_good hcal) rfl rfl rfl (ht _ hcal.2.1) (ht _ hl) hcal.2.2 hR, hn, ht _ hi⟩ ⟨am_Pc_blind, fun U hU hW => am_Pc_in (As := .ref a :: As) H0 hU hW⟩ rfl (by simp) L0.1 ?_ (am_rm rest hW) hd ⟨by omega, by omega⟩
  simp [am_tv]
theorem r_callIN {y' : MethodName} {cc' : ByteArray} {nL' index d' mc' ms' a : Nat} {host : String} {As rest : List Value} {Post' : Option Value → am_M → Prop} (hcal : am_cal y' cc' nL' none As.length) (hl : (y.cls, index, y', host) ∈ am_nk) (hi : Cond.instanceMethod y' ∈ am_gw) (hn : y'.name = "<init>")
    (hC : am_C l y' cc' nL' none d' mc' ms' X (.ref a :: As) M Post') (hR : d' + 1 ≤ R.frames ∧ 8 + (nL' + 11) + 38 * d' ≤ R.locals) (hbc : mc' ≤ bc) (hbs : ms' ≤ bs) (hst : As.reverse ++ .ref a :: rest = st) (hW : (rest.map fun v => v.category).sum ≤ 8) (hd : decode cc pc = .ok (.invokespecial index, 3))
    (kk : ∀ v M', Post' v M' → am_V l y cc nL rt R mc ms X Post (bc - mc') (bs - ms') (pc + 3) ls (v.toList ++ rest) M') : am_V l y cc nL rt R mc ms X Post bc bs pc ls st M := by
  intro p e s m args below meth c D cA b base H locs cells slots lsr E0 H0 L0 q1 q2
  obtain ⟨hx, hb, -, -, hml, ho, hmn, ht, hRc, hRs⟩ := id E0
  obtain ⟨⟨-, hNk, -⟩, -⟩ := id H0
  subst hst
  refine am_after (rest := rest) (a := (Value.ref (am_rho b base a) :: As.map (am_tv b base)).toArray) E0 H0 L0 q1 q2 hbc hbs ?_ kk
  refine va_runIN (As := As.map (am_tv b base)) (b := am_rho b base a) (n := As.length) ⟨hx, hb, hml, ho, ht⟩ (hC D cA b base) ⟨va_cnB _ ht (am_good hcal) rfl rfl rfl (hNk _ hl) (ht _ hcal.2.1) hcal.2.2 hR, hn, ht _ hi⟩ ⟨am_Pc_blind, fun U hU hW => am_Pc_in (As := .ref a :: As) H0 hU hW⟩ rfl (by simp) L0.1 ?_ (am_rm rest hW) hd ⟨by omega, by omega⟩
  simp [am_tv]
theorem am_cats {b base : Nat} (rest : List Value) : ((rest.map (am_tv b base)).map fun v => v.category).sum = (rest.map fun v => v.category).sum := by
  rw [List.map_map]
  exact congrArg List.sum (List.map_congr_left (fun v _ => am_tv_cat b base v))
theorem r_objInit {idx a : Nat} (hl : Cond.methodLink y.cls idx Lib.objectInit ∈ am_gw) (hi : Cond.instanceMethod Lib.objectInit ∈ am_gw) (hc : Cond.code Lib.objectInit ⟨#[0xb1]⟩ 1 none ∈ am_gw) (hR : 1 ≤ R.frames ∧ (st.map fun v => v.category).sum + 12 ≤ R.locals) (hd : decode cc pc = .ok (.invokespecial idx, 3))
    (kk : am_V l y cc nL rt R mc ms X Post bc bs (pc + 3) ls st M) : am_V l y cc nL rt R mc ms X Post bc bs pc ls (.ref a :: st) M := by
  intro p e s m args below meth c D cA b base H locs cells slots lsr E0 H0 L0 q1 q2
  obtain ⟨hx, hb, -, -, hml, ho, hmn, ht, hRc, hRs⟩ := id E0
  exact W.objInit hx hb ho (ht _ hl) (ht _ hi) (ht _ hc) rfl (by rw [hml]; exact L0.1) rfl hd hR.1 (by show 2 * 0 + _ + 12 ≤ _; rw [am_cats]; omega) (kk p e s m args below meth c D cA b base H locs cells slots lsr E0 H0 L0 q1 q2)
theorem r_mmax {index : Nat} {a z : Int32} (hl : Cond.methodLink y.cls index Lib.Math.max.name ∈ am_gw) (hs : Cond.static Lib.Math.max.name ∈ am_gw) (hi : Cond.initialized "java/lang/Math" ∈ am_gw) (hc : Cond.code Lib.Math.max.name Lib.Math.max.code 2 (some .int) ∈ am_gw) (hR : 1 ≤ R.frames ∧ (st.map fun v => v.category).sum + 13 ≤ R.locals) (hd : decode cc pc = .ok (.invokestatic index, 3))
    (kk : am_V l y cc nL rt R mc ms X Post bc bs (pc + 3) ls (.int (if a < z then z else a) :: st) M) : am_V l y cc nL rt R mc ms X Post bc bs pc ls (.int z :: .int a :: st) M := by
  intro p e s m args below meth c D cA b base H locs cells slots lsr E0 H0 L0 q1 q2
  obtain ⟨hx, hb, -, -, hml, ho, hmn, ht, hRc, hRs⟩ := id E0
  exact va_mmax hx hb (by rw [hml]; exact L0.1.symm) ho (ht _ hl) (ht _ hs) (ht _ hi) (ht _ hc) hR.1 (by rw [am_cats]; exact hR.2) (by omega) (by omega) hd (kk p e s m args below meth c D cA b base H locs cells slots lsr E0 H0 L0 q1 q2)
theorem r_mmin {index : Nat} {a z : Int32} (hl : Cond.methodLink y.cls index Lib.Math.min.name ∈ am_gw) (hs : Cond.static Lib.Math.min.name ∈ am_gw) (hi : Cond.initialized "java/lang/Math" ∈ am_gw) (hc : Cond.code Lib.Math.min.name Lib.Math.min.code 2 (some .int) ∈ am_gw) (hR : 1 ≤ R.frames ∧ (st.map fun v => v.category).sum + 13 ≤ R.locals) (hd : decode cc pc = .ok (.invokestatic index, 3))
    (kk : am_V l y cc nL rt R mc ms X Post bc bs (pc + 3) ls (.int (if z < a then z else a) :: st) M) : am_V l y cc nL rt R mc ms X Post bc bs pc ls (.int z :: .int a :: st) M := by
  intro p e s m args below meth c D cA b base H locs cells slots lsr E0 H0 L0 q1 q2
  obtain ⟨hx, hb, -, -, hml, ho, hmn, ht, hRc, hRs⟩ := id E0
  exact va_mmin hx hb (by rw [hml]; exact L0.1.symm) ho (ht _ hl) (ht _ hs) (ht _ hi) (ht _ hc) hR.1 (by rw [am_cats]; exact hR.2) (by omega) (by omega) hd (kk p e s m args below meth c D cA b base H locs cells slots lsr E0 H0 L0 q1 q2)
end AmCall
