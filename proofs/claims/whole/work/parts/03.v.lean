/-! THE JUDGEMENT OVER THE TYPED MEMORY -/
def am_gw : List Cond := lw_tbl.filter goodWord
theorem am_gw_lw {w : Cond} (h : w ∈ lw_tbl) (hg : goodWord w = true) : w ∈ am_gw := List.mem_filter.mpr ⟨h, hg⟩
theorem am_gw_good : GoodIn am_gw am_gw := fun w h => ⟨h, good_of_word (List.mem_filter.mp h).2⟩
def am_nk : List (String × Nat × MethodName × String) := [(RX8, 11, yX1_init, RX8), (RX8, 20, yX7_init, RX8), (RX8, 30, yX2_init, RX8), (RX8, 37, yX0_init, RX8), (RX8, 44, yX5_init, RX8), (RX8, 59, yX6_init, RX8), (RX6, 22, yX4_init, RX8), (RX4, 11, yX7_init, RX8), (RX0, 62, yX8_fold, RX8), (RX2, 22, yX8_fold, RX8)]
def am_K (D : va_G) (cA : Nat → ClassId) (U : State) : Prop := va_K D vwCl (am_tys cA) U ∧ (∀ q ∈ am_nk, va_Nw (.methodLinkNest q.1 q.2.1 q.2.2.1 q.2.2.2) U) ∧ va_AO RX3 U ∧ va_AO RX6 U ∧ va_Nw (.castable "[I" "java/lang/Cloneable") U
theorem am_K.warm {D : va_G} {cA : Nat → ClassId} {s U : State} (hW : s.WarmedH U.vm) (h : am_K D cA s) : am_K D cA U := ⟨va_K.moved hW.alike h.1, fun q hq => (h.2.1 q hq).warmM hW, h.2.2.1.moved hW.alike, h.2.2.2.1.moved hW.alike, h.2.2.2.2.warmC hW⟩
theorem am_K.same {D : va_G} {cA : Nat → ClassId} {s U : State} (hv : s.vm = U.vm) (h : am_K D cA s) : am_K D cA U := ⟨va_K.moved (by rw [hv]; exact Vm.Alike.refl _) h.1, fun q hq => (h.2.1 q hq).same rfl hv, h.2.2.1.moved (by rw [hv]; exact Vm.Alike.refl _), h.2.2.2.1.moved (by rw [hv]; exact Vm.Alike.refl _), h.2.2.2.2.same rfl hv⟩
def am_E (y : MethodName) (cc : ByteArray) (nL : Nat) (rt : Option FieldType) (R : Room) (mc ms : Nat) (p : Program) (s : State) (m : MethodId) (args : Array Value) (meth : Method) (c : Code) : Prop :=
  p.tables.exec = Jvm.exec ∧ c.code = cc ∧ meth.sig.returnType = rt ∧ meth.locks = false ∧ c.maxLocals = nL ∧ s.vm.findClass y.cls = some m.cls ∧ (y.name = "<init>" → meth.name = "<init>") ∧ (∀ w ∈ am_gw, w.before args s = true) ∧ mc ≤ R.cells ∧ ms ≤ R.slots
def am_H (X : Nat × (Nat → Int32)) (D : va_G) (cA : Nat → ClassId) (b base : Nat) (s : State) (M : am_M) (H : Heap) (locs : List Loc) : Prop :=
  am_K D cA s ∧ va_P D vwCl (am_ws b base cA M) H ∧ H.size = base + mN M ∧ va_X b X.1 X.2 s s.heap ∧ b < base ∧ base ≤ s.heap.size ∧ va_S (fun q => base ≤ q) s.heap H locs
def am_L (b base nL : Nat) (lsr : Array Slot) (ls : List (Option Value)) : Prop := lsr.size = nL ∧ lv_wf lsr ∧ ∀ (i : Nat) (v : Value), ls[i]? = some (some v) → lsr[i]? = some (.val (am_tv b base v)) ∧ v.category = 1
def am_Q (D : va_G) (cA : Nat → ClassId) (b base : Nat) (Post : Option Value → am_M → Prop) : Array Value → State → Outcome → State → Prop := fun _ st o t => ∃ (v : Option Value) (M' : am_M), o = .returned (v.map (am_tv b base)) ∧ Post v M' ∧ va_P D vwCl (am_ws b base cA M') t.heap ∧ t.heap.size = base + mN M' ∧ va_F (fun q => base ≤ q) st t
/-- where the machine stands: method y (its bytes cc, nL locals, answer rt) in the room R, of which bc cells and bs slots are left; at pc, with these locals and stack, over the memory M; it will end with Post -/
def am_V (l : Launch) (y : MethodName) (cc : ByteArray) (nL : Nat) (rt : Option FieldType) (R : Room) (mc ms : Nat) (X : Nat × (Nat → Int32)) (Post : Option Value → am_M → Prop) (bc bs pc : Nat) (ls : List (Option Value)) (st : List Value) (M : am_M) : Prop :=
  ∀ (p : Program) (e : Env) (s : State) (m : MethodId) (args : Array Value) (below : List Frame) (meth : Method) (c : Code) (D : va_G) (cA : Nat → ClassId) (b base : Nat) (H : Heap) (locs : List Loc) (cells slots : Nat) (lsr : Array Slot),
    am_E y cc nL rt R mc ms p s m args meth c → am_H X D cA b base s M H locs → am_L b base nL lsr ls → cells + bc ≤ mc → slots + bs ≤ ms →
    W p l e R s m args below meth c H locs cells slots (MQ below (am_Q D cA b base Post) args s mc ms (fun q => base ≤ q)) (F0 m pc lsr (st.map (am_tv b base)))
def am_R (d mc ms : Nat) : Room := { frames := d, cells := mc, slots := ms, locals := 38 * d }
/-- the contract of a method for these arguments over this memory -/
def am_C (l : Launch) (y : MethodName) (cc : ByteArray) (nL : Nat) (rt : Option FieldType) (d mc ms : Nat) (X : Nat × (Nat → Int32)) (As : List Value) (M : am_M) (Post : Option Value → am_M → Prop) : Prop :=
  ∀ (D : va_G) (cA : Nat → ClassId) (b base : Nat), Met l y (Cond.code y cc nL rt :: am_gw) (am_R d mc ms) (va_Pc (As.map (am_tv b base)) (fun U => am_K D cA U ∧ va_P D vwCl (am_ws b base cA M) U.heap ∧ U.heap.size = base + mN M ∧ va_X b X.1 X.2 U U.heap ∧ b < base)) (am_Q D cA b base Post) mc ms (fun q => base ≤ q)
theorem am_lvargs {vs : List Value} (hc : ∀ v ∈ vs, v.category = 1) : ∀ (k i : Nat) (v : Value), vs[i]? = some v → (k + i, v) ∈ lv_args k vs := by
  induction vs with
  | nil => intro k i v h; simp at h
  | cons a t ih =>
    intro k i v h
    have ha : ¬ a.category = 2 := by rw [hc a List.mem_cons_self]; omega
    cases i with
    | zero =>
      simp at h
      subst h
      exact List.mem_cons_self
    | succ i =>
      simp at h
      have := ih (fun w hw => hc w (List.mem_cons_of_mem _ hw)) (k + 1) i v h
      unfold lv_args
      rw [if_neg ha]
      refine List.mem_cons_of_mem _ ?_
      rw [show k + (i + 1) = k + 1 + i by omega]
      exact this
theorem am_slen {vs : List Value} (hc : ∀ v ∈ vs, v.category = 1) : (lg_sl vs).length = vs.length := by
  induction vs with
  | nil => rfl
  | cons a t ih =>
    have ha : ¬ a.category = 2 := by rw [hc a List.mem_cons_self]; omega
    have := ih (fun w hw => hc w (List.mem_cons_of_mem _ hw))
    simp only [lg_sl, List.flatMap_cons, if_neg ha] at this ⊢
    simp [this]
theorem am_entry {b base nL : Nat} {As : List Value} (hc : ∀ v ∈ As, v.category = 1) (hn : As.length ≤ nL) : am_L b base nL ((lg_sl (As.map (am_tv b base)) ++ List.replicate (nL - (lg_sl (As.map (am_tv b base))).length) Slot.unset).toArray) (As.map some) := by
  have hc' : ∀ v ∈ As.map (am_tv b base), v.category = 1 := by
    intro v hv
    obtain ⟨w, hw, rfl⟩ := List.mem_map.mp hv
    rw [am_tv_cat]
    exact hc w hw
  have h := lv_entry (As.map (am_tv b base)) (n := nL) (by rw [am_slen hc', List.length_map]; exact hn)
  refine ⟨h.1, h.2.1, fun i v hv => ?_⟩
  have hv2 : As[i]? = some v := by
    rw [List.getElem?_map] at hv
    cases ha : As[i]? with
    | none => rw [ha] at hv; cases hv
    | some w => rw [ha] at hv; cases hv; rfl
  refine ⟨h.2.2 (i, am_tv b base v) ?_, hc v (List.mem_of_getElem? hv2)⟩
  have := am_lvargs hc' 0 i (am_tv b base v) (by rw [List.getElem?_map, hv2]; rfl)
  rwa [Nat.zero_add] at this
theorem am_C.of {l : Launch} {y : MethodName} {cc : ByteArray} {nL : Nat} {rt : Option FieldType} {d mc ms : Nat} {X : Nat × (Nat → Int32)} {As : List Value} {M : am_M} {Post : Option Value → am_M → Prop} (hy : plainName y.cls = true) (hc : ∀ v ∈ As, v.category = 1) (hn : As.length ≤ nL)
    (h : am_V l y cc nL rt (am_R d mc ms) mc ms X Post mc ms 0 (As.map some) [] M) : am_C l y cc nL rt d mc ms X As M Post := by
  intro D cA b base
  refine Met.ofW (cc := cc) (maxL := nL) (ret := rt) hy rfl ?_
  intro p e s m args below meth c s₁ B hml hv
  obtain ⟨rfl, hK, hP, hsz, hX, hb⟩ := hv
  have hts := atoms_spec (ws := Cond.code y cc nL rt :: am_gw) B.pre
  have hle : base ≤ s.heap.size := by rw [hsz]; omega
  rw [lg_entry_eq]
  exact h p e s m _ below meth c D cA b base s.heap [] 0 0 _ ⟨B.exec, B.bytes, B.returns, B.notSynchronized, hml, findClass_of_methodNamed B.named, fun h => (name_of_methodNamed B.named B.method).1.trans h, fun w hw => hts w (List.mem_cons_of_mem _ hw), Nat.le_refl _, Nat.le_refl _⟩ ⟨hK, hP, hsz, hX, hb, hle, va_S.rf⟩ (am_entry hc hn) (by omega) (by omega)
theorem am_C.mono {l : Launch} {y : MethodName} {cc : ByteArray} {nL : Nat} {rt : Option FieldType} {d mc ms : Nat} {X : Nat × (Nat → Int32)} {As : List Value} {M : am_M} {Post Post' : Option Value → am_M → Prop} (h : am_C l y cc nL rt d mc ms X As M Post) (hp : ∀ v M', Post v M' → Post' v M') : am_C l y cc nL rt d mc ms X As M Post' := by
  intro D cA b base
  exact MetFree.mono (h D cA b base) (fun _ _ h => h) (fun _ _ _ _ _ h => h) (fun _ _ _ _ _ ⟨⟨v, M', e, hq, r⟩, hL⟩ => ⟨⟨v, M', e, hp v M' hq, r⟩, hL⟩)
