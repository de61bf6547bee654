/-! FROM THE JUDGEMENT TO THE LAW'S WALK -/
def am_M0 : am_M := (fun _ => (0, 0), fun _ _ => 0, fun _ _ => none, 0)
theorem am_K0 {args : Array Value} {s : State} (hts : ∀ w ∈ lw_tbl, w.before args s = true) : ∃ (D : va_G) (cA : Nat → ClassId), am_K D cA s := by
  have hgw : ∀ w ∈ am_gw, w.before args s = true := fun w h => hts w (List.mem_filter.mp h).1
  have kn : ∀ {ci : Nat} {C : String} {T : u_T} {N : Nat} {ty : Nat → FieldType}, am_cls ci C T N ty → Cond.instantiable C N ∈ am_gw → ∃ (cC : ClassId) (iS : Nat → Nat), u_Kn s C T N cC iS := fun hc hi => u_known hgw hc.2.2.2.2.1 (hgw _ hi)
  obtain ⟨c0, i0, h0⟩ := kn kX0 ins_X0
  obtain ⟨c1, i1, h1⟩ := kn kX1 ins_X1
  obtain ⟨c2, i2, h2⟩ := kn kX2 ins_X2
  obtain ⟨c3, i3, h3⟩ := kn kX3 ins_X3
  obtain ⟨c4, i4, h4⟩ := kn kX4 ins_X4
  obtain ⟨c5, i5, h5⟩ := kn kX5 ins_X5
  obtain ⟨c6, i6, h6⟩ := kn kX6 ins_X6
  obtain ⟨c7, i7, h7⟩ := kn kX7 ins_X7
  obtain ⟨c8, i8, h8⟩ := kn kX8 ins_X8
  obtain ⟨c9, i9, h9⟩ := kn kX9 ins_X9
  obtain ⟨cI, kI, compI, aI1, aI2, aI3⟩ := Cond.arrayClass_spec (hgw _ ac_int)
  obtain ⟨cZ, kZ, compZ, aZ1, aZ2, aZ3⟩ := Cond.arrayClass_spec (hgw _ ac_boolean)
  obtain ⟨compL, cL, kL, aL1, -, aL2, aL3, aL4⟩ := Cond.arrayOver_spec (hts _ ao_X3)
  obtain ⟨compN, cN, kN, aN1, -, aN2, aN3, aN4⟩ := Cond.arrayOver_spec (hts _ ao_X6)
  refine ⟨(fun k => match k with | 0 => c0 | 1 => c1 | 2 => c2 | 3 => c3 | 4 => c4 | 5 => c5 | 6 => c6 | 7 => c7 | 8 => c8 | _ => c9, fun k => match k with | 0 => i0 | 1 => i1 | 2 => i2 | 3 => i3 | 4 => i4 | 5 => i5 | 6 => i6 | 7 => i7 | 8 => i8 | _ => i9), fun k => match k with | 10 => cI | 11 => cZ | 12 => cL | _ => cN, ⟨⟨fun k q hq => ?_, fun k q hq => ?_⟩, fun q hq => va_Nw.of rfl (hts _ (nk_lw q hq)), va_AO.of (hts _ ao_X3), va_AO.of (hts _ ao_X6), va_Nw.of rfl (hts _ cast_lw)⟩⟩
  · match k, hq with
    | 0, hq => cases hq; exact h0
    | 1, hq => cases hq; exact h1
    | 2, hq => cases hq; exact h2
    | 3, hq => cases hq; exact h3
    | 4, hq => cases hq; exact h4
    | 5, hq => cases hq; exact h5
    | 6, hq => cases hq; exact h6
    | 7, hq => cases hq; exact h7
    | 8, hq => cases hq; exact h8
    | 9, hq => cases hq; exact h9
    | k + 10, hq => simp [vwCl] at hq
  · match k, hq with
    | 0, hq => cases hq; exact ⟨fun n z => ⟨fun k h => (by cases h), kI, aI2, compI, aI3⟩, aI1⟩
    | 1, hq => cases hq; exact ⟨fun n z => ⟨fun k h => (by cases h), kZ, aZ2, compZ, aZ3⟩, aZ1⟩
    | 2, hq => cases hq; exact ⟨fun n z => ⟨fun k h => (by cases h), kL, aL2, compL, aL3⟩, kL, compL, aL2, aL3, aL1, aL4⟩
    | 3, hq => cases hq; exact ⟨fun n z => ⟨fun k h => (by cases h), kN, aN2, compN, aN3⟩, kN, compN, aN2, aN3, aN1, aN4⟩
    | k + 4, hq => simp [am_tys] at hq
theorem am_top {p : Program} {e : Env} {s : State} {m : MethodId} {below : List Frame} {meth : Method} {c : Code} (l : Launch) {b L : Nat} {xs : Nat → Int32} (C0 : lw_At p s m meth c b L xs) (hV : am_V l yL_law code 4 ret room_1 774159 6779771 (L, xs) (fun v _ => v = some (.int 1)) 774159 6779771 0 [some (.ref 0)] [] am_M0) : W p l e room_1 s m #[Value.ref b] below meth c s.heap [] 0 0 (lw_Z below #[Value.ref b] s) (entryFrame m ([Value.ref b] : List Value).toArray 4) := by
  obtain ⟨hx, hb, hr, hml, hown, hts, hX, hbl, hlocks, hgv⟩ := id C0
  obtain ⟨D, cA, hK⟩ := am_K0 hts
  have hgw : ∀ w ∈ am_gw, w.before #[Value.ref b] s = true := fun w h => hts w (List.mem_filter.mp h).1
  have hent := am_entry (b := b) (base := s.heap.size) (nL := 4) (As := [.ref 0]) (by simp [Value.category]) (by decide)
  have H0 : am_H (L, xs) D cA b s.heap.size s am_M0 s.heap [] := ⟨hK, fun k q h => by simp [am_ws, am_M0, mN] at h, rfl, hX, hbl, Nat.le_refl _, va_S.rf⟩
  have k := hV p e s m #[Value.ref b] below meth c D cA b s.heap.size s.heap [] 0 0 _ ⟨hx, hb, hr, hlocks, hml, hown, fun h => absurd h (by decide), hgw, Nat.le_refl _, Nat.le_refl _⟩ H0 hent (Nat.le_refl _) (Nat.le_refl _)
  rw [lg_entry_eq]
  intro T hT Y
  obtain ⟨t, a1, o, b1, b2, ⟨v, M', ho, hp, -, -, -⟩, Lc, ⟨hv, hW, hsame⟩, hL⟩ := k T hT Y
  subst hp
  refine ⟨t, a1, o, b1, b2, ho, hv, hW, ?_⟩
  exact hsame.weaken (fun y hy hlt => absurd hlt (Nat.not_lt.mpr (hL y hy))) (Nat.le_refl _) (Nat.le_refl _)
