/-! NEW ARRAYS, A NEW LETTER -/
section AmNew
variable {l : Launch} {y : MethodName} {cc : ByteArray} {nL : Nat} {rt : Option FieldType} {R : Room} {mc ms : Nat} {X : Nat × (Nat → Int32)} {Post : Option Value → am_M → Prop} {bc bs pc : Nat} {ls : List (Option Value)} {st : List Value} {M : am_M}
theorem r_newaIN {k : Nat} (hk : k ≤ 100000) (hbc : 1 ≤ bc) (hbs : k ≤ bs) (hd : decode cc pc = .ok (.newarray .int, 2)) (kk : am_V l y cc nL rt R mc ms X Post (bc - 1) (bs - k) (pc + 2) ls (.ref (mN M + 1) :: st) (wN M 10 k)) : am_V l y cc nL rt R mc ms X Post bc bs pc ls (.int (nI k) :: st) M := by
  have e : (nI k).toNatClampNeg = k := nI_clamp (by omega)
  refine r_newaI (nI_pos (by omega)) (by rw [e]; exact hk) ac_int hbc (by rw [e]; exact hbs) hd ?_
  rw [e]
  exact kk
theorem r_newaZN {k : Nat} (hk : k ≤ 100000) (hbc : 1 ≤ bc) (hbs : k ≤ bs) (hd : decode cc pc = .ok (.newarray .boolean, 2)) (kk : am_V l y cc nL rt R mc ms X Post (bc - 1) (bs - k) (pc + 2) ls (.ref (mN M + 1) :: st) (wN M 11 k)) : am_V l y cc nL rt R mc ms X Post bc bs pc ls (.int (nI k) :: st) M := by
  have e : (nI k).toNatClampNeg = k := nI_clamp (by omega)
  refine r_newaZ (nI_pos (by omega)) (by rw [e]; exact hk) ac_boolean hbc (by rw [e]; exact hbs) hd ?_
  rw [e]
  exact kk
theorem r_anewN {index t k : Nat} {C : String} (hC : (t = 12 ∧ C = RX3) ∨ (t = 13 ∧ C = RX6)) (hl : Cond.classLink y.cls index C ∈ am_gw) (hk : k ≤ 100000) (hbc : 1 ≤ bc) (hbs : k ≤ bs) (hd : decode cc pc = .ok (.anewarray index, 3)) (kk : am_V l y cc nL rt R mc ms X Post (bc - 1) (bs - k) (pc + 3) ls (.ref (mN M + 1) :: st) (wN M t k)) : am_V l y cc nL rt R mc ms X Post bc bs pc ls (.int (nI k) :: st) M := by
  have e : (nI k).toNatClampNeg = k := nI_clamp (by omega)
  refine r_anew hC hl (nI_pos (by omega)) (by rw [e]; exact hk) hbc (by rw [e]; exact hbs) hd ?_
  rw [e]
  exact kk
/-- less room is asked -/
theorem r_room {bc' bs' : Nat} (h1 : bc' ≤ bc) (h2 : bs' ≤ bs) (kk : am_V l y cc nL rt R mc ms X Post bc' bs' pc ls st M) : am_V l y cc nL rt R mc ms X Post bc bs pc ls st M := by
  intro p e s m args below meth c D cA b base H locs cells slots lsr E0 H0 L0 q1 q2
  exact kk p e s m args below meth c D cA b base H locs cells slots lsr E0 H0 L0 (by omega) (by omega)
end AmNew
/-- a new array of ints that holds f -/
def wA (M : am_M) (k : Nat) (f : Nat → Int32) : am_M := wF (wN M 10 k) (mN M + 1) f
theorem mN_wA (M : am_M) (k : Nat) (f : Nat → Int32) : mN (wA M k f) = mN M + 1 := rfl
theorem mI_wA_n (M : am_M) (k : Nat) (f : Nat → Int32) {x : Nat} (h : x ≠ mN M + 1) : mI (wA M k f) x = mI M x := (mI_wF_n _ _ h).trans (mI_wN_n M 10 k h)
theorem mI_wA_s (M : am_M) (k : Nat) (f : Nat → Int32) : mI (wA M k f) (mN M + 1) = f := mI_wF_s _ _ _
theorem mR_wA_n (M : am_M) (k : Nat) (f : Nat → Int32) {x : Nat} (h : x ≠ mN M + 1) : mR (wA M k f) x = mR M x := mR_wN_n M 10 k h
theorem mT_wA_n (M : am_M) (k : Nat) (f : Nat → Int32) {x : Nat} (h : x ≠ mN M + 1) : mT (wA M k f) x = mT M x := mT_wN_n M 10 k h
theorem mT_wA_s (M : am_M) (k : Nat) (f : Nat → Int32) : mT (wA M k f) (mN M + 1) = (10, k) := mT_wN_s M 10 k
theorem lay_wA {M : am_M} (h : Lay M) (k : Nat) (f : Nat → Int32) : Lay (wA M k f) := lay_wF (lay_wN h 10 k) _ f
theorem ok_wA {M : am_M} {a t n : Nat} (h : am_ok M a t n) (k : Nat) (f : Nat → Int32) : am_ok (wA M k f) a t n := okw_wN h 10 k
