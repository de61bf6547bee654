section AmUse2
variable {l : Launch} {y : MethodName} {cc : ByteArray} {nL : Nat} {rt : Option FieldType} {R : Room} {mc ms : Nat} {X : Nat × (Nat → Int32)} {Post : Option Value → am_M → Prop} {bc bs pc : Nat} {ls : List (Option Value)} {st : List Value} {M : am_M}
theorem r_getE {a n index ci k : Nat} {C : String} {T : u_T} {N : Nat} {ty : Nat → FieldType} (x : Int32) (hc : am_cls ci C T N ty) (hk : k < N) (hr : am_isR ci k = false) (hl : Cond.fieldLink y.cls index (T k).1 (T k).2.1 (T k).2.2.1 ∈ am_gw) (hok : am_ok M a ci n) (hd : decode cc pc = .ok (.getfield index, 3)) (hv : mI M a k = x)
    (kk : am_V l y cc nL rt R mc ms X Post bc bs (pc + 3) ls (.int x :: st) M) : am_V l y cc nL rt R mc ms X Post bc bs pc ls (.ref a :: st) M := r_getI hc hk hr hl hok hd (by rw [hv]; exact kk)
theorem r_ialdE {a n i : Nat} (x : Int32) (hok : am_ok M a 10 n) (hi : i < n) (hn : n < 2 ^ 31) (hd : decode cc pc = .ok (.iaload, 1)) (hv : mI M a i = x) (kk : am_V l y cc nL rt R mc ms X Post bc bs (pc + 1) ls (.int x :: st) M) : am_V l y cc nL rt R mc ms X Post bc bs pc ls (.int (nI i) :: .ref a :: st) M := r_ialdN hok hi hn hd (by rw [hv]; exact kk)
theorem r_zaldE {a n i : Nat} (x : Int32) (hok : am_ok M a 11 n) (hi : i < n) (hn : n < 2 ^ 31) (hd : decode cc pc = .ok (.baload, 1)) (hv : mI M a i = x) (kk : am_V l y cc nL rt R mc ms X Post bc bs (pc + 1) ls (.int x :: st) M) : am_V l y cc nL rt R mc ms X Post bc bs pc ls (.int (nI i) :: .ref a :: st) M := r_zaldN hok hi hn hd (by rw [hv]; exact kk)
theorem r_getRE {a n index ci k : Nat} {C : String} {T : u_T} {N : Nat} {ty : Nat → FieldType} (r : Option Nat) (hc : am_cls ci C T N ty) (hk : k < N) (hr : am_isR ci k = true) (hl : Cond.fieldLink y.cls index (T k).1 (T k).2.1 (T k).2.2.1 ∈ am_gw) (hok : am_ok M a ci n) (hd : decode cc pc = .ok (.getfield index, 3)) (hv : mR M a k = r)
    (kk : am_V l y cc nL rt R mc ms X Post bc bs (pc + 3) ls (va_rf r :: st) M) : am_V l y cc nL rt R mc ms X Post bc bs pc ls (.ref a :: st) M := r_getR hc hk hr hl hok hd (by rw [hv]; exact kk)
theorem r_aaldE {a n t i : Nat} (r : Option Nat) (ht : t = 12 ∨ t = 13) (hok : am_ok M a t n) (hi : i < n) (hn : n < 2 ^ 31) (hd : decode cc pc = .ok (.aaload, 1)) (hv : mR M a i = r) (kk : am_V l y cc nL rt R mc ms X Post bc bs (pc + 1) ls (va_rf r :: st) M) : am_V l y cc nL rt R mc ms X Post bc bs pc ls (.int (nI i) :: .ref a :: st) M := r_aaldN ht hok hi hn hd (by rw [hv]; exact kk)
/-- a number on the stack by another name -/
theorem r_top {x : Int32} (z : Int32) (hv : x = z) (kk : am_V l y cc nL rt R mc ms X Post bc bs pc ls (.int z :: st) M) : am_V l y cc nL rt R mc ms X Post bc bs pc ls (.int x :: st) M := by rw [hv]; exact kk
/-- the memory by another name -/
theorem r_mem (M2 : am_M) (hv : M = M2) (kk : am_V l y cc nL rt R mc ms X Post bc bs pc ls st M2) : am_V l y cc nL rt R mc ms X Post bc bs pc ls st M := by rw [hv]; exact kk
theorem r_post {Post' : Option Value → am_M → Prop} (h : am_V l y cc nL rt R mc ms X Post bc bs pc ls st M) (hp : ∀ v M', Post v M' → Post' v M') : am_V l y cc nL rt R mc ms X Post' bc bs pc ls st M := by
  intro p e s m args below meth c D cA b base H locs cells slots lsr E0 H0 L0 q1 q2 T hT Y
  obtain ⟨t, a1, o, b1, b2, ⟨v, M', e1, hq, r⟩, b4⟩ := h p e s m args below meth c D cA b base H locs cells slots lsr E0 H0 L0 q1 q2 T hT Y
  exact ⟨t, a1, o, b1, b2, ⟨v, M', e1, hp v M' hq, r⟩, b4⟩
/-- fewer locals are known -/
theorem r_take (n : Nat) (kk : am_V l y cc nL rt R mc ms X Post bc bs pc (ls.take n) st M) : am_V l y cc nL rt R mc ms X Post bc bs pc ls st M := by
  intro p e s m args below meth c D cA b base H locs cells slots lsr E0 H0 L0 q1 q2
  refine kk p e s m args below meth c D cA b base H locs cells slots lsr E0 H0 ⟨L0.1, L0.2.1, fun i v h => L0.2.2 i v ?_⟩ q1 q2
  rw [List.getElem?_take] at h
  split at h
  · exact h
  · cases h
end AmUse2
