/-! CONSTRUCTORS -/
section AmNew2
variable {l : Launch} {y : MethodName} {cc : ByteArray} {nL : Nat} {rt : Option FieldType} {R : Room} {mc ms : Nat} {X : Nat × (Nat → Int32)} {Post : Option Value → am_M → Prop} {bc bs pc : Nat} {ls : List (Option Value)} {st : List Value} {M : am_M}
theorem r_nI (b : Nat) {k : Nat} (hb : mN M + 1 = b) (hk : k ≤ 100000) (hbc : 1 ≤ bc) (hbs : k ≤ bs) (hd : decode cc pc = .ok (.newarray .int, 2)) (kk : am_V l y cc nL rt R mc ms X Post (bc - 1) (bs - k) (pc + 2) ls (.ref b :: st) (wN M 10 k)) : am_V l y cc nL rt R mc ms X Post bc bs pc ls (.int (nI k) :: st) M := r_newaIN hk hbc hbs hd (by rw [hb]; exact kk)
theorem r_nZ (b : Nat) {k : Nat} (hb : mN M + 1 = b) (hk : k ≤ 100000) (hbc : 1 ≤ bc) (hbs : k ≤ bs) (hd : decode cc pc = .ok (.newarray .boolean, 2)) (kk : am_V l y cc nL rt R mc ms X Post (bc - 1) (bs - k) (pc + 2) ls (.ref b :: st) (wN M 11 k)) : am_V l y cc nL rt R mc ms X Post bc bs pc ls (.int (nI k) :: st) M := r_newaZN hk hbc hbs hd (by rw [hb]; exact kk)
theorem r_nA (b : Nat) {index t k : Nat} {C : String} (hb : mN M + 1 = b) (hC : (t = 12 ∧ C = RX3) ∨ (t = 13 ∧ C = RX6)) (hl : Cond.classLink y.cls index C ∈ am_gw) (hk : k ≤ 100000) (hbc : 1 ≤ bc) (hbs : k ≤ bs) (hd : decode cc pc = .ok (.anewarray index, 3)) (kk : am_V l y cc nL rt R mc ms X Post (bc - 1) (bs - k) (pc + 3) ls (.ref b :: st) (wN M t k)) : am_V l y cc nL rt R mc ms X Post bc bs pc ls (.int (nI k) :: st) M := r_anewN hC hl hk hbc hbs hd (by rw [hb]; exact kk)
theorem r_nO (b : Nat) {index ci : Nat} {C : String} {T : u_T} {N : Nat} {ty : Nat → FieldType} (hb : mN M + 1 = b) (hc : am_cls ci C T N ty) (hl : Cond.classLink y.cls index C ∈ am_gw) (hi : Cond.instantiable C N ∈ am_gw) (hini : Cond.initialized C ∈ am_gw) (hbc : 1 ≤ bc) (hbs : N ≤ bs) (hd : decode cc pc = .ok (.new index, 3)) (kk : am_V l y cc nL rt R mc ms X Post (bc - 1) (bs - N) (pc + 3) ls (.ref b :: st) (wN M ci 0)) : am_V l y cc nL rt R mc ms X Post bc bs pc ls st M := r_new hc hl hi hini hbc hbs hd (by rw [hb]; exact kk)
end AmNew2
theorem okN {M : am_M} {b : Nat} (t n : Nat) (hb : mN M + 1 = b) : am_ok (wN M t n) b t n := by rw [← hb]; exact okw_new M t n
def q7_0 (M : am_M) (a : Nat) : am_M := M
theorem mN_q7_0 (M : am_M) (a : Nat) : mN (q7_0 M a) = mN M + 0 := rfl
theorem ok_q7_0 {M : am_M} {a x t n : Nat} (h : am_ok M x t n) : am_ok (q7_0 M a) x t n := h
def q7_1 (M : am_M) (a : Nat) : am_M := wR (wN (q7_0 M a) 10 16) a 0 (some (a + 1))
theorem mN_q7_1 (M : am_M) (a : Nat) : mN (q7_1 M a) = mN M + 1 := by
  have h1 := mN_q7_0 M a
  show mN (q7_0 M a) + 1 = _
  omega
theorem ok_q7_1 {M : am_M} {a x t n : Nat} (h : am_ok M x t n) : am_ok (q7_1 M a) x t n := okw_wR (okw_wN (ok_q7_0 h) _ _) _ _ _
def q7_2 (M : am_M) (a : Nat) : am_M := wR (wN (q7_1 M a) 10 16) a 1 (some (a + 2))
theorem mN_q7_2 (M : am_M) (a : Nat) : mN (q7_2 M a) = mN M + 2 := by
  have h1 := mN_q7_1 M a
  show mN (q7_1 M a) + 1 = _
  omega
theorem ok_q7_2 {M : am_M} {a x t n : Nat} (h : am_ok M x t n) : am_ok (q7_2 M a) x t n := okw_wR (okw_wN (ok_q7_1 h) _ _) _ _ _
def q7_3 (M : am_M) (a : Nat) : am_M := wR (wN (q7_2 M a) 11 16) a 2 (some (a + 3))
theorem mN_q7_3 (M : am_M) (a : Nat) : mN (q7_3 M a) = mN M + 3 := by
  have h1 := mN_q7_2 M a
  show mN (q7_2 M a) + 1 = _
  omega
theorem ok_q7_3 {M : am_M} {a x t n : Nat} (h : am_ok M x t n) : am_ok (q7_3 M a) x t n := okw_wR (okw_wN (ok_q7_2 h) _ _) _ _ _
def w7 (M : am_M) (a : Nat) : am_M := q7_3 M a
theorem mN_w7 (M : am_M) (a : Nat) : mN (w7 M a) = mN M + 3 := mN_q7_3 M a
theorem ok_w7 {M : am_M} {a x t n : Nat} (h : am_ok M x t n) : am_ok (w7 M a) x t n := ok_q7_3 h
set_option maxHeartbeats 4000000 in
set_option maxRecDepth 100000 in
theorem c_X7_init {l : Launch} {X : Nat × (Nat → Int32)} {M : am_M} {a : Nat} (ha : am_ok M a 7 0) (hN : mN M = a) : am_F l yX7_init cX7_init 1 (none) 1 3 48 X [.ref a] M none (w7 M a) := by
  refine am_C.of (by decide) (by simp [Value.category, va_rf]) (Nat.le_of_ble_eq_true rfl) ?_
  refine r_aload_n dX7_init_0 rfl ?_
  refine r_objInit ml_X7_3 im_JobjectInit co_objectInit ⟨by decide, Nat.le_of_ble_eq_true rfl⟩ dX7_init_1 ?_
  refine r_mem (q7_0 M a) rfl ?_
  refine r_aload_n dX7_init_4 rfl ?_
  refine r_bipush (nI 16) dX7_init_5 (by decide) ?_
  refine r_nI (a + 1) (by have := mN_q7_0 M a; omega) (by decide) (by omega) (by omega) dX7_init_7 ?_
  refine r_putF (r := a + 1) kX7 (k := 0) (by decide) rfl (Or.inr ⟨rfl, rfl, rfl, rfl⟩) fl_X7_9 (okw_wN (ok_q7_0 ha) _ _) dX7_init_9 ?_
  refine r_mem (q7_1 M a) rfl ?_
  refine r_aload_n dX7_init_12 rfl ?_
  refine r_bipush (nI 16) dX7_init_13 (by decide) ?_
  refine r_nI (a + 2) (by have := mN_q7_1 M a; omega) (by decide) (by omega) (by omega) dX7_init_15 ?_
  refine r_putF (r := a + 2) kX7 (k := 1) (by decide) rfl (Or.inr ⟨rfl, rfl, rfl, rfl⟩) fl_X7_15 (okw_wN (ok_q7_1 ha) _ _) dX7_init_17 ?_
  refine r_mem (q7_2 M a) rfl ?_
  refine r_aload_n dX7_init_20 rfl ?_
  refine r_bipush (nI 16) dX7_init_21 (by decide) ?_
  refine r_nZ (a + 3) (by have := mN_q7_2 M a; omega) (by decide) (by omega) (by omega) dX7_init_23 ?_
  refine r_putF (r := a + 3) kX7 (k := 2) (by decide) rfl (Or.inr ⟨rfl, rfl, rfl, rfl⟩) fl_X7_18 (okw_wN (ok_q7_2 ha) _ _) dX7_init_25 ?_
  refine r_mem (q7_3 M a) rfl ?_
  exact r_vret rfl dX7_init_28 ⟨rfl, rfl⟩
def q1_0 (M : am_M) (a : Nat) : am_M := M
theorem mN_q1_0 (M : am_M) (a : Nat) : mN (q1_0 M a) = mN M + 0 := rfl
theorem ok_q1_0 {M : am_M} {a x t n : Nat} (h : am_ok M x t n) : am_ok (q1_0 M a) x t n := h
def q1_1 (M : am_M) (a : Nat) : am_M := wR (wN (q1_0 M a) 10 16) a 0 (some (a + 1))
theorem mN_q1_1 (M : am_M) (a : Nat) : mN (q1_1 M a) = mN M + 1 := by
  have h1 := mN_q1_0 M a
  show mN (q1_0 M a) + 1 = _
  omega
theorem ok_q1_1 {M : am_M} {a x t n : Nat} (h : am_ok M x t n) : am_ok (q1_1 M a) x t n := okw_wR (okw_wN (ok_q1_0 h) _ _) _ _ _
def q1_2 (M : am_M) (a : Nat) : am_M := wR (wN (q1_1 M a) 10 16) a 1 (some (a + 2))
theorem mN_q1_2 (M : am_M) (a : Nat) : mN (q1_2 M a) = mN M + 2 := by
  have h1 := mN_q1_1 M a
  show mN (q1_1 M a) + 1 = _
  omega
theorem ok_q1_2 {M : am_M} {a x t n : Nat} (h : am_ok M x t n) : am_ok (q1_2 M a) x t n := okw_wR (okw_wN (ok_q1_1 h) _ _) _ _ _
def q1_3 (M : am_M) (a : Nat) : am_M := wR (wN (q1_2 M a) 10 40) a 2 (some (a + 3))
theorem mN_q1_3 (M : am_M) (a : Nat) : mN (q1_3 M a) = mN M + 3 := by
  have h1 := mN_q1_2 M a
  show mN (q1_2 M a) + 1 = _
  omega
theorem ok_q1_3 {M : am_M} {a x t n : Nat} (h : am_ok M x t n) : am_ok (q1_3 M a) x t n := okw_wR (okw_wN (ok_q1_2 h) _ _) _ _ _
def q1_4 (M : am_M) (a : Nat) : am_M := wR (wN (q1_3 M a) 10 40) a 3 (some (a + 4))
theorem mN_q1_4 (M : am_M) (a : Nat) : mN (q1_4 M a) = mN M + 4 := by
  have h1 := mN_q1_3 M a
  show mN (q1_3 M a) + 1 = _
  omega
theorem ok_q1_4 {M : am_M} {a x t n : Nat} (h : am_ok M x t n) : am_ok (q1_4 M a) x t n := okw_wR (okw_wN (ok_q1_3 h) _ _) _ _ _
def q1_5 (M : am_M) (a : Nat) : am_M := wR (wN (q1_4 M a) 10 40) a 4 (some (a + 5))
theorem mN_q1_5 (M : am_M) (a : Nat) : mN (q1_5 M a) = mN M + 5 := by
  have h1 := mN_q1_4 M a
  show mN (q1_4 M a) + 1 = _
  omega
theorem ok_q1_5 {M : am_M} {a x t n : Nat} (h : am_ok M x t n) : am_ok (q1_5 M a) x t n := okw_wR (okw_wN (ok_q1_4 h) _ _) _ _ _
def w1 (M : am_M) (a : Nat) : am_M := q1_5 M a
theorem mN_w1 (M : am_M) (a : Nat) : mN (w1 M a) = mN M + 5 := mN_q1_5 M a
theorem ok_w1 {M : am_M} {a x t n : Nat} (h : am_ok M x t n) : am_ok (w1 M a) x t n := ok_q1_5 h
set_option maxHeartbeats 4000000 in
set_option maxRecDepth 100000 in
theorem c_X1_init {l : Launch} {X : Nat × (Nat → Int32)} {M : am_M} {a : Nat} (ha : am_ok M a 1 0) (hN : mN M = a) : am_F l yX1_init cX1_init 1 (none) 1 5 152 X [.ref a] M none (w1 M a) := by
  refine am_C.of (by decide) (by simp [Value.category, va_rf]) (Nat.le_of_ble_eq_true rfl) ?_
  refine r_aload_n dX1_init_0 rfl ?_
  refine r_objInit ml_X1_3 im_JobjectInit co_objectInit ⟨by decide, Nat.le_of_ble_eq_true rfl⟩ dX1_init_1 ?_
  refine r_mem (q1_0 M a) rfl ?_
  refine r_aload_n dX1_init_4 rfl ?_
  refine r_bipush (nI 16) dX1_init_5 (by decide) ?_
  refine r_nI (a + 1) (by have := mN_q1_0 M a; omega) (by decide) (by omega) (by omega) dX1_init_7 ?_
  refine r_putF (r := a + 1) kX1 (k := 0) (by decide) rfl (Or.inr ⟨rfl, rfl, rfl, rfl⟩) fl_X1_9 (okw_wN (ok_q1_0 ha) _ _) dX1_init_9 ?_
  refine r_mem (q1_1 M a) rfl ?_
  refine r_aload_n dX1_init_12 rfl ?_
  refine r_bipush (nI 16) dX1_init_13 (by decide) ?_
  refine r_nI (a + 2) (by have := mN_q1_1 M a; omega) (by decide) (by omega) (by omega) dX1_init_15 ?_
  refine r_putF (r := a + 2) kX1 (k := 1) (by decide) rfl (Or.inr ⟨rfl, rfl, rfl, rfl⟩) fl_X1_15 (okw_wN (ok_q1_1 ha) _ _) dX1_init_17 ?_
  refine r_mem (q1_2 M a) rfl ?_
  refine r_aload_n dX1_init_20 rfl ?_
  refine r_bipush (nI 40) dX1_init_21 (by decide) ?_
  refine r_nI (a + 3) (by have := mN_q1_2 M a; omega) (by decide) (by omega) (by omega) dX1_init_23 ?_
  refine r_putF (r := a + 3) kX1 (k := 2) (by decide) rfl (Or.inr ⟨rfl, rfl, rfl, rfl⟩) fl_X1_18 (okw_wN (ok_q1_2 ha) _ _) dX1_init_25 ?_
  refine r_mem (q1_3 M a) rfl ?_
  refine r_aload_n dX1_init_28 rfl ?_
  refine r_bipush (nI 40) dX1_init_29 (by decide) ?_
  refine r_nI (a + 4) (by have := mN_q1_3 M a; omega) (by decide) (by omega) (by omega) dX1_init_31 ?_
  refine r_putF (r := a + 4) kX1 (k := 3) (by decide) rfl (Or.inr ⟨rfl, rfl, rfl, rfl⟩) fl_X1_21 (okw_wN (ok_q1_3 ha) _ _) dX1_init_33 ?_
  refine r_mem (q1_4 M a) rfl ?_
  refine r_aload_n dX1_init_36 rfl ?_
  refine r_bipush (nI 40) dX1_init_37 (by decide) ?_
  refine r_nI (a + 5) (by have := mN_q1_4 M a; omega) (by decide) (by omega) (by omega) dX1_init_39 ?_
  refine r_putF (r := a + 5) kX1 (k := 4) (by decide) rfl (Or.inr ⟨rfl, rfl, rfl, rfl⟩) fl_X1_24 (okw_wN (ok_q1_4 ha) _ _) dX1_init_41 ?_
  refine r_mem (q1_5 M a) rfl ?_
  exact r_vret rfl dX1_init_44 ⟨rfl, rfl⟩
def q2_0 (M : am_M) (a : Nat) : am_M := M
theorem mN_q2_0 (M : am_M) (a : Nat) : mN (q2_0 M a) = mN M + 0 := rfl
theorem ok_q2_0 {M : am_M} {a x t n : Nat} (h : am_ok M x t n) : am_ok (q2_0 M a) x t n := h
def q2_1 (M : am_M) (a : Nat) : am_M := wR (wN (q2_0 M a) 11 16) a 0 (some (a + 1))
theorem mN_q2_1 (M : am_M) (a : Nat) : mN (q2_1 M a) = mN M + 1 := by
  have h1 := mN_q2_0 M a
  show mN (q2_0 M a) + 1 = _
  omega
theorem ok_q2_1 {M : am_M} {a x t n : Nat} (h : am_ok M x t n) : am_ok (q2_1 M a) x t n := okw_wR (okw_wN (ok_q2_0 h) _ _) _ _ _
def q2_2 (M : am_M) (a : Nat) : am_M := wR (wN (q2_1 M a) 10 16) a 1 (some (a + 2))
theorem mN_q2_2 (M : am_M) (a : Nat) : mN (q2_2 M a) = mN M + 2 := by
  have h1 := mN_q2_1 M a
  show mN (q2_1 M a) + 1 = _
  omega
theorem ok_q2_2 {M : am_M} {a x t n : Nat} (h : am_ok M x t n) : am_ok (q2_2 M a) x t n := okw_wR (okw_wN (ok_q2_1 h) _ _) _ _ _
def q2_3 (M : am_M) (a : Nat) : am_M := wR (wN (q2_2 M a) 10 16) a 2 (some (a + 3))
theorem mN_q2_3 (M : am_M) (a : Nat) : mN (q2_3 M a) = mN M + 3 := by
  have h1 := mN_q2_2 M a
  show mN (q2_2 M a) + 1 = _
  omega
theorem ok_q2_3 {M : am_M} {a x t n : Nat} (h : am_ok M x t n) : am_ok (q2_3 M a) x t n := okw_wR (okw_wN (ok_q2_2 h) _ _) _ _ _
def w2 (M : am_M) (a : Nat) : am_M := q2_3 M a
theorem mN_w2 (M : am_M) (a : Nat) : mN (w2 M a) = mN M + 3 := mN_q2_3 M a
theorem ok_w2 {M : am_M} {a x t n : Nat} (h : am_ok M x t n) : am_ok (w2 M a) x t n := ok_q2_3 h
set_option maxHeartbeats 4000000 in
set_option maxRecDepth 100000 in
theorem c_X2_init {l : Launch} {X : Nat × (Nat → Int32)} {M : am_M} {a : Nat} (ha : am_ok M a 2 0) (hN : mN M = a) : am_F l yX2_init cX2_init 1 (none) 1 3 48 X [.ref a] M none (w2 M a) := by
  refine am_C.of (by decide) (by simp [Value.category, va_rf]) (Nat.le_of_ble_eq_true rfl) ?_
  refine r_aload_n dX2_init_0 rfl ?_
  refine r_objInit ml_X2_3 im_JobjectInit co_objectInit ⟨by decide, Nat.le_of_ble_eq_true rfl⟩ dX2_init_1 ?_
  refine r_mem (q2_0 M a) rfl ?_
  refine r_aload_n dX2_init_4 rfl ?_
  refine r_bipush (nI 16) dX2_init_5 (by decide) ?_
  refine r_nZ (a + 1) (by have := mN_q2_0 M a; omega) (by decide) (by omega) (by omega) dX2_init_7 ?_
  refine r_putF (r := a + 1) kX2 (k := 0) (by decide) rfl (Or.inr ⟨rfl, rfl, rfl, rfl⟩) fl_X2_9 (okw_wN (ok_q2_0 ha) _ _) dX2_init_9 ?_
  refine r_mem (q2_1 M a) rfl ?_
  refine r_aload_n dX2_init_12 rfl ?_
  refine r_bipush (nI 16) dX2_init_13 (by decide) ?_
  refine r_nI (a + 2) (by have := mN_q2_1 M a; omega) (by decide) (by omega) (by omega) dX2_init_15 ?_
  refine r_putF (r := a + 2) kX2 (k := 1) (by decide) rfl (Or.inr ⟨rfl, rfl, rfl, rfl⟩) fl_X2_15 (okw_wN (ok_q2_1 ha) _ _) dX2_init_17 ?_
  refine r_mem (q2_2 M a) rfl ?_
  refine r_aload_n dX2_init_20 rfl ?_
  refine r_bipush (nI 16) dX2_init_21 (by decide) ?_
  refine r_nI (a + 3) (by have := mN_q2_2 M a; omega) (by decide) (by omega) (by omega) dX2_init_23 ?_
  refine r_putF (r := a + 3) kX2 (k := 2) (by decide) rfl (Or.inr ⟨rfl, rfl, rfl, rfl⟩) fl_X2_19 (okw_wN (ok_q2_2 ha) _ _) dX2_init_25 ?_
  refine r_mem (q2_3 M a) rfl ?_
  exact r_vret rfl dX2_init_28 ⟨rfl, rfl⟩
def q0_0 (M : am_M) (a : Nat) : am_M := M
theorem mN_q0_0 (M : am_M) (a : Nat) : mN (q0_0 M a) = mN M + 0 := rfl
theorem ok_q0_0 {M : am_M} {a x t n : Nat} (h : am_ok M x t n) : am_ok (q0_0 M a) x t n := h
def q0_1 (M : am_M) (a : Nat) : am_M := wR (wN (q0_0 M a) 10 40) a 0 (some (a + 1))
theorem mN_q0_1 (M : am_M) (a : Nat) : mN (q0_1 M a) = mN M + 1 := by
  have h1 := mN_q0_0 M a
  show mN (q0_0 M a) + 1 = _
  omega
theorem ok_q0_1 {M : am_M} {a x t n : Nat} (h : am_ok M x t n) : am_ok (q0_1 M a) x t n := okw_wR (okw_wN (ok_q0_0 h) _ _) _ _ _
def q0_2 (M : am_M) (a : Nat) : am_M := wR (wN (q0_1 M a) 10 40) a 1 (some (a + 2))
theorem mN_q0_2 (M : am_M) (a : Nat) : mN (q0_2 M a) = mN M + 2 := by
  have h1 := mN_q0_1 M a
  show mN (q0_1 M a) + 1 = _
  omega
theorem ok_q0_2 {M : am_M} {a x t n : Nat} (h : am_ok M x t n) : am_ok (q0_2 M a) x t n := okw_wR (okw_wN (ok_q0_1 h) _ _) _ _ _
def q0_3 (M : am_M) (a : Nat) : am_M := wR (wN (q0_2 M a) 10 40) a 2 (some (a + 3))
theorem mN_q0_3 (M : am_M) (a : Nat) : mN (q0_3 M a) = mN M + 3 := by
  have h1 := mN_q0_2 M a
  show mN (q0_2 M a) + 1 = _
  omega
theorem ok_q0_3 {M : am_M} {a x t n : Nat} (h : am_ok M x t n) : am_ok (q0_3 M a) x t n := okw_wR (okw_wN (ok_q0_2 h) _ _) _ _ _
def w0 (M : am_M) (a : Nat) : am_M := q0_3 M a
theorem mN_w0 (M : am_M) (a : Nat) : mN (w0 M a) = mN M + 3 := mN_q0_3 M a
theorem ok_w0 {M : am_M} {a x t n : Nat} (h : am_ok M x t n) : am_ok (w0 M a) x t n := ok_q0_3 h
set_option maxHeartbeats 4000000 in
set_option maxRecDepth 100000 in
theorem c_X0_init {l : Launch} {X : Nat × (Nat → Int32)} {M : am_M} {a : Nat} (ha : am_ok M a 0 0) (hN : mN M = a) : am_F l yX0_init cX0_init 1 (none) 1 3 120 X [.ref a] M none (w0 M a) := by
  refine am_C.of (by decide) (by simp [Value.category, va_rf]) (Nat.le_of_ble_eq_true rfl) ?_
  refine r_aload_n dX0_init_0 rfl ?_
  refine r_objInit ml_X0_3 im_JobjectInit co_objectInit ⟨by decide, Nat.le_of_ble_eq_true rfl⟩ dX0_init_1 ?_
  refine r_mem (q0_0 M a) rfl ?_
  refine r_aload_n dX0_init_4 rfl ?_
  refine r_bipush (nI 40) dX0_init_5 (by decide) ?_
  refine r_nI (a + 1) (by have := mN_q0_0 M a; omega) (by decide) (by omega) (by omega) dX0_init_7 ?_
  refine r_putF (r := a + 1) kX0 (k := 0) (by decide) rfl (Or.inr ⟨rfl, rfl, rfl, rfl⟩) fl_X0_9 (okw_wN (ok_q0_0 ha) _ _) dX0_init_9 ?_
  refine r_mem (q0_1 M a) rfl ?_
  refine r_aload_n dX0_init_12 rfl ?_
  refine r_bipush (nI 40) dX0_init_13 (by decide) ?_
  refine r_nI (a + 2) (by have := mN_q0_1 M a; omega) (by decide) (by omega) (by omega) dX0_init_15 ?_
  refine r_putF (r := a + 2) kX0 (k := 1) (by decide) rfl (Or.inr ⟨rfl, rfl, rfl, rfl⟩) fl_X0_15 (okw_wN (ok_q0_1 ha) _ _) dX0_init_17 ?_
  refine r_mem (q0_2 M a) rfl ?_
  refine r_aload_n dX0_init_20 rfl ?_
  refine r_bipush (nI 40) dX0_init_21 (by decide) ?_
  refine r_nI (a + 3) (by have := mN_q0_2 M a; omega) (by decide) (by omega) (by omega) dX0_init_23 ?_
  refine r_putF (r := a + 3) kX0 (k := 2) (by decide) rfl (Or.inr ⟨rfl, rfl, rfl, rfl⟩) fl_X0_18 (okw_wN (ok_q0_2 ha) _ _) dX0_init_25 ?_
  refine r_mem (q0_3 M a) rfl ?_
  exact r_vret rfl dX0_init_28 ⟨rfl, rfl⟩
def q5_0 (M : am_M) (a : Nat) : am_M := M
theorem mN_q5_0 (M : am_M) (a : Nat) : mN (q5_0 M a) = mN M + 0 := rfl
theorem ok_q5_0 {M : am_M} {a x t n : Nat} (h : am_ok M x t n) : am_ok (q5_0 M a) x t n := h
def q5_1 (M : am_M) (a : Nat) : am_M := wR (wN (q5_0 M a) 12 60) a 0 (some (a + 1))
theorem mN_q5_1 (M : am_M) (a : Nat) : mN (q5_1 M a) = mN M + 1 := by
  have h1 := mN_q5_0 M a
  show mN (q5_0 M a) + 1 = _
  omega
theorem ok_q5_1 {M : am_M} {a x t n : Nat} (h : am_ok M x t n) : am_ok (q5_1 M a) x t n := okw_wR (okw_wN (ok_q5_0 h) _ _) _ _ _
def w5 (M : am_M) (a : Nat) : am_M := q5_1 M a
theorem mN_w5 (M : am_M) (a : Nat) : mN (w5 M a) = mN M + 1 := mN_q5_1 M a
theorem ok_w5 {M : am_M} {a x t n : Nat} (h : am_ok M x t n) : am_ok (w5 M a) x t n := ok_q5_1 h
set_option maxHeartbeats 4000000 in
set_option maxRecDepth 100000 in
theorem c_X5_init {l : Launch} {X : Nat × (Nat → Int32)} {M : am_M} {a : Nat} (ha : am_ok M a 5 0) (hN : mN M = a) : am_F l yX5_init cX5_init 1 (none) 1 1 60 X [.ref a] M none (w5 M a) := by
  refine am_C.of (by decide) (by simp [Value.category, va_rf]) (Nat.le_of_ble_eq_true rfl) ?_
  refine r_aload_n dX5_init_0 rfl ?_
  refine r_objInit ml_X5_3 im_JobjectInit co_objectInit ⟨by decide, Nat.le_of_ble_eq_true rfl⟩ dX5_init_1 ?_
  refine r_mem (q5_0 M a) rfl ?_
  refine r_aload_n dX5_init_4 rfl ?_
  refine r_bipush (nI 60) dX5_init_5 (by decide) ?_
  refine r_nA (a + 1) (by have := mN_q5_0 M a; omega) (Or.inl ⟨rfl, rfl⟩) cl_X5_9 (by decide) (by omega) (by omega) dX5_init_7 ?_
  refine r_putF (r := a + 1) kX5 (k := 0) (by decide) rfl (Or.inr ⟨rfl, rfl, rfl, rfl⟩) fl_X5_11 (okw_wN (ok_q5_0 ha) _ _) dX5_init_10 ?_
  refine r_mem (q5_1 M a) rfl ?_
  exact r_vret rfl dX5_init_13 ⟨rfl, rfl⟩
def q4_0 (M : am_M) (a : Nat) : am_M := M
theorem mN_q4_0 (M : am_M) (a : Nat) : mN (q4_0 M a) = mN M + 0 := rfl
theorem ok_q4_0 {M : am_M} {a x t n : Nat} (h : am_ok M x t n) : am_ok (q4_0 M a) x t n := h
def q4_1 (M : am_M) (a : Nat) : am_M := wR (w7 (wN (q4_0 M a) 7 0) (a + 1)) a 0 (some (a + 1))
theorem mN_q4_1 (M : am_M) (a : Nat) : mN (q4_1 M a) = mN M + 4 := by
  have h1 := mN_q4_0 M a
  have h2 := mN_w7 (wN (q4_0 M a) 7 0) (a + 1)
  show mN (w7 (wN (q4_0 M a) 7 0) (a + 1)) = _
  rw [h2]
  show mN (q4_0 M a) + 1 + _ = _
  omega
theorem ok_q4_1 {M : am_M} {a x t n : Nat} (h : am_ok M x t n) : am_ok (q4_1 M a) x t n := okw_wR (ok_w7 (okw_wN (ok_q4_0 h) _ _)) _ _ _
def q4_2 (M : am_M) (a : Nat) : am_M := wI (q4_1 M a) a 1 (-1)
theorem mN_q4_2 (M : am_M) (a : Nat) : mN (q4_2 M a) = mN M + 4 := by
  have h1 := mN_q4_1 M a
  show mN (q4_1 M a) + 0 = _
  omega
theorem ok_q4_2 {M : am_M} {a x t n : Nat} (h : am_ok M x t n) : am_ok (q4_2 M a) x t n := okw_wI (ok_q4_1 h) _ _ _
def w4 (M : am_M) (a : Nat) : am_M := q4_2 M a
theorem mN_w4 (M : am_M) (a : Nat) : mN (w4 M a) = mN M + 4 := mN_q4_2 M a
theorem ok_w4 {M : am_M} {a x t n : Nat} (h : am_ok M x t n) : am_ok (w4 M a) x t n := ok_q4_2 h
set_option maxHeartbeats 4000000 in
set_option maxRecDepth 100000 in
theorem c_X4_init {l : Launch} {X : Nat × (Nat → Int32)} {M : am_M} {a : Nat} (ha : am_ok M a 4 0) (hN : mN M = a) : am_F l yX4_init cX4_init 1 (none) 2 4 51 X [.ref a] M none (w4 M a) := by
  refine am_C.of (by decide) (by simp [Value.category, va_rf]) (Nat.le_of_ble_eq_true rfl) ?_
  refine r_aload_n dX4_init_0 rfl ?_
  refine r_objInit ml_X4_3 im_JobjectInit co_objectInit ⟨by decide, Nat.le_of_ble_eq_true rfl⟩ dX4_init_1 ?_
  refine r_mem (q4_0 M a) rfl ?_
  refine r_aload_n dX4_init_4 rfl ?_
  refine r_nO (a + 1) (by have := mN_q4_0 M a; omega) kX7 cl_X4_9 ins_X7 ini_X7 (by omega) (by omega) dX4_init_5 ?_
  refine r_dup dX4_init_8 rfl ?_
  refine r_cIN ca_yX7_init nl_X4_11 im_yX7_init rfl (c_X7_init (okN 7 0 (by have := mN_q4_0 M a; omega)) (by have := mN_q4_0 M a; show mN (q4_0 M a) + 1 = _; omega)) ⟨by decide, by decide⟩ (by omega) (by omega) rfl (Nat.le_of_ble_eq_true rfl) dX4_init_9 ?_
  refine r_putF (r := a + 1) kX4 (k := 0) (by decide) rfl (Or.inr ⟨rfl, rfl, rfl, rfl⟩) fl_X4_12 (ok_w7 (okw_wN (ok_q4_0 ha) _ _)) dX4_init_12 ?_
  refine r_mem (q4_1 M a) rfl ?_
  refine r_aload_n dX4_init_15 rfl ?_
  refine r_iconst (-1) dX4_init_16 (by decide) ?_
  refine r_putI kX4 (k := 1) (by decide) rfl (Or.inl rfl) fl_X4_18 (ok_q4_1 ha) ⟨rfl, rfl⟩ dX4_init_17 ?_
  refine r_mem (q4_2 M a) rfl ?_
  exact r_vret rfl dX4_init_20 ⟨rfl, rfl⟩
def q6_0 (M : am_M) (a : Nat) : am_M := M
theorem mN_q6_0 (M : am_M) (a : Nat) : mN (q6_0 M a) = mN M + 0 := rfl
theorem ok_q6_0 {M : am_M} {a x t n : Nat} (h : am_ok M x t n) : am_ok (q6_0 M a) x t n := h
def q6_1 (M : am_M) (a : Nat) : am_M := wR (wN (q6_0 M a) 12 10) a 0 (some (a + 1))
theorem mN_q6_1 (M : am_M) (a : Nat) : mN (q6_1 M a) = mN M + 1 := by
  have h1 := mN_q6_0 M a
  show mN (q6_0 M a) + 1 = _
  omega
theorem ok_q6_1 {M : am_M} {a x t n : Nat} (h : am_ok M x t n) : am_ok (q6_1 M a) x t n := okw_wR (okw_wN (ok_q6_0 h) _ _) _ _ _
def q6_2 (M : am_M) (a : Nat) : am_M := wR (wN (q6_1 M a) 12 10) a 1 (some (a + 2))
theorem mN_q6_2 (M : am_M) (a : Nat) : mN (q6_2 M a) = mN M + 2 := by
  have h1 := mN_q6_1 M a
  show mN (q6_1 M a) + 1 = _
  omega
theorem ok_q6_2 {M : am_M} {a x t n : Nat} (h : am_ok M x t n) : am_ok (q6_2 M a) x t n := okw_wR (okw_wN (ok_q6_1 h) _ _) _ _ _
def q6_3 (M : am_M) (a : Nat) : am_M := wR (w4 (wN (q6_2 M a) 4 0) (a + 3)) a 2 (some (a + 3))
theorem mN_q6_3 (M : am_M) (a : Nat) : mN (q6_3 M a) = mN M + 7 := by
  have h1 := mN_q6_2 M a
  have h2 := mN_w4 (wN (q6_2 M a) 4 0) (a + 3)
  show mN (w4 (wN (q6_2 M a) 4 0) (a + 3)) = _
  rw [h2]
  show mN (q6_2 M a) + 1 + _ = _
  omega
theorem ok_q6_3 {M : am_M} {a x t n : Nat} (h : am_ok M x t n) : am_ok (q6_3 M a) x t n := okw_wR (ok_w4 (okw_wN (ok_q6_2 h) _ _)) _ _ _
def q6_4 (M : am_M) (a : Nat) : am_M := wR (w4 (wN (q6_3 M a) 4 0) (a + 8)) a 3 (some (a + 8))
theorem mN_q6_4 (M : am_M) (a : Nat) : mN (q6_4 M a) = mN M + 12 := by
  have h1 := mN_q6_3 M a
  have h2 := mN_w4 (wN (q6_3 M a) 4 0) (a + 8)
  show mN (w4 (wN (q6_3 M a) 4 0) (a + 8)) = _
  rw [h2]
  show mN (q6_3 M a) + 1 + _ = _
  omega
theorem ok_q6_4 {M : am_M} {a x t n : Nat} (h : am_ok M x t n) : am_ok (q6_4 M a) x t n := okw_wR (ok_w4 (okw_wN (ok_q6_3 h) _ _)) _ _ _
def w6 (M : am_M) (a : Nat) : am_M := q6_4 M a
theorem mN_w6 (M : am_M) (a : Nat) : mN (w6 M a) = mN M + 12 := mN_q6_4 M a
theorem ok_w6 {M : am_M} {a x t n : Nat} (h : am_ok M x t n) : am_ok (w6 M a) x t n := ok_q6_4 h
set_option maxHeartbeats 4000000 in
set_option maxRecDepth 100000 in
theorem c_X6_init {l : Launch} {X : Nat × (Nat → Int32)} {M : am_M} {a : Nat} (ha : am_ok M a 6 0) (hN : mN M = a) : am_F l yX6_init cX6_init 1 (none) 3 12 126 X [.ref a] M none (w6 M a) := by
  refine am_C.of (by decide) (by simp [Value.category, va_rf]) (Nat.le_of_ble_eq_true rfl) ?_
  refine r_aload_n dX6_init_0 rfl ?_
  refine r_objInit ml_X6_3 im_JobjectInit co_objectInit ⟨by decide, Nat.le_of_ble_eq_true rfl⟩ dX6_init_1 ?_
  refine r_mem (q6_0 M a) rfl ?_
  refine r_aload_n dX6_init_4 rfl ?_
  refine r_bipush (nI 10) dX6_init_5 (by decide) ?_
  refine r_nA (a + 1) (by have := mN_q6_0 M a; omega) (Or.inl ⟨rfl, rfl⟩) cl_X6_9 (by decide) (by omega) (by omega) dX6_init_7 ?_
  refine r_putF (r := a + 1) kX6 (k := 0) (by decide) rfl (Or.inr ⟨rfl, rfl, rfl, rfl⟩) fl_X6_11 (okw_wN (ok_q6_0 ha) _ _) dX6_init_10 ?_
  refine r_mem (q6_1 M a) rfl ?_
  refine r_aload_n dX6_init_13 rfl ?_
  refine r_bipush (nI 10) dX6_init_14 (by decide) ?_
  refine r_nA (a + 2) (by have := mN_q6_1 M a; omega) (Or.inl ⟨rfl, rfl⟩) cl_X6_9 (by decide) (by omega) (by omega) dX6_init_16 ?_
  refine r_putF (r := a + 2) kX6 (k := 1) (by decide) rfl (Or.inr ⟨rfl, rfl, rfl, rfl⟩) fl_X6_17 (okw_wN (ok_q6_1 ha) _ _) dX6_init_19 ?_
  refine r_mem (q6_2 M a) rfl ?_
  refine r_aload_n dX6_init_22 rfl ?_
  refine r_nO (a + 3) (by have := mN_q6_2 M a; omega) kX4 cl_X6_20 ins_X4 ini_X4 (by omega) (by omega) dX6_init_23 ?_
  refine r_dup dX6_init_26 rfl ?_
  refine r_cIN ca_yX4_init nl_X6_22 im_yX4_init rfl (c_X4_init (okN 4 0 (by have := mN_q6_2 M a; omega)) (by have := mN_q6_2 M a; show mN (q6_2 M a) + 1 = _; omega)) ⟨by decide, by decide⟩ (by omega) (by omega) rfl (Nat.le_of_ble_eq_true rfl) dX6_init_27 ?_
  refine r_putF (r := a + 3) kX6 (k := 2) (by decide) rfl (Or.inl rfl) fl_X6_23 (ok_w4 (okw_wN (ok_q6_2 ha) _ _)) dX6_init_30 ?_
  refine r_mem (q6_3 M a) rfl ?_
  refine r_aload_n dX6_init_33 rfl ?_
  refine r_nO (a + 8) (by have := mN_q6_3 M a; omega) kX4 cl_X6_20 ins_X4 ini_X4 (by omega) (by omega) dX6_init_34 ?_
  refine r_dup dX6_init_37 rfl ?_
  refine r_cIN ca_yX4_init nl_X6_22 im_yX4_init rfl (c_X4_init (okN 4 0 (by have := mN_q6_3 M a; omega)) (by have := mN_q6_3 M a; show mN (q6_3 M a) + 1 = _; omega)) ⟨by decide, by decide⟩ (by omega) (by omega) rfl (Nat.le_of_ble_eq_true rfl) dX6_init_38 ?_
  refine r_putF (r := a + 8) kX6 (k := 3) (by decide) rfl (Or.inl rfl) fl_X6_27 (ok_w4 (okw_wN (ok_q6_3 ha) _ _)) dX6_init_41 ?_
  refine r_mem (q6_4 M a) rfl ?_
  exact r_vret rfl dX6_init_44 ⟨rfl, rfl⟩
def q8_0 (M : am_M) (a : Nat) : am_M := M
theorem mN_q8_0 (M : am_M) (a : Nat) : mN (q8_0 M a) = mN M + 0 := rfl
theorem ok_q8_0 {M : am_M} {a x t n : Nat} (h : am_ok M x t n) : am_ok (q8_0 M a) x t n := h
def q8_1 (M : am_M) (a : Nat) : am_M := wR (w1 (wN (q8_0 M a) 1 0) (a + 1)) a 0 (some (a + 1))
theorem mN_q8_1 (M : am_M) (a : Nat) : mN (q8_1 M a) = mN M + 6 := by
  have h1 := mN_q8_0 M a
  have h2 := mN_w1 (wN (q8_0 M a) 1 0) (a + 1)
  show mN (w1 (wN (q8_0 M a) 1 0) (a + 1)) = _
  rw [h2]
  show mN (q8_0 M a) + 1 + _ = _
  omega
theorem ok_q8_1 {M : am_M} {a x t n : Nat} (h : am_ok M x t n) : am_ok (q8_1 M a) x t n := okw_wR (ok_w1 (okw_wN (ok_q8_0 h) _ _)) _ _ _
def q8_2 (M : am_M) (a : Nat) : am_M := wR (w7 (wN (q8_1 M a) 7 0) (a + 7)) a 1 (some (a + 7))
theorem mN_q8_2 (M : am_M) (a : Nat) : mN (q8_2 M a) = mN M + 10 := by
  have h1 := mN_q8_1 M a
  have h2 := mN_w7 (wN (q8_1 M a) 7 0) (a + 7)
  show mN (w7 (wN (q8_1 M a) 7 0) (a + 7)) = _
  rw [h2]
  show mN (q8_1 M a) + 1 + _ = _
  omega
theorem ok_q8_2 {M : am_M} {a x t n : Nat} (h : am_ok M x t n) : am_ok (q8_2 M a) x t n := okw_wR (ok_w7 (okw_wN (ok_q8_1 h) _ _)) _ _ _
def q8_3 (M : am_M) (a : Nat) : am_M := wR (w7 (wN (q8_2 M a) 7 0) (a + 11)) a 2 (some (a + 11))
theorem mN_q8_3 (M : am_M) (a : Nat) : mN (q8_3 M a) = mN M + 14 := by
  have h1 := mN_q8_2 M a
  have h2 := mN_w7 (wN (q8_2 M a) 7 0) (a + 11)
  show mN (w7 (wN (q8_2 M a) 7 0) (a + 11)) = _
  rw [h2]
  show mN (q8_2 M a) + 1 + _ = _
  omega
theorem ok_q8_3 {M : am_M} {a x t n : Nat} (h : am_ok M x t n) : am_ok (q8_3 M a) x t n := okw_wR (ok_w7 (okw_wN (ok_q8_2 h) _ _)) _ _ _
def q8_4 (M : am_M) (a : Nat) : am_M := wR (w2 (wN (q8_3 M a) 2 0) (a + 15)) a 3 (some (a + 15))
theorem mN_q8_4 (M : am_M) (a : Nat) : mN (q8_4 M a) = mN M + 18 := by
  have h1 := mN_q8_3 M a
  have h2 := mN_w2 (wN (q8_3 M a) 2 0) (a + 15)
  show mN (w2 (wN (q8_3 M a) 2 0) (a + 15)) = _
  rw [h2]
  show mN (q8_3 M a) + 1 + _ = _
  omega
theorem ok_q8_4 {M : am_M} {a x t n : Nat} (h : am_ok M x t n) : am_ok (q8_4 M a) x t n := okw_wR (ok_w2 (okw_wN (ok_q8_3 h) _ _)) _ _ _
def q8_5 (M : am_M) (a : Nat) : am_M := wR (w0 (wN (q8_4 M a) 0 0) (a + 19)) a 4 (some (a + 19))
theorem mN_q8_5 (M : am_M) (a : Nat) : mN (q8_5 M a) = mN M + 22 := by
  have h1 := mN_q8_4 M a
  have h2 := mN_w0 (wN (q8_4 M a) 0 0) (a + 19)
  show mN (w0 (wN (q8_4 M a) 0 0) (a + 19)) = _
  rw [h2]
  show mN (q8_4 M a) + 1 + _ = _
  omega
theorem ok_q8_5 {M : am_M} {a x t n : Nat} (h : am_ok M x t n) : am_ok (q8_5 M a) x t n := okw_wR (ok_w0 (okw_wN (ok_q8_4 h) _ _)) _ _ _
def q8_6 (M : am_M) (a : Nat) : am_M := wR (w5 (wN (q8_5 M a) 5 0) (a + 23)) a 5 (some (a + 23))
theorem mN_q8_6 (M : am_M) (a : Nat) : mN (q8_6 M a) = mN M + 24 := by
  have h1 := mN_q8_5 M a
  have h2 := mN_w5 (wN (q8_5 M a) 5 0) (a + 23)
  show mN (w5 (wN (q8_5 M a) 5 0) (a + 23)) = _
  rw [h2]
  show mN (q8_5 M a) + 1 + _ = _
  omega
theorem ok_q8_6 {M : am_M} {a x t n : Nat} (h : am_ok M x t n) : am_ok (q8_6 M a) x t n := okw_wR (ok_w5 (okw_wN (ok_q8_5 h) _ _)) _ _ _
def q8_7 (M : am_M) (a : Nat) : am_M := wR (wN (q8_6 M a) 13 5) a 6 (some (a + 25))
theorem mN_q8_7 (M : am_M) (a : Nat) : mN (q8_7 M a) = mN M + 25 := by
  have h1 := mN_q8_6 M a
  show mN (q8_6 M a) + 1 = _
  omega
theorem ok_q8_7 {M : am_M} {a x t n : Nat} (h : am_ok M x t n) : am_ok (q8_7 M a) x t n := okw_wR (okw_wN (ok_q8_6 h) _ _) _ _ _
def q8_8 (M : am_M) (a : Nat) : am_M := wR (wN (q8_7 M a) 10 4) a 7 (some (a + 26))
theorem mN_q8_8 (M : am_M) (a : Nat) : mN (q8_8 M a) = mN M + 26 := by
  have h1 := mN_q8_7 M a
  show mN (q8_7 M a) + 1 = _
  omega
theorem ok_q8_8 {M : am_M} {a x t n : Nat} (h : am_ok M x t n) : am_ok (q8_8 M a) x t n := okw_wR (okw_wN (ok_q8_7 h) _ _) _ _ _
def q8_9 (M : am_M) (a : Nat) : am_M := wR (w6 (wN (q8_8 M a) 6 0) (a + 27)) (a + 25) 0 (some (a + 27))
theorem mN_q8_9 (M : am_M) (a : Nat) : mN (q8_9 M a) = mN M + 39 := by
  have h1 := mN_q8_8 M a
  have h2 := mN_w6 (wN (q8_8 M a) 6 0) (a + 27)
  show mN (w6 (wN (q8_8 M a) 6 0) (a + 27)) = _
  rw [h2]
  show mN (q8_8 M a) + 1 + _ = _
  omega
theorem ok_q8_9 {M : am_M} {a x t n : Nat} (h : am_ok M x t n) : am_ok (q8_9 M a) x t n := okw_wR (ok_w6 (okw_wN (ok_q8_8 h) _ _)) _ _ _
def q8_10 (M : am_M) (a : Nat) : am_M := wR (w6 (wN (q8_9 M a) 6 0) (a + 40)) (a + 25) 1 (some (a + 40))
theorem mN_q8_10 (M : am_M) (a : Nat) : mN (q8_10 M a) = mN M + 52 := by
  have h1 := mN_q8_9 M a
  have h2 := mN_w6 (wN (q8_9 M a) 6 0) (a + 40)
  show mN (w6 (wN (q8_9 M a) 6 0) (a + 40)) = _
  rw [h2]
  show mN (q8_9 M a) + 1 + _ = _
  omega
theorem ok_q8_10 {M : am_M} {a x t n : Nat} (h : am_ok M x t n) : am_ok (q8_10 M a) x t n := okw_wR (ok_w6 (okw_wN (ok_q8_9 h) _ _)) _ _ _
def q8_11 (M : am_M) (a : Nat) : am_M := wR (w6 (wN (q8_10 M a) 6 0) (a + 53)) (a + 25) 2 (some (a + 53))
theorem mN_q8_11 (M : am_M) (a : Nat) : mN (q8_11 M a) = mN M + 65 := by
  have h1 := mN_q8_10 M a
  have h2 := mN_w6 (wN (q8_10 M a) 6 0) (a + 53)
  show mN (w6 (wN (q8_10 M a) 6 0) (a + 53)) = _
  rw [h2]
  show mN (q8_10 M a) + 1 + _ = _
  omega
theorem ok_q8_11 {M : am_M} {a x t n : Nat} (h : am_ok M x t n) : am_ok (q8_11 M a) x t n := okw_wR (ok_w6 (okw_wN (ok_q8_10 h) _ _)) _ _ _
def q8_12 (M : am_M) (a : Nat) : am_M := wR (w6 (wN (q8_11 M a) 6 0) (a + 66)) (a + 25) 3 (some (a + 66))
theorem mN_q8_12 (M : am_M) (a : Nat) : mN (q8_12 M a) = mN M + 78 := by
  have h1 := mN_q8_11 M a
  have h2 := mN_w6 (wN (q8_11 M a) 6 0) (a + 66)
  show mN (w6 (wN (q8_11 M a) 6 0) (a + 66)) = _
  rw [h2]
  show mN (q8_11 M a) + 1 + _ = _
  omega
theorem ok_q8_12 {M : am_M} {a x t n : Nat} (h : am_ok M x t n) : am_ok (q8_12 M a) x t n := okw_wR (ok_w6 (okw_wN (ok_q8_11 h) _ _)) _ _ _
def q8_13 (M : am_M) (a : Nat) : am_M := wR (w6 (wN (q8_12 M a) 6 0) (a + 79)) (a + 25) 4 (some (a + 79))
theorem mN_q8_13 (M : am_M) (a : Nat) : mN (q8_13 M a) = mN M + 91 := by
  have h1 := mN_q8_12 M a
  have h2 := mN_w6 (wN (q8_12 M a) 6 0) (a + 79)
  show mN (w6 (wN (q8_12 M a) 6 0) (a + 79)) = _
  rw [h2]
  show mN (q8_12 M a) + 1 + _ = _
  omega
theorem ok_q8_13 {M : am_M} {a x t n : Nat} (h : am_ok M x t n) : am_ok (q8_13 M a) x t n := okw_wR (ok_w6 (okw_wN (ok_q8_12 h) _ _)) _ _ _
def w8 (M : am_M) (a : Nat) : am_M := wI (q8_13 M a) a 8 (nI 2)
theorem mN_w8 (M : am_M) (a : Nat) : mN (w8 M a) = mN M + 91 := mN_q8_13 M a
theorem fr_w7 (M : am_M) (a : Nat) {x : Nat} (h : x ≤ mN M) (hx : x ≠ a) : mR (w7 M a) x = mR M x := by
  show mR (wR (wN (wR (wN (wR (wN M 10 16) a 0 (some (a + 1))) 10 16) a 1 (some (a + 2))) 11 16) a 2 (some (a + 3))) x = _
  rw [mR_wR_n _ _ _ hx, mR_wN_n _ _ _ (by show x ≠ mN M + 1 + 1 + 1; omega), mR_wR_n _ _ _ hx, mR_wN_n _ _ _ (by show x ≠ mN M + 1 + 1; omega), mR_wR_n _ _ _ hx, mR_wN_n _ _ _ (by omega)]
theorem fr_w4 (M : am_M) (a : Nat) {x : Nat} (h : x ≤ mN M) (hx : x ≠ a) (hx2 : x ≠ a + 1) : mR (w4 M a) x = mR M x := by
  show mR (wR (w7 (wN M 7 0) (a + 1)) a 0 (some (a + 1))) x = _
  rw [mR_wR_n _ _ _ hx, fr_w7 _ _ (by show x ≤ mN M + 1; omega) hx2, mR_wN_n _ _ _ (by omega)]
theorem fr_w6 (M : am_M) (a : Nat) {x : Nat} (h : x ≤ mN M) (hx : x < a) : mR (w6 M a) x = mR M x := by
  have n4 := mN_w4 (wN (wR (wN (wR (wN M 12 10) a 0 (some (a + 1))) 12 10) a 1 (some (a + 2))) 4 0) (a + 3)
  show mR (wR (w4 (wN (wR (w4 (wN (wR (wN (wR (wN M 12 10) a 0 (some (a + 1))) 12 10) a 1 (some (a + 2))) 4 0) (a + 3)) a 2 (some (a + 3))) 4 0) (a + 8)) a 3 (some (a + 8))) x = _
  rw [mR_wR_n _ _ _ (by omega), fr_w4 _ _ (by show x ≤ mN (w4 _ _) + 1; rw [n4]; show x ≤ mN M + 1 + 1 + 1 + 4 + 1; omega) (by omega) (by omega), mR_wN_n _ _ _ (by show x ≠ mN (w4 _ _) + 1; rw [n4]; show x ≠ mN M + 1 + 1 + 1 + 4 + 1; omega), mR_wR_n _ _ _ (by omega), fr_w4 _ _ (by show x ≤ mN M + 1 + 1 + 1; omega) (by omega) (by omega), mR_wN_n _ _ _ (by show x ≠ mN M + 1 + 1 + 1; omega), mR_wR_n _ _ _ (by omega), mR_wN_n _ _ _ (by show x ≠ mN M + 1 + 1; omega), mR_wR_n _ _ _ (by omega), mR_wN_n _ _ _ (by omega)]
theorem row_8 (M : am_M) (a : Nat) (ha : am_ok M a 8 0) (hN : mN M = a) : mR (q8_8 M a) a 6 = some (a + 25) := by
  have h7 := mN_q8_6 M a
  show mR (wR (wN (wR (wN (q8_6 M a) 13 5) a 6 (some (a + 25))) 10 4) a 7 (some (a + 26))) a 6 = _
  rw [mR_wR, if_neg (by omega), mR_wN_n _ _ _ (by show a ≠ mN (q8_6 M a) + 1 + 1; omega), mR_wR, if_pos ⟨rfl, rfl⟩]
theorem rok_8 (M : am_M) (a : Nat) (hN : mN M = a) : am_ok (q8_8 M a) (a + 25) 13 5 := okw_wR (okw_wN (okw_wR (okN (M := q8_6 M a) 13 5 (by have := mN_q8_6 M a; omega)) _ _ _) _ _) _ _ _
theorem row_9 (M : am_M) (a : Nat) (ha : am_ok M a 8 0) (hN : mN M = a) : mR (q8_9 M a) a 6 = some (a + 25) := by
  have h7 := mN_q8_8 M a
  show mR (wR (w6 (wN (q8_8 M a) 6 0) (a + 27)) (a + 25) 0 (some (a + 27))) a 6 = _
  rw [mR_wR, if_neg (by omega), fr_w6 _ _ (by show a ≤ mN (q8_8 M a) + 1; omega) (by omega), mR_wN_n _ _ _ (by omega)]
  exact row_8 M a ha hN
theorem rok_9 (M : am_M) (a : Nat) (hN : mN M = a) : am_ok (q8_9 M a) (a + 25) 13 5 := okw_wR (ok_w6 (okw_wN (rok_8 M a hN) _ _)) _ _ _
theorem row_10 (M : am_M) (a : Nat) (ha : am_ok M a 8 0) (hN : mN M = a) : mR (q8_10 M a) a 6 = some (a + 25) := by
  have h7 := mN_q8_9 M a
  show mR (wR (w6 (wN (q8_9 M a) 6 0) (a + 40)) (a + 25) 1 (some (a + 40))) a 6 = _
  rw [mR_wR, if_neg (by omega), fr_w6 _ _ (by show a ≤ mN (q8_9 M a) + 1; omega) (by omega), mR_wN_n _ _ _ (by omega)]
  exact row_9 M a ha hN
theorem rok_10 (M : am_M) (a : Nat) (hN : mN M = a) : am_ok (q8_10 M a) (a + 25) 13 5 := okw_wR (ok_w6 (okw_wN (rok_9 M a hN) _ _)) _ _ _
theorem row_11 (M : am_M) (a : Nat) (ha : am_ok M a 8 0) (hN : mN M = a) : mR (q8_11 M a) a 6 = some (a + 25) := by
  have h7 := mN_q8_10 M a
  show mR (wR (w6 (wN (q8_10 M a) 6 0) (a + 53)) (a + 25) 2 (some (a + 53))) a 6 = _
  rw [mR_wR, if_neg (by omega), fr_w6 _ _ (by show a ≤ mN (q8_10 M a) + 1; omega) (by omega), mR_wN_n _ _ _ (by omega)]
  exact row_10 M a ha hN
theorem rok_11 (M : am_M) (a : Nat) (hN : mN M = a) : am_ok (q8_11 M a) (a + 25) 13 5 := okw_wR (ok_w6 (okw_wN (rok_10 M a hN) _ _)) _ _ _
theorem row_12 (M : am_M) (a : Nat) (ha : am_ok M a 8 0) (hN : mN M = a) : mR (q8_12 M a) a 6 = some (a + 25) := by
  have h7 := mN_q8_11 M a
  show mR (wR (w6 (wN (q8_11 M a) 6 0) (a + 66)) (a + 25) 3 (some (a + 66))) a 6 = _
  rw [mR_wR, if_neg (by omega), fr_w6 _ _ (by show a ≤ mN (q8_11 M a) + 1; omega) (by omega), mR_wN_n _ _ _ (by omega)]
  exact row_11 M a ha hN
theorem rok_12 (M : am_M) (a : Nat) (hN : mN M = a) : am_ok (q8_12 M a) (a + 25) 13 5 := okw_wR (ok_w6 (okw_wN (rok_11 M a hN) _ _)) _ _ _
set_option maxHeartbeats 4000000 in
set_option maxRecDepth 100000 in
theorem c_X8_init {l : Launch} {X : Nat × (Nat → Int32)} {M : am_M} {a : Nat} (ha : am_ok M a 8 0) (hN : mN M = a) : am_F l yX8_init cX8_init 2 (none) 4 91 1173 X [.ref a] M none (w8 M a) := by
  refine am_C.of (by decide) (by simp [Value.category, va_rf]) (Nat.le_of_ble_eq_true rfl) ?_
  refine r_aload_n dX8_init_0 rfl ?_
  refine r_objInit ml_X8_3 im_JobjectInit co_objectInit ⟨by decide, Nat.le_of_ble_eq_true rfl⟩ dX8_init_1 ?_
  refine r_mem (q8_0 M a) rfl ?_
  refine r_aload_n dX8_init_4 rfl ?_
  refine r_nO (a + 1) (by have := mN_q8_0 M a; omega) kX1 cl_X8_9 ins_X1 ini_X1 (by omega) (by omega) dX8_init_5 ?_
  refine r_dup dX8_init_8 rfl ?_
  refine r_cIN ca_yX1_init nl_X8_11 im_yX1_init rfl (c_X1_init (okN 1 0 (by have := mN_q8_0 M a; omega)) (by have := mN_q8_0 M a; show mN (q8_0 M a) + 1 = _; omega)) ⟨by decide, by decide⟩ (by omega) (by omega) rfl (Nat.le_of_ble_eq_true rfl) dX8_init_9 ?_
  refine r_putF (r := a + 1) kX8 (k := 0) (by decide) rfl (Or.inr ⟨rfl, rfl, rfl, rfl⟩) fl_X8_12 (ok_w1 (okw_wN (ok_q8_0 ha) _ _)) dX8_init_12 ?_
  refine r_mem (q8_1 M a) rfl ?_
  refine r_aload_n dX8_init_15 rfl ?_
  refine r_nO (a + 7) (by have := mN_q8_1 M a; omega) kX7 cl_X8_18 ins_X7 ini_X7 (by omega) (by omega) dX8_init_16 ?_
  refine r_dup dX8_init_19 rfl ?_
  refine r_cIN ca_yX7_init nl_X8_20 im_yX7_init rfl (c_X7_init (okN 7 0 (by have := mN_q8_1 M a; omega)) (by have := mN_q8_1 M a; show mN (q8_1 M a) + 1 = _; omega)) ⟨by decide, by decide⟩ (by omega) (by omega) rfl (Nat.le_of_ble_eq_true rfl) dX8_init_20 ?_
  refine r_putF (r := a + 7) kX8 (k := 1) (by decide) rfl (Or.inr ⟨rfl, rfl, rfl, rfl⟩) fl_X8_21 (ok_w7 (okw_wN (ok_q8_1 ha) _ _)) dX8_init_23 ?_
  refine r_mem (q8_2 M a) rfl ?_
  refine r_aload_n dX8_init_26 rfl ?_
  refine r_nO (a + 11) (by have := mN_q8_2 M a; omega) kX7 cl_X8_18 ins_X7 ini_X7 (by omega) (by omega) dX8_init_27 ?_
  refine r_dup dX8_init_30 rfl ?_
  refine r_cIN ca_yX7_init nl_X8_20 im_yX7_init rfl (c_X7_init (okN 7 0 (by have := mN_q8_2 M a; omega)) (by have := mN_q8_2 M a; show mN (q8_2 M a) + 1 = _; omega)) ⟨by decide, by decide⟩ (by omega) (by omega) rfl (Nat.le_of_ble_eq_true rfl) dX8_init_31 ?_
  refine r_putF (r := a + 11) kX8 (k := 2) (by decide) rfl (Or.inr ⟨rfl, rfl, rfl, rfl⟩) fl_X8_25 (ok_w7 (okw_wN (ok_q8_2 ha) _ _)) dX8_init_34 ?_
  refine r_mem (q8_3 M a) rfl ?_
  refine r_aload_n dX8_init_37 rfl ?_
  refine r_nO (a + 15) (by have := mN_q8_3 M a; omega) kX2 cl_X8_28 ins_X2 ini_X2 (by omega) (by omega) dX8_init_38 ?_
  refine r_dup dX8_init_41 rfl ?_
  refine r_cIN ca_yX2_init nl_X8_30 im_yX2_init rfl (c_X2_init (okN 2 0 (by have := mN_q8_3 M a; omega)) (by have := mN_q8_3 M a; show mN (q8_3 M a) + 1 = _; omega)) ⟨by decide, by decide⟩ (by omega) (by omega) rfl (Nat.le_of_ble_eq_true rfl) dX8_init_42 ?_
  refine r_putF (r := a + 15) kX8 (k := 3) (by decide) rfl (Or.inr ⟨rfl, rfl, rfl, rfl⟩) fl_X8_31 (ok_w2 (okw_wN (ok_q8_3 ha) _ _)) dX8_init_45 ?_
  refine r_mem (q8_4 M a) rfl ?_
  refine r_aload_n dX8_init_48 rfl ?_
  refine r_nO (a + 19) (by have := mN_q8_4 M a; omega) kX0 cl_X8_35 ins_X0 ini_X0 (by omega) (by omega) dX8_init_49 ?_
  refine r_dup dX8_init_52 rfl ?_
  refine r_cIN ca_yX0_init nl_X8_37 im_yX0_init rfl (c_X0_init (okN 0 0 (by have := mN_q8_4 M a; omega)) (by have := mN_q8_4 M a; show mN (q8_4 M a) + 1 = _; omega)) ⟨by decide, by decide⟩ (by omega) (by omega) rfl (Nat.le_of_ble_eq_true rfl) dX8_init_53 ?_
  refine r_putF (r := a + 19) kX8 (k := 4) (by decide) rfl (Or.inr ⟨rfl, rfl, rfl, rfl⟩) fl_X8_38 (ok_w0 (okw_wN (ok_q8_4 ha) _ _)) dX8_init_56 ?_
  refine r_mem (q8_5 M a) rfl ?_
  refine r_aload_n dX8_init_59 rfl ?_
  refine r_nO (a + 23) (by have := mN_q8_5 M a; omega) kX5 cl_X8_42 ins_X5 ini_X5 (by omega) (by omega) dX8_init_60 ?_
  refine r_dup dX8_init_63 rfl ?_
  refine r_cIN ca_yX5_init nl_X8_44 im_yX5_init rfl (c_X5_init (okN 5 0 (by have := mN_q8_5 M a; omega)) (by have := mN_q8_5 M a; show mN (q8_5 M a) + 1 = _; omega)) ⟨by decide, by decide⟩ (by omega) (by omega) rfl (Nat.le_of_ble_eq_true rfl) dX8_init_64 ?_
  refine r_putF (r := a + 23) kX8 (k := 5) (by decide) rfl (Or.inr ⟨rfl, rfl, rfl, rfl⟩) fl_X8_45 (ok_w5 (okw_wN (ok_q8_5 ha) _ _)) dX8_init_67 ?_
  refine r_mem (q8_6 M a) rfl ?_
  refine r_aload_n dX8_init_70 rfl ?_
  refine r_iconst (nI 5) dX8_init_71 (by decide) ?_
  refine r_nA (a + 25) (by have := mN_q8_6 M a; omega) (Or.inr ⟨rfl, rfl⟩) cl_X8_49 (by decide) (by omega) (by omega) dX8_init_72 ?_
  refine r_putF (r := a + 25) kX8 (k := 6) (by decide) rfl (Or.inr ⟨rfl, rfl, rfl, rfl⟩) fl_X8_51 (okw_wN (ok_q8_6 ha) _ _) dX8_init_75 ?_
  refine r_mem (q8_7 M a) rfl ?_
  refine r_aload_n dX8_init_78 rfl ?_
  refine r_iconst (nI 4) dX8_init_79 (by decide) ?_
  refine r_nI (a + 26) (by have := mN_q8_7 M a; omega) (by decide) (by omega) (by omega) dX8_init_80 ?_
  refine r_putF (r := a + 26) kX8 (k := 7) (by decide) rfl (Or.inr ⟨rfl, rfl, rfl, rfl⟩) fl_X8_55 (okw_wN (ok_q8_7 ha) _ _) dX8_init_82 ?_
  refine r_mem (q8_8 M a) rfl ?_
  refine r_iconst (nI 0) dX8_init_85 (by decide) ?_
  refine r_istore_n _ dX8_init_86 (by decide) rfl ?_
  refine r_iload_n dX8_init_87 rfl ?_
  refine r_iconst (nI 5) dX8_init_88 (by decide) ?_
  refine r_icmp_ge 111 dX8_init_89 (by decide) (fun hq => absurd hq (by decide)) (fun _ => ?_)
  refine r_aload_n dX8_init_92 rfl ?_
  refine r_getF (r := a + 25) kX8 (k := 6) (by decide) rfl fl_X8_51 (ok_q8_8 ha) (row_8 M a ha hN) dX8_init_93 ?_
  refine r_iload_n dX8_init_96 rfl ?_
  refine r_nO (a + 27) (by have := mN_q8_8 M a; omega) kX6 cl_X8_49 ins_X6 ini_X6 (by omega) (by omega) dX8_init_97 ?_
  refine r_dup dX8_init_100 rfl ?_
  refine r_cIN ca_yX6_init nl_X8_59 im_yX6_init rfl (c_X6_init (okN 6 0 (by have := mN_q8_8 M a; omega)) (by have := mN_q8_8 M a; show mN (q8_8 M a) + 1 = _; omega)) ⟨by decide, by decide⟩ (by omega) (by omega) rfl (Nat.le_of_ble_eq_true rfl) dX8_init_101 ?_
  refine r_aastO (Or.inr ⟨rfl, rfl⟩) (ok_w6 (okw_wN (rok_8 M a hN) _ _)) (by decide) (by decide) (ok_w6 (okN 6 0 (by have := mN_q8_8 M a; omega))) dX8_init_104 ?_
  refine r_iinc (nI 1) _ dX8_init_105 (by decide) rfl (nI_1 0) rfl ?_
  refine r_goto 87 dX8_init_108 (by decide) ?_
  refine r_mem (q8_9 M a) rfl ?_
  refine r_iload_n dX8_init_87 rfl ?_
  refine r_iconst (nI 5) dX8_init_88 (by decide) ?_
  refine r_icmp_ge 111 dX8_init_89 (by decide) (fun hq => absurd hq (by decide)) (fun _ => ?_)
  refine r_aload_n dX8_init_92 rfl ?_
  refine r_getF (r := a + 25) kX8 (k := 6) (by decide) rfl fl_X8_51 (ok_q8_9 ha) (row_9 M a ha hN) dX8_init_93 ?_
  refine r_iload_n dX8_init_96 rfl ?_
  refine r_nO (a + 40) (by have := mN_q8_9 M a; omega) kX6 cl_X8_49 ins_X6 ini_X6 (by omega) (by omega) dX8_init_97 ?_
  refine r_dup dX8_init_100 rfl ?_
  refine r_cIN ca_yX6_init nl_X8_59 im_yX6_init rfl (c_X6_init (okN 6 0 (by have := mN_q8_9 M a; omega)) (by have := mN_q8_9 M a; show mN (q8_9 M a) + 1 = _; omega)) ⟨by decide, by decide⟩ (by omega) (by omega) rfl (Nat.le_of_ble_eq_true rfl) dX8_init_101 ?_
  refine r_aastO (Or.inr ⟨rfl, rfl⟩) (ok_w6 (okw_wN (rok_9 M a hN) _ _)) (by decide) (by decide) (ok_w6 (okN 6 0 (by have := mN_q8_9 M a; omega))) dX8_init_104 ?_
  refine r_iinc (nI 2) _ dX8_init_105 (by decide) rfl (nI_1 1) rfl ?_
  refine r_goto 87 dX8_init_108 (by decide) ?_
  refine r_mem (q8_10 M a) rfl ?_
  refine r_iload_n dX8_init_87 rfl ?_
  refine r_iconst (nI 5) dX8_init_88 (by decide) ?_
  refine r_icmp_ge 111 dX8_init_89 (by decide) (fun hq => absurd hq (by decide)) (fun _ => ?_)
  refine r_aload_n dX8_init_92 rfl ?_
  refine r_getF (r := a + 25) kX8 (k := 6) (by decide) rfl fl_X8_51 (ok_q8_10 ha) (row_10 M a ha hN) dX8_init_93 ?_
  refine r_iload_n dX8_init_96 rfl ?_
  refine r_nO (a + 53) (by have := mN_q8_10 M a; omega) kX6 cl_X8_49 ins_X6 ini_X6 (by omega) (by omega) dX8_init_97 ?_
  refine r_dup dX8_init_100 rfl ?_
  refine r_cIN ca_yX6_init nl_X8_59 im_yX6_init rfl (c_X6_init (okN 6 0 (by have := mN_q8_10 M a; omega)) (by have := mN_q8_10 M a; show mN (q8_10 M a) + 1 = _; omega)) ⟨by decide, by decide⟩ (by omega) (by omega) rfl (Nat.le_of_ble_eq_true rfl) dX8_init_101 ?_
  refine r_aastO (Or.inr ⟨rfl, rfl⟩) (ok_w6 (okw_wN (rok_10 M a hN) _ _)) (by decide) (by decide) (ok_w6 (okN 6 0 (by have := mN_q8_10 M a; omega))) dX8_init_104 ?_
  refine r_iinc (nI 3) _ dX8_init_105 (by decide) rfl (nI_1 2) rfl ?_
  refine r_goto 87 dX8_init_108 (by decide) ?_
  refine r_mem (q8_11 M a) rfl ?_
  refine r_iload_n dX8_init_87 rfl ?_
  refine r_iconst (nI 5) dX8_init_88 (by decide) ?_
  refine r_icmp_ge 111 dX8_init_89 (by decide) (fun hq => absurd hq (by decide)) (fun _ => ?_)
  refine r_aload_n dX8_init_92 rfl ?_
  refine r_getF (r := a + 25) kX8 (k := 6) (by decide) rfl fl_X8_51 (ok_q8_11 ha) (row_11 M a ha hN) dX8_init_93 ?_
  refine r_iload_n dX8_init_96 rfl ?_
  refine r_nO (a + 66) (by have := mN_q8_11 M a; omega) kX6 cl_X8_49 ins_X6 ini_X6 (by omega) (by omega) dX8_init_97 ?_
  refine r_dup dX8_init_100 rfl ?_
  refine r_cIN ca_yX6_init nl_X8_59 im_yX6_init rfl (c_X6_init (okN 6 0 (by have := mN_q8_11 M a; omega)) (by have := mN_q8_11 M a; show mN (q8_11 M a) + 1 = _; omega)) ⟨by decide, by decide⟩ (by omega) (by omega) rfl (Nat.le_of_ble_eq_true rfl) dX8_init_101 ?_
  refine r_aastO (Or.inr ⟨rfl, rfl⟩) (ok_w6 (okw_wN (rok_11 M a hN) _ _)) (by decide) (by decide) (ok_w6 (okN 6 0 (by have := mN_q8_11 M a; omega))) dX8_init_104 ?_
  refine r_iinc (nI 4) _ dX8_init_105 (by decide) rfl (nI_1 3) rfl ?_
  refine r_goto 87 dX8_init_108 (by decide) ?_
  refine r_mem (q8_12 M a) rfl ?_
  refine r_iload_n dX8_init_87 rfl ?_
  refine r_iconst (nI 5) dX8_init_88 (by decide) ?_
  refine r_icmp_ge 111 dX8_init_89 (by decide) (fun hq => absurd hq (by decide)) (fun _ => ?_)
  refine r_aload_n dX8_init_92 rfl ?_
  refine r_getF (r := a + 25) kX8 (k := 6) (by decide) rfl fl_X8_51 (ok_q8_12 ha) (row_12 M a ha hN) dX8_init_93 ?_
  refine r_iload_n dX8_init_96 rfl ?_
  refine r_nO (a + 79) (by have := mN_q8_12 M a; omega) kX6 cl_X8_49 ins_X6 ini_X6 (by omega) (by omega) dX8_init_97 ?_
  refine r_dup dX8_init_100 rfl ?_
  refine r_cIN ca_yX6_init nl_X8_59 im_yX6_init rfl (c_X6_init (okN 6 0 (by have := mN_q8_12 M a; omega)) (by have := mN_q8_12 M a; show mN (q8_12 M a) + 1 = _; omega)) ⟨by decide, by decide⟩ (by omega) (by omega) rfl (Nat.le_of_ble_eq_true rfl) dX8_init_101 ?_
  refine r_aastO (Or.inr ⟨rfl, rfl⟩) (ok_w6 (okw_wN (rok_12 M a hN) _ _)) (by decide) (by decide) (ok_w6 (okN 6 0 (by have := mN_q8_12 M a; omega))) dX8_init_104 ?_
  refine r_iinc (nI 5) _ dX8_init_105 (by decide) rfl (nI_1 4) rfl ?_
  refine r_goto 87 dX8_init_108 (by decide) ?_
  refine r_mem (q8_13 M a) rfl ?_
  refine r_iload_n dX8_init_87 rfl ?_
  refine r_iconst (nI 5) dX8_init_88 (by decide) ?_
  refine r_icmp_ge 111 dX8_init_89 (by decide) (fun _ => ?_) (fun hq => absurd (Int32.le_refl _) hq)
  refine r_aload_n dX8_init_111 rfl ?_
  refine r_iconst (nI 2) dX8_init_112 (by decide) ?_
  refine r_putI kX8 (k := 8) (by decide) rfl (Or.inl rfl) fl_X8_60 (ok_q8_13 ha) ⟨rfl, rfl⟩ dX8_init_113 ?_
  exact r_vret rfl dX8_init_116 ⟨rfl, rfl⟩
def q9_0 (M : am_M) (a : Nat) : am_M := M
theorem mN_q9_0 (M : am_M) (a : Nat) : mN (q9_0 M a) = mN M + 0 := rfl
theorem ok_q9_0 {M : am_M} {a x t n : Nat} (h : am_ok M x t n) : am_ok (q9_0 M a) x t n := h
def q9_1 (M : am_M) (a : Nat) : am_M := wI (q9_0 M a) a 0 (nI 2)
theorem mN_q9_1 (M : am_M) (a : Nat) : mN (q9_1 M a) = mN M + 0 := by
  have h1 := mN_q9_0 M a
  show mN (q9_0 M a) + 0 = _
  omega
theorem ok_q9_1 {M : am_M} {a x t n : Nat} (h : am_ok M x t n) : am_ok (q9_1 M a) x t n := okw_wI (ok_q9_0 h) _ _ _
def q9_2 (M : am_M) (a : Nat) : am_M := wR (wN (q9_1 M a) 10 16) a 7 (some (a + 1))
theorem mN_q9_2 (M : am_M) (a : Nat) : mN (q9_2 M a) = mN M + 1 := by
  have h1 := mN_q9_1 M a
  show mN (q9_1 M a) + 1 = _
  omega
theorem ok_q9_2 {M : am_M} {a x t n : Nat} (h : am_ok M x t n) : am_ok (q9_2 M a) x t n := okw_wR (okw_wN (ok_q9_1 h) _ _) _ _ _
def q9_3 (M : am_M) (a : Nat) : am_M := wR (wN (q9_2 M a) 10 16) a 8 (some (a + 2))
theorem mN_q9_3 (M : am_M) (a : Nat) : mN (q9_3 M a) = mN M + 2 := by
  have h1 := mN_q9_2 M a
  show mN (q9_2 M a) + 1 = _
  omega
theorem ok_q9_3 {M : am_M} {a x t n : Nat} (h : am_ok M x t n) : am_ok (q9_3 M a) x t n := okw_wR (okw_wN (ok_q9_2 h) _ _) _ _ _
def q9_4 (M : am_M) (a : Nat) : am_M := wR (wN (q9_3 M a) 10 16) a 9 (some (a + 3))
theorem mN_q9_4 (M : am_M) (a : Nat) : mN (q9_4 M a) = mN M + 3 := by
  have h1 := mN_q9_3 M a
  show mN (q9_3 M a) + 1 = _
  omega
theorem ok_q9_4 {M : am_M} {a x t n : Nat} (h : am_ok M x t n) : am_ok (q9_4 M a) x t n := okw_wR (okw_wN (ok_q9_3 h) _ _) _ _ _
def q9_5 (M : am_M) (a : Nat) : am_M := wR (wN (q9_4 M a) 11 16) a 10 (some (a + 4))
theorem mN_q9_5 (M : am_M) (a : Nat) : mN (q9_5 M a) = mN M + 4 := by
  have h1 := mN_q9_4 M a
  show mN (q9_4 M a) + 1 = _
  omega
theorem ok_q9_5 {M : am_M} {a x t n : Nat} (h : am_ok M x t n) : am_ok (q9_5 M a) x t n := okw_wR (okw_wN (ok_q9_4 h) _ _) _ _ _
def q9_6 (M : am_M) (a : Nat) : am_M := wR (wN (q9_5 M a) 10 16) a 11 (some (a + 5))
theorem mN_q9_6 (M : am_M) (a : Nat) : mN (q9_6 M a) = mN M + 5 := by
  have h1 := mN_q9_5 M a
  show mN (q9_5 M a) + 1 = _
  omega
theorem ok_q9_6 {M : am_M} {a x t n : Nat} (h : am_ok M x t n) : am_ok (q9_6 M a) x t n := okw_wR (okw_wN (ok_q9_5 h) _ _) _ _ _
def q9_7 (M : am_M) (a : Nat) : am_M := wR (wN (q9_6 M a) 10 40) a 12 (some (a + 6))
theorem mN_q9_7 (M : am_M) (a : Nat) : mN (q9_7 M a) = mN M + 6 := by
  have h1 := mN_q9_6 M a
  show mN (q9_6 M a) + 1 = _
  omega
theorem ok_q9_7 {M : am_M} {a x t n : Nat} (h : am_ok M x t n) : am_ok (q9_7 M a) x t n := okw_wR (okw_wN (ok_q9_6 h) _ _) _ _ _
def q9_8 (M : am_M) (a : Nat) : am_M := wR (wN (q9_7 M a) 10 40) a 13 (some (a + 7))
theorem mN_q9_8 (M : am_M) (a : Nat) : mN (q9_8 M a) = mN M + 7 := by
  have h1 := mN_q9_7 M a
  show mN (q9_7 M a) + 1 = _
  omega
theorem ok_q9_8 {M : am_M} {a x t n : Nat} (h : am_ok M x t n) : am_ok (q9_8 M a) x t n := okw_wR (okw_wN (ok_q9_7 h) _ _) _ _ _
def q9_9 (M : am_M) (a : Nat) : am_M := wR (wN (q9_8 M a) 10 40) a 14 (some (a + 8))
theorem mN_q9_9 (M : am_M) (a : Nat) : mN (q9_9 M a) = mN M + 8 := by
  have h1 := mN_q9_8 M a
  show mN (q9_8 M a) + 1 = _
  omega
theorem ok_q9_9 {M : am_M} {a x t n : Nat} (h : am_ok M x t n) : am_ok (q9_9 M a) x t n := okw_wR (okw_wN (ok_q9_8 h) _ _) _ _ _
def q9_10 (M : am_M) (a : Nat) : am_M := wR (wN (q9_9 M a) 10 5) a 15 (some (a + 9))
theorem mN_q9_10 (M : am_M) (a : Nat) : mN (q9_10 M a) = mN M + 9 := by
  have h1 := mN_q9_9 M a
  show mN (q9_9 M a) + 1 = _
  omega
theorem ok_q9_10 {M : am_M} {a x t n : Nat} (h : am_ok M x t n) : am_ok (q9_10 M a) x t n := okw_wR (okw_wN (ok_q9_9 h) _ _) _ _ _
def q9_11 (M : am_M) (a : Nat) : am_M := wR (wN (q9_10 M a) 11 5) a 16 (some (a + 10))
theorem mN_q9_11 (M : am_M) (a : Nat) : mN (q9_11 M a) = mN M + 10 := by
  have h1 := mN_q9_10 M a
  show mN (q9_10 M a) + 1 = _
  omega
theorem ok_q9_11 {M : am_M} {a x t n : Nat} (h : am_ok M x t n) : am_ok (q9_11 M a) x t n := okw_wR (okw_wN (ok_q9_10 h) _ _) _ _ _
def q9_12 (M : am_M) (a : Nat) : am_M := wR (wN (q9_11 M a) 11 5) a 17 (some (a + 11))
theorem mN_q9_12 (M : am_M) (a : Nat) : mN (q9_12 M a) = mN M + 11 := by
  have h1 := mN_q9_11 M a
  show mN (q9_11 M a) + 1 = _
  omega
theorem ok_q9_12 {M : am_M} {a x t n : Nat} (h : am_ok M x t n) : am_ok (q9_12 M a) x t n := okw_wR (okw_wN (ok_q9_11 h) _ _) _ _ _
def q9_13 (M : am_M) (a : Nat) : am_M := wR (wN (q9_12 M a) 11 160) a 19 (some (a + 12))
theorem mN_q9_13 (M : am_M) (a : Nat) : mN (q9_13 M a) = mN M + 12 := by
  have h1 := mN_q9_12 M a
  show mN (q9_12 M a) + 1 = _
  omega
theorem ok_q9_13 {M : am_M} {a x t n : Nat} (h : am_ok M x t n) : am_ok (q9_13 M a) x t n := okw_wR (okw_wN (ok_q9_12 h) _ _) _ _ _
def q9_14 (M : am_M) (a : Nat) : am_M := wR (wN (q9_13 M a) 10 160) a 20 (some (a + 13))
theorem mN_q9_14 (M : am_M) (a : Nat) : mN (q9_14 M a) = mN M + 13 := by
  have h1 := mN_q9_13 M a
  show mN (q9_13 M a) + 1 = _
  omega
theorem ok_q9_14 {M : am_M} {a x t n : Nat} (h : am_ok M x t n) : am_ok (q9_14 M a) x t n := okw_wR (okw_wN (ok_q9_13 h) _ _) _ _ _
def q9_15 (M : am_M) (a : Nat) : am_M := wR (wN (q9_14 M a) 10 160) a 21 (some (a + 14))
theorem mN_q9_15 (M : am_M) (a : Nat) : mN (q9_15 M a) = mN M + 14 := by
  have h1 := mN_q9_14 M a
  show mN (q9_14 M a) + 1 = _
  omega
theorem ok_q9_15 {M : am_M} {a x t n : Nat} (h : am_ok M x t n) : am_ok (q9_15 M a) x t n := okw_wR (okw_wN (ok_q9_14 h) _ _) _ _ _
def q9_16 (M : am_M) (a : Nat) : am_M := wR (wN (q9_15 M a) 10 160) a 22 (some (a + 15))
theorem mN_q9_16 (M : am_M) (a : Nat) : mN (q9_16 M a) = mN M + 15 := by
  have h1 := mN_q9_15 M a
  show mN (q9_15 M a) + 1 = _
  omega
theorem ok_q9_16 {M : am_M} {a x t n : Nat} (h : am_ok M x t n) : am_ok (q9_16 M a) x t n := okw_wR (okw_wN (ok_q9_15 h) _ _) _ _ _
def q9_17 (M : am_M) (a : Nat) : am_M := wR (wN (q9_16 M a) 10 160) a 23 (some (a + 16))
theorem mN_q9_17 (M : am_M) (a : Nat) : mN (q9_17 M a) = mN M + 16 := by
  have h1 := mN_q9_16 M a
  show mN (q9_16 M a) + 1 = _
  omega
theorem ok_q9_17 {M : am_M} {a x t n : Nat} (h : am_ok M x t n) : am_ok (q9_17 M a) x t n := okw_wR (okw_wN (ok_q9_16 h) _ _) _ _ _
def q9_18 (M : am_M) (a : Nat) : am_M := wR (wN (q9_17 M a) 10 160) a 24 (some (a + 17))
theorem mN_q9_18 (M : am_M) (a : Nat) : mN (q9_18 M a) = mN M + 17 := by
  have h1 := mN_q9_17 M a
  show mN (q9_17 M a) + 1 = _
  omega
theorem ok_q9_18 {M : am_M} {a x t n : Nat} (h : am_ok M x t n) : am_ok (q9_18 M a) x t n := okw_wR (okw_wN (ok_q9_17 h) _ _) _ _ _
def q9_19 (M : am_M) (a : Nat) : am_M := wR (wN (q9_18 M a) 10 160) a 25 (some (a + 18))
theorem mN_q9_19 (M : am_M) (a : Nat) : mN (q9_19 M a) = mN M + 18 := by
  have h1 := mN_q9_18 M a
  show mN (q9_18 M a) + 1 = _
  omega
theorem ok_q9_19 {M : am_M} {a x t n : Nat} (h : am_ok M x t n) : am_ok (q9_19 M a) x t n := okw_wR (okw_wN (ok_q9_18 h) _ _) _ _ _
def q9_20 (M : am_M) (a : Nat) : am_M := wR (wN (q9_19 M a) 10 6400) a 26 (some (a + 19))
theorem mN_q9_20 (M : am_M) (a : Nat) : mN (q9_20 M a) = mN M + 19 := by
  have h1 := mN_q9_19 M a
  show mN (q9_19 M a) + 1 = _
  omega
theorem ok_q9_20 {M : am_M} {a x t n : Nat} (h : am_ok M x t n) : am_ok (q9_20 M a) x t n := okw_wR (okw_wN (ok_q9_19 h) _ _) _ _ _
def q9_21 (M : am_M) (a : Nat) : am_M := wR (wN (q9_20 M a) 10 6400) a 27 (some (a + 20))
theorem mN_q9_21 (M : am_M) (a : Nat) : mN (q9_21 M a) = mN M + 20 := by
  have h1 := mN_q9_20 M a
  show mN (q9_20 M a) + 1 = _
  omega
theorem ok_q9_21 {M : am_M} {a x t n : Nat} (h : am_ok M x t n) : am_ok (q9_21 M a) x t n := okw_wR (okw_wN (ok_q9_20 h) _ _) _ _ _
def q9_22 (M : am_M) (a : Nat) : am_M := wR (wN (q9_21 M a) 10 6400) a 28 (some (a + 21))
theorem mN_q9_22 (M : am_M) (a : Nat) : mN (q9_22 M a) = mN M + 21 := by
  have h1 := mN_q9_21 M a
  show mN (q9_21 M a) + 1 = _
  omega
theorem ok_q9_22 {M : am_M} {a x t n : Nat} (h : am_ok M x t n) : am_ok (q9_22 M a) x t n := okw_wR (okw_wN (ok_q9_21 h) _ _) _ _ _
def q9_23 (M : am_M) (a : Nat) : am_M := wR (wN (q9_22 M a) 10 10) a 29 (some (a + 22))
theorem mN_q9_23 (M : am_M) (a : Nat) : mN (q9_23 M a) = mN M + 22 := by
  have h1 := mN_q9_22 M a
  show mN (q9_22 M a) + 1 = _
  omega
theorem ok_q9_23 {M : am_M} {a x t n : Nat} (h : am_ok M x t n) : am_ok (q9_23 M a) x t n := okw_wR (okw_wN (ok_q9_22 h) _ _) _ _ _
def q9_24 (M : am_M) (a : Nat) : am_M := wR (wN (q9_23 M a) 10 160) a 30 (some (a + 23))
theorem mN_q9_24 (M : am_M) (a : Nat) : mN (q9_24 M a) = mN M + 23 := by
  have h1 := mN_q9_23 M a
  show mN (q9_23 M a) + 1 = _
  omega
theorem ok_q9_24 {M : am_M} {a x t n : Nat} (h : am_ok M x t n) : am_ok (q9_24 M a) x t n := okw_wR (okw_wN (ok_q9_23 h) _ _) _ _ _
def q9_25 (M : am_M) (a : Nat) : am_M := wR (wN (q9_24 M a) 10 160) a 31 (some (a + 24))
theorem mN_q9_25 (M : am_M) (a : Nat) : mN (q9_25 M a) = mN M + 24 := by
  have h1 := mN_q9_24 M a
  show mN (q9_24 M a) + 1 = _
  omega
theorem ok_q9_25 {M : am_M} {a x t n : Nat} (h : am_ok M x t n) : am_ok (q9_25 M a) x t n := okw_wR (okw_wN (ok_q9_24 h) _ _) _ _ _
def q9_26 (M : am_M) (a : Nat) : am_M := wR (wN (q9_25 M a) 11 160) a 32 (some (a + 25))
theorem mN_q9_26 (M : am_M) (a : Nat) : mN (q9_26 M a) = mN M + 25 := by
  have h1 := mN_q9_25 M a
  show mN (q9_25 M a) + 1 = _
  omega
theorem ok_q9_26 {M : am_M} {a x t n : Nat} (h : am_ok M x t n) : am_ok (q9_26 M a) x t n := okw_wR (okw_wN (ok_q9_25 h) _ _) _ _ _
def q9_27 (M : am_M) (a : Nat) : am_M := wR (wN (q9_26 M a) 10 4) a 35 (some (a + 26))
theorem mN_q9_27 (M : am_M) (a : Nat) : mN (q9_27 M a) = mN M + 26 := by
  have h1 := mN_q9_26 M a
  show mN (q9_26 M a) + 1 = _
  omega
theorem ok_q9_27 {M : am_M} {a x t n : Nat} (h : am_ok M x t n) : am_ok (q9_27 M a) x t n := okw_wR (okw_wN (ok_q9_26 h) _ _) _ _ _
def q9_28 (M : am_M) (a : Nat) : am_M := wR (wN (q9_27 M a) 11 16) a 36 (some (a + 27))
theorem mN_q9_28 (M : am_M) (a : Nat) : mN (q9_28 M a) = mN M + 27 := by
  have h1 := mN_q9_27 M a
  show mN (q9_27 M a) + 1 = _
  omega
theorem ok_q9_28 {M : am_M} {a x t n : Nat} (h : am_ok M x t n) : am_ok (q9_28 M a) x t n := okw_wR (okw_wN (ok_q9_27 h) _ _) _ _ _
def q9_29 (M : am_M) (a : Nat) : am_M := wR (wN (q9_28 M a) 10 16) a 37 (some (a + 28))
theorem mN_q9_29 (M : am_M) (a : Nat) : mN (q9_29 M a) = mN M + 28 := by
  have h1 := mN_q9_28 M a
  show mN (q9_28 M a) + 1 = _
  omega
theorem ok_q9_29 {M : am_M} {a x t n : Nat} (h : am_ok M x t n) : am_ok (q9_29 M a) x t n := okw_wR (okw_wN (ok_q9_28 h) _ _) _ _ _
def q9_30 (M : am_M) (a : Nat) : am_M := wR (wN (q9_29 M a) 10 16) a 38 (some (a + 29))
theorem mN_q9_30 (M : am_M) (a : Nat) : mN (q9_30 M a) = mN M + 29 := by
  have h1 := mN_q9_29 M a
  show mN (q9_29 M a) + 1 = _
  omega
theorem ok_q9_30 {M : am_M} {a x t n : Nat} (h : am_ok M x t n) : am_ok (q9_30 M a) x t n := okw_wR (okw_wN (ok_q9_29 h) _ _) _ _ _
def q9_31 (M : am_M) (a : Nat) : am_M := wR (wN (q9_30 M a) 10 16) a 39 (some (a + 30))
theorem mN_q9_31 (M : am_M) (a : Nat) : mN (q9_31 M a) = mN M + 30 := by
  have h1 := mN_q9_30 M a
  show mN (q9_30 M a) + 1 = _
  omega
theorem ok_q9_31 {M : am_M} {a x t n : Nat} (h : am_ok M x t n) : am_ok (q9_31 M a) x t n := okw_wR (okw_wN (ok_q9_30 h) _ _) _ _ _
def q9_32 (M : am_M) (a : Nat) : am_M := wR (wN (q9_31 M a) 10 16) a 40 (some (a + 31))
theorem mN_q9_32 (M : am_M) (a : Nat) : mN (q9_32 M a) = mN M + 31 := by
  have h1 := mN_q9_31 M a
  show mN (q9_31 M a) + 1 = _
  omega
theorem ok_q9_32 {M : am_M} {a x t n : Nat} (h : am_ok M x t n) : am_ok (q9_32 M a) x t n := okw_wR (okw_wN (ok_q9_31 h) _ _) _ _ _
def q9_33 (M : am_M) (a : Nat) : am_M := wR (wN (q9_32 M a) 11 16) a 41 (some (a + 32))
theorem mN_q9_33 (M : am_M) (a : Nat) : mN (q9_33 M a) = mN M + 32 := by
  have h1 := mN_q9_32 M a
  show mN (q9_32 M a) + 1 = _
  omega
theorem ok_q9_33 {M : am_M} {a x t n : Nat} (h : am_ok M x t n) : am_ok (q9_33 M a) x t n := okw_wR (okw_wN (ok_q9_32 h) _ _) _ _ _
def w9 (M : am_M) (a : Nat) : am_M := q9_33 M a
set_option maxHeartbeats 4000000 in
set_option maxRecDepth 100000 in
theorem c_X9_init {l : Launch} {X : Nat × (Nat → Int32)} {M : am_M} {a : Nat} (ha : am_ok M a 9 0) (hN : mN M = a) (h93 : a = 93) (hL : Lay (w9 M a)) (hz : yZ (w9 M a)) : am_C l yX9_init cX9_init 1 (none) 1 32 21125 X [.ref a] M (fun v M' => v = none ∧ absM M' (g_new 2) ∧ Lay M' ∧ am_fr rS (w9 M a) M') := by
  refine am_C.of (by decide) (by simp [Value.category, va_rf]) (Nat.le_of_ble_eq_true rfl) ?_
  refine r_aload_n dX9_init_0 rfl ?_
  refine r_objInit ml_X9_1 im_JobjectInit co_objectInit ⟨by decide, Nat.le_of_ble_eq_true rfl⟩ dX9_init_1 ?_
  refine r_mem (q9_0 M a) rfl ?_
  refine r_aload_n dX9_init_4 rfl ?_
  refine r_iconst (nI 2) dX9_init_5 (by decide) ?_
  refine r_putI kX9 (k := 0) (by decide) rfl (Or.inl rfl) fl_X9_7 (ok_q9_0 ha) ⟨rfl, rfl⟩ dX9_init_6 ?_
  refine r_mem (q9_1 M a) rfl ?_
  refine r_aload_n dX9_init_9 rfl ?_
  refine r_bipush (nI 16) dX9_init_10 (by decide) ?_
  refine r_nI (a + 1) (by have := mN_q9_1 M a; omega) (by decide) (by omega) (by omega) dX9_init_12 ?_
  refine r_putF (r := a + 1) kX9 (k := 7) (by decide) rfl (Or.inr ⟨rfl, rfl, rfl, rfl⟩) fl_X9_13 (okw_wN (ok_q9_1 ha) _ _) dX9_init_14 ?_
  refine r_mem (q9_2 M a) rfl ?_
  refine r_aload_n dX9_init_17 rfl ?_
  refine r_bipush (nI 16) dX9_init_18 (by decide) ?_
  refine r_nI (a + 2) (by have := mN_q9_2 M a; omega) (by decide) (by omega) (by omega) dX9_init_20 ?_
  refine r_putF (r := a + 2) kX9 (k := 8) (by decide) rfl (Or.inr ⟨rfl, rfl, rfl, rfl⟩) fl_X9_17 (okw_wN (ok_q9_2 ha) _ _) dX9_init_22 ?_
  refine r_mem (q9_3 M a) rfl ?_
  refine r_aload_n dX9_init_25 rfl ?_
  refine r_bipush (nI 16) dX9_init_26 (by decide) ?_
  refine r_nI (a + 3) (by have := mN_q9_3 M a; omega) (by decide) (by omega) (by omega) dX9_init_28 ?_
  refine r_putF (r := a + 3) kX9 (k := 9) (by decide) rfl (Or.inr ⟨rfl, rfl, rfl, rfl⟩) fl_X9_20 (okw_wN (ok_q9_3 ha) _ _) dX9_init_30 ?_
  refine r_mem (q9_4 M a) rfl ?_
  refine r_aload_n dX9_init_33 rfl ?_
  refine r_bipush (nI 16) dX9_init_34 (by decide) ?_
  refine r_nZ (a + 4) (by have := mN_q9_4 M a; omega) (by decide) (by omega) (by omega) dX9_init_36 ?_
  refine r_putF (r := a + 4) kX9 (k := 10) (by decide) rfl (Or.inr ⟨rfl, rfl, rfl, rfl⟩) fl_X9_23 (okw_wN (ok_q9_4 ha) _ _) dX9_init_38 ?_
  refine r_mem (q9_5 M a) rfl ?_
  refine r_aload_n dX9_init_41 rfl ?_
  refine r_bipush (nI 16) dX9_init_42 (by decide) ?_
  refine r_nI (a + 5) (by have := mN_q9_5 M a; omega) (by decide) (by omega) (by omega) dX9_init_44 ?_
  refine r_putF (r := a + 5) kX9 (k := 11) (by decide) rfl (Or.inr ⟨rfl, rfl, rfl, rfl⟩) fl_X9_27 (okw_wN (ok_q9_5 ha) _ _) dX9_init_46 ?_
  refine r_mem (q9_6 M a) rfl ?_
  refine r_aload_n dX9_init_49 rfl ?_
  refine r_bipush (nI 40) dX9_init_50 (by decide) ?_
  refine r_nI (a + 6) (by have := mN_q9_6 M a; omega) (by decide) (by omega) (by omega) dX9_init_52 ?_
  refine r_putF (r := a + 6) kX9 (k := 12) (by decide) rfl (Or.inr ⟨rfl, rfl, rfl, rfl⟩) fl_X9_30 (okw_wN (ok_q9_6 ha) _ _) dX9_init_54 ?_
  refine r_mem (q9_7 M a) rfl ?_
  refine r_aload_n dX9_init_57 rfl ?_
  refine r_bipush (nI 40) dX9_init_58 (by decide) ?_
  refine r_nI (a + 7) (by have := mN_q9_7 M a; omega) (by decide) (by omega) (by omega) dX9_init_60 ?_
  refine r_putF (r := a + 7) kX9 (k := 13) (by decide) rfl (Or.inr ⟨rfl, rfl, rfl, rfl⟩) fl_X9_33 (okw_wN (ok_q9_7 ha) _ _) dX9_init_62 ?_
  refine r_mem (q9_8 M a) rfl ?_
  refine r_aload_n dX9_init_65 rfl ?_
  refine r_bipush (nI 40) dX9_init_66 (by decide) ?_
  refine r_nI (a + 8) (by have := mN_q9_8 M a; omega) (by decide) (by omega) (by omega) dX9_init_68 ?_
  refine r_putF (r := a + 8) kX9 (k := 14) (by decide) rfl (Or.inr ⟨rfl, rfl, rfl, rfl⟩) fl_X9_36 (okw_wN (ok_q9_8 ha) _ _) dX9_init_70 ?_
  refine r_mem (q9_9 M a) rfl ?_
  refine r_aload_n dX9_init_73 rfl ?_
  refine r_iconst (nI 5) dX9_init_74 (by decide) ?_
  refine r_nI (a + 9) (by have := mN_q9_9 M a; omega) (by decide) (by omega) (by omega) dX9_init_75 ?_
  refine r_putF (r := a + 9) kX9 (k := 15) (by decide) rfl (Or.inr ⟨rfl, rfl, rfl, rfl⟩) fl_X9_39 (okw_wN (ok_q9_9 ha) _ _) dX9_init_77 ?_
  refine r_mem (q9_10 M a) rfl ?_
  refine r_aload_n dX9_init_80 rfl ?_
  refine r_iconst (nI 5) dX9_init_81 (by decide) ?_
  refine r_nZ (a + 10) (by have := mN_q9_10 M a; omega) (by decide) (by omega) (by omega) dX9_init_82 ?_
  refine r_putF (r := a + 10) kX9 (k := 16) (by decide) rfl (Or.inr ⟨rfl, rfl, rfl, rfl⟩) fl_X9_42 (okw_wN (ok_q9_10 ha) _ _) dX9_init_84 ?_
  refine r_mem (q9_11 M a) rfl ?_
  refine r_aload_n dX9_init_87 rfl ?_
  refine r_iconst (nI 5) dX9_init_88 (by decide) ?_
  refine r_nZ (a + 11) (by have := mN_q9_11 M a; omega) (by decide) (by omega) (by omega) dX9_init_89 ?_
  refine r_putF (r := a + 11) kX9 (k := 17) (by decide) rfl (Or.inr ⟨rfl, rfl, rfl, rfl⟩) fl_X9_45 (okw_wN (ok_q9_11 ha) _ _) dX9_init_91 ?_
  refine r_mem (q9_12 M a) rfl ?_
  refine r_aload_n dX9_init_94 rfl ?_
  refine r_sipush (nI 160) dX9_init_95 (by decide) ?_
  refine r_nZ (a + 12) (by have := mN_q9_12 M a; omega) (by decide) (by omega) (by omega) dX9_init_98 ?_
  refine r_putF (r := a + 12) kX9 (k := 19) (by decide) rfl (Or.inr ⟨rfl, rfl, rfl, rfl⟩) fl_X9_48 (okw_wN (ok_q9_12 ha) _ _) dX9_init_100 ?_
  refine r_mem (q9_13 M a) rfl ?_
  refine r_aload_n dX9_init_103 rfl ?_
  refine r_sipush (nI 160) dX9_init_104 (by decide) ?_
  refine r_nI (a + 13) (by have := mN_q9_13 M a; omega) (by decide) (by omega) (by omega) dX9_init_107 ?_
  refine r_putF (r := a + 13) kX9 (k := 20) (by decide) rfl (Or.inr ⟨rfl, rfl, rfl, rfl⟩) fl_X9_51 (okw_wN (ok_q9_13 ha) _ _) dX9_init_109 ?_
  refine r_mem (q9_14 M a) rfl ?_
  refine r_aload_n dX9_init_112 rfl ?_
  refine r_sipush (nI 160) dX9_init_113 (by decide) ?_
  refine r_nI (a + 14) (by have := mN_q9_14 M a; omega) (by decide) (by omega) (by omega) dX9_init_116 ?_
  refine r_putF (r := a + 14) kX9 (k := 21) (by decide) rfl (Or.inr ⟨rfl, rfl, rfl, rfl⟩) fl_X9_54 (okw_wN (ok_q9_14 ha) _ _) dX9_init_118 ?_
  refine r_mem (q9_15 M a) rfl ?_
  refine r_aload_n dX9_init_121 rfl ?_
  refine r_sipush (nI 160) dX9_init_122 (by decide) ?_
  refine r_nI (a + 15) (by have := mN_q9_15 M a; omega) (by decide) (by omega) (by omega) dX9_init_125 ?_
  refine r_putF (r := a + 15) kX9 (k := 22) (by decide) rfl (Or.inr ⟨rfl, rfl, rfl, rfl⟩) fl_X9_57 (okw_wN (ok_q9_15 ha) _ _) dX9_init_127 ?_
  refine r_mem (q9_16 M a) rfl ?_
  refine r_aload_n dX9_init_130 rfl ?_
  refine r_sipush (nI 160) dX9_init_131 (by decide) ?_
  refine r_nI (a + 16) (by have := mN_q9_16 M a; omega) (by decide) (by omega) (by omega) dX9_init_134 ?_
  refine r_putF (r := a + 16) kX9 (k := 23) (by decide) rfl (Or.inr ⟨rfl, rfl, rfl, rfl⟩) fl_X9_60 (okw_wN (ok_q9_16 ha) _ _) dX9_init_136 ?_
  refine r_mem (q9_17 M a) rfl ?_
  refine r_aload_n dX9_init_139 rfl ?_
  refine r_sipush (nI 160) dX9_init_140 (by decide) ?_
  refine r_nI (a + 17) (by have := mN_q9_17 M a; omega) (by decide) (by omega) (by omega) dX9_init_143 ?_
  refine r_putF (r := a + 17) kX9 (k := 24) (by decide) rfl (Or.inr ⟨rfl, rfl, rfl, rfl⟩) fl_X9_63 (okw_wN (ok_q9_17 ha) _ _) dX9_init_145 ?_
  refine r_mem (q9_18 M a) rfl ?_
  refine r_aload_n dX9_init_148 rfl ?_
  refine r_sipush (nI 160) dX9_init_149 (by decide) ?_
  refine r_nI (a + 18) (by have := mN_q9_18 M a; omega) (by decide) (by omega) (by omega) dX9_init_152 ?_
  refine r_putF (r := a + 18) kX9 (k := 25) (by decide) rfl (Or.inr ⟨rfl, rfl, rfl, rfl⟩) fl_X9_66 (okw_wN (ok_q9_18 ha) _ _) dX9_init_154 ?_
  refine r_mem (q9_19 M a) rfl ?_
  refine r_aload_n dX9_init_157 rfl ?_
  refine r_sipush (nI 6400) dX9_init_158 (by decide) ?_
  refine r_nI (a + 19) (by have := mN_q9_19 M a; omega) (by decide) (by omega) (by omega) dX9_init_161 ?_
  refine r_putF (r := a + 19) kX9 (k := 26) (by decide) rfl (Or.inr ⟨rfl, rfl, rfl, rfl⟩) fl_X9_69 (okw_wN (ok_q9_19 ha) _ _) dX9_init_163 ?_
  refine r_mem (q9_20 M a) rfl ?_
  refine r_aload_n dX9_init_166 rfl ?_
  refine r_sipush (nI 6400) dX9_init_167 (by decide) ?_
  refine r_nI (a + 20) (by have := mN_q9_20 M a; omega) (by decide) (by omega) (by omega) dX9_init_170 ?_
  refine r_putF (r := a + 20) kX9 (k := 27) (by decide) rfl (Or.inr ⟨rfl, rfl, rfl, rfl⟩) fl_X9_72 (okw_wN (ok_q9_20 ha) _ _) dX9_init_172 ?_
  refine r_mem (q9_21 M a) rfl ?_
  refine r_aload_n dX9_init_175 rfl ?_
  refine r_sipush (nI 6400) dX9_init_176 (by decide) ?_
  refine r_nI (a + 21) (by have := mN_q9_21 M a; omega) (by decide) (by omega) (by omega) dX9_init_179 ?_
  refine r_putF (r := a + 21) kX9 (k := 28) (by decide) rfl (Or.inr ⟨rfl, rfl, rfl, rfl⟩) fl_X9_75 (okw_wN (ok_q9_21 ha) _ _) dX9_init_181 ?_
  refine r_mem (q9_22 M a) rfl ?_
  refine r_aload_n dX9_init_184 rfl ?_
  refine r_bipush (nI 10) dX9_init_185 (by decide) ?_
  refine r_nI (a + 22) (by have := mN_q9_22 M a; omega) (by decide) (by omega) (by omega) dX9_init_187 ?_
  refine r_putF (r := a + 22) kX9 (k := 29) (by decide) rfl (Or.inr ⟨rfl, rfl, rfl, rfl⟩) fl_X9_78 (okw_wN (ok_q9_22 ha) _ _) dX9_init_189 ?_
  refine r_mem (q9_23 M a) rfl ?_
  refine r_aload_n dX9_init_192 rfl ?_
  refine r_sipush (nI 160) dX9_init_193 (by decide) ?_
  refine r_nI (a + 23) (by have := mN_q9_23 M a; omega) (by decide) (by omega) (by omega) dX9_init_196 ?_
  refine r_putF (r := a + 23) kX9 (k := 30) (by decide) rfl (Or.inr ⟨rfl, rfl, rfl, rfl⟩) fl_X9_81 (okw_wN (ok_q9_23 ha) _ _) dX9_init_198 ?_
  refine r_mem (q9_24 M a) rfl ?_
  refine r_aload_n dX9_init_201 rfl ?_
  refine r_sipush (nI 160) dX9_init_202 (by decide) ?_
  refine r_nI (a + 24) (by have := mN_q9_24 M a; omega) (by decide) (by omega) (by omega) dX9_init_205 ?_
  refine r_putF (r := a + 24) kX9 (k := 31) (by decide) rfl (Or.inr ⟨rfl, rfl, rfl, rfl⟩) fl_X9_84 (okw_wN (ok_q9_24 ha) _ _) dX9_init_207 ?_
  refine r_mem (q9_25 M a) rfl ?_
  refine r_aload_n dX9_init_210 rfl ?_
  refine r_sipush (nI 160) dX9_init_211 (by decide) ?_
  refine r_nZ (a + 25) (by have := mN_q9_25 M a; omega) (by decide) (by omega) (by omega) dX9_init_214 ?_
  refine r_putF (r := a + 25) kX9 (k := 32) (by decide) rfl (Or.inr ⟨rfl, rfl, rfl, rfl⟩) fl_X9_87 (okw_wN (ok_q9_25 ha) _ _) dX9_init_216 ?_
  refine r_mem (q9_26 M a) rfl ?_
  refine r_aload_n dX9_init_219 rfl ?_
  refine r_iconst (nI 4) dX9_init_220 (by decide) ?_
  refine r_nI (a + 26) (by have := mN_q9_26 M a; omega) (by decide) (by omega) (by omega) dX9_init_221 ?_
  refine r_putF (r := a + 26) kX9 (k := 35) (by decide) rfl (Or.inr ⟨rfl, rfl, rfl, rfl⟩) fl_X9_90 (okw_wN (ok_q9_26 ha) _ _) dX9_init_223 ?_
  refine r_mem (q9_27 M a) rfl ?_
  refine r_aload_n dX9_init_226 rfl ?_
  refine r_bipush (nI 16) dX9_init_227 (by decide) ?_
  refine r_nZ (a + 27) (by have := mN_q9_27 M a; omega) (by decide) (by omega) (by omega) dX9_init_229 ?_
  refine r_putF (r := a + 27) kX9 (k := 36) (by decide) rfl (Or.inr ⟨rfl, rfl, rfl, rfl⟩) fl_X9_93 (okw_wN (ok_q9_27 ha) _ _) dX9_init_231 ?_
  refine r_mem (q9_28 M a) rfl ?_
  refine r_aload_n dX9_init_234 rfl ?_
  refine r_bipush (nI 16) dX9_init_235 (by decide) ?_
  refine r_nI (a + 28) (by have := mN_q9_28 M a; omega) (by decide) (by omega) (by omega) dX9_init_237 ?_
  refine r_putF (r := a + 28) kX9 (k := 37) (by decide) rfl (Or.inr ⟨rfl, rfl, rfl, rfl⟩) fl_X9_96 (okw_wN (ok_q9_28 ha) _ _) dX9_init_239 ?_
  refine r_mem (q9_29 M a) rfl ?_
  refine r_aload_n dX9_init_242 rfl ?_
  refine r_bipush (nI 16) dX9_init_243 (by decide) ?_
  refine r_nI (a + 29) (by have := mN_q9_29 M a; omega) (by decide) (by omega) (by omega) dX9_init_245 ?_
  refine r_putF (r := a + 29) kX9 (k := 38) (by decide) rfl (Or.inr ⟨rfl, rfl, rfl, rfl⟩) fl_X9_99 (okw_wN (ok_q9_29 ha) _ _) dX9_init_247 ?_
  refine r_mem (q9_30 M a) rfl ?_
  refine r_aload_n dX9_init_250 rfl ?_
  refine r_bipush (nI 16) dX9_init_251 (by decide) ?_
  refine r_nI (a + 30) (by have := mN_q9_30 M a; omega) (by decide) (by omega) (by omega) dX9_init_253 ?_
  refine r_putF (r := a + 30) kX9 (k := 39) (by decide) rfl (Or.inr ⟨rfl, rfl, rfl, rfl⟩) fl_X9_102 (okw_wN (ok_q9_30 ha) _ _) dX9_init_255 ?_
  refine r_mem (q9_31 M a) rfl ?_
  refine r_aload_n dX9_init_258 rfl ?_
  refine r_bipush (nI 16) dX9_init_259 (by decide) ?_
  refine r_nI (a + 31) (by have := mN_q9_31 M a; omega) (by decide) (by omega) (by omega) dX9_init_261 ?_
  refine r_putF (r := a + 31) kX9 (k := 40) (by decide) rfl (Or.inr ⟨rfl, rfl, rfl, rfl⟩) fl_X9_105 (okw_wN (ok_q9_31 ha) _ _) dX9_init_263 ?_
  refine r_mem (q9_32 M a) rfl ?_
  refine r_aload_n dX9_init_266 rfl ?_
  refine r_bipush (nI 16) dX9_init_267 (by decide) ?_
  refine r_nZ (a + 32) (by have := mN_q9_32 M a; omega) (by decide) (by omega) (by omega) dX9_init_269 ?_
  refine r_putF (r := a + 32) kX9 (k := 41) (by decide) rfl (Or.inr ⟨rfl, rfl, rfl, rfl⟩) fl_X9_108 (okw_wN (ok_q9_32 ha) _ _) dX9_init_271 ?_
  refine r_mem (q9_33 M a) rfl ?_
  refine r_aload_n dX9_init_274 rfl ?_
  refine r_iconst (nI 2) dX9_init_275 (by decide) ?_
  refine r_mem (w9 M a) rfl ?_
  subst h93
  refine r_callV ca_yX9_wipe ml_X9_111 im_yX9_wipe se_yX9_wipe (by decide) rfl (ok_q9_33 ha) (c_X9_wipe hL hz) ⟨by decide, by decide⟩ (by omega) (by omega) rfl (Nat.le_of_ble_eq_true rfl) dX9_init_276 (fun v0 M1 hp1 => ?_)
  obtain ⟨rfl, h1, h2, h3⟩ := hp1
  exact r_vret rfl dX9_init_279 ⟨rfl, h1, h2, h3⟩
