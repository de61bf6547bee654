/-! ROWS: a row an instruction -/
section AmRows
variable {l : Launch} {y : MethodName} {cc : ByteArray} {nL : Nat} {rt : Option FieldType} {R : Room} {mc ms : Nat} {X : Nat × (Nat → Int32)} {Post : Option Value → am_M → Prop} {bc bs pc : Nat} {ls : List (Option Value)} {st : List Value} {M : am_M}
theorem r_iconst {n : Int} (v : Int32) (hd : decode cc pc = .ok (.iconst n, 1)) (hv : Int32.ofInt n = v) (k : am_V l y cc nL rt R mc ms X Post bc bs (pc + 1) ls (.int v :: st) M) : am_V l y cc nL rt R mc ms X Post bc bs pc ls st M := by
  intro p e s m args below meth c D cA b base H locs cells slots lsr E0 H0 L0 q1 q2
  obtain ⟨hx, hb, -⟩ := id E0
  exact lv_iconst hx hb hd hv (k p e s m args below meth c D cA b base H locs cells slots lsr E0 H0 L0 q1 q2)
theorem r_bipush {n : Int} (v : Int32) (hd : decode cc pc = .ok (.bipush n, 2)) (hv : (Int8.ofInt n).toInt32 = v) (k : am_V l y cc nL rt R mc ms X Post bc bs (pc + 2) ls (.int v :: st) M) : am_V l y cc nL rt R mc ms X Post bc bs pc ls st M := by
  intro p e s m args below meth c D cA b base H locs cells slots lsr E0 H0 L0 q1 q2
  obtain ⟨hx, hb, -⟩ := id E0
  exact lv_bipush hx hb hd hv (k p e s m args below meth c D cA b base H locs cells slots lsr E0 H0 L0 q1 q2)
theorem r_sipush {n : Int} (v : Int32) (hd : decode cc pc = .ok (.sipush n, 3)) (hv : (Int16.ofInt n).toInt32 = v) (k : am_V l y cc nL rt R mc ms X Post bc bs (pc + 3) ls (.int v :: st) M) : am_V l y cc nL rt R mc ms X Post bc bs pc ls st M := by
  intro p e s m args below meth c D cA b base H locs cells slots lsr E0 H0 L0 q1 q2
  obtain ⟨hx, hb, -⟩ := id E0
  exact lv_sipush hx hb hd hv (k p e s m args below meth c D cA b base H locs cells slots lsr E0 H0 L0 q1 q2)
theorem r_lconst {n : Fin 2} (v : Int64) (hd : decode cc pc = .ok (.lconst n, 1)) (hv : Int64.ofNat (n : Nat) = v) (k : am_V l y cc nL rt R mc ms X Post bc bs (pc + 1) ls (.long v :: st) M) : am_V l y cc nL rt R mc ms X Post bc bs pc ls st M := by
  intro p e s m args below meth c D cA b base H locs cells slots lsr E0 H0 L0 q1 q2
  obtain ⟨hx, hb, -⟩ := id E0
  exact lv_lconst hx hb hd hv (k p e s m args below meth c D cA b base H locs cells slots lsr E0 H0 L0 q1 q2)
theorem r_ldc2 {ix : Nat} (v : Int64) (hd : decode cc pc = .ok (.ldc2_w ix, 3)) (hv : Cond.constantLong y.cls ix v ∈ am_gw) (k : am_V l y cc nL rt R mc ms X Post bc bs (pc + 3) ls (.long v :: st) M) : am_V l y cc nL rt R mc ms X Post bc bs pc ls st M := by
  intro p e s m args below meth c D cA b base H locs cells slots lsr E0 H0 L0 q1 q2
  obtain ⟨hx, hb, -⟩ := id E0
  obtain ⟨-, -, -, -, -, ho, -, ht, -⟩ := id E0
  exact lv_ldc2 hx hb ho (ht _ hv) hd (k p e s m args below meth c D cA b base H locs cells slots lsr E0 H0 L0 q1 q2)
theorem r_null (hd : decode cc pc = .ok (.aconst_null, 1)) (k : am_V l y cc nL rt R mc ms X Post bc bs (pc + 1) ls (.null :: st) M) : am_V l y cc nL rt R mc ms X Post bc bs pc ls st M := by
  intro p e s m args below meth c D cA b base H locs cells slots lsr E0 H0 L0 q1 q2
  obtain ⟨hx, hb, -⟩ := id E0
  exact lv_null hx hb hd (k p e s m args below meth c D cA b base H locs cells slots lsr E0 H0 L0 q1 q2)
theorem r_iload_n {k0 : Fin 4} {x : Int32} (hd : decode cc pc = .ok (.iload_n k0, 1)) (hl : ls[(k0 : Nat)]? = some (some (.int x))) (k : am_V l y cc nL rt R mc ms X Post bc bs (pc + 1) ls (.int x :: st) M) : am_V l y cc nL rt R mc ms X Post bc bs pc ls st M := by
  intro p e s m args below meth c D cA b base H locs cells slots lsr E0 H0 L0 q1 q2
  obtain ⟨hx, hb, -⟩ := id E0
  exact lv_iload_n hx hb hd rfl (L0.2.2 _ _ hl).1 (k p e s m args below meth c D cA b base H locs cells slots lsr E0 H0 L0 q1 q2)
theorem r_iload {i : Nat} {x : Int32} (hd : decode cc pc = .ok (.iload i, 2)) (hl : ls[i]? = some (some (.int x))) (k : am_V l y cc nL rt R mc ms X Post bc bs (pc + 2) ls (.int x :: st) M) : am_V l y cc nL rt R mc ms X Post bc bs pc ls st M := by
  intro p e s m args below meth c D cA b base H locs cells slots lsr E0 H0 L0 q1 q2
  obtain ⟨hx, hb, -⟩ := id E0
  exact lv_iload hx hb hd (L0.2.2 _ _ hl).1 (k p e s m args below meth c D cA b base H locs cells slots lsr E0 H0 L0 q1 q2)
theorem r_aload_n {k0 : Fin 4} {x : Nat} (hd : decode cc pc = .ok (.aload_n k0, 1)) (hl : ls[(k0 : Nat)]? = some (some (.ref x))) (k : am_V l y cc nL rt R mc ms X Post bc bs (pc + 1) ls (.ref x :: st) M) : am_V l y cc nL rt R mc ms X Post bc bs pc ls st M := by
  intro p e s m args below meth c D cA b base H locs cells slots lsr E0 H0 L0 q1 q2
  obtain ⟨hx, hb, -⟩ := id E0
  exact lv_aload_n hx hb hd rfl (L0.2.2 _ _ hl).1 (k p e s m args below meth c D cA b base H locs cells slots lsr E0 H0 L0 q1 q2)
theorem r_aload {i : Nat} {x : Nat} (hd : decode cc pc = .ok (.aload i, 2)) (hl : ls[i]? = some (some (.ref x))) (k : am_V l y cc nL rt R mc ms X Post bc bs (pc + 2) ls (.ref x :: st) M) : am_V l y cc nL rt R mc ms X Post bc bs pc ls st M := by
  intro p e s m args below meth c D cA b base H locs cells slots lsr E0 H0 L0 q1 q2
  obtain ⟨hx, hb, -⟩ := id E0
  exact lv_aload hx hb hd (L0.2.2 _ _ hl).1 (k p e s m args below meth c D cA b base H locs cells slots lsr E0 H0 L0 q1 q2)
theorem r_aload_nq {k0 : Fin 4} {r : Option Nat} (hd : decode cc pc = .ok (.aload_n k0, 1)) (hl : ls[(k0 : Nat)]? = some (some (va_rf r))) (k : am_V l y cc nL rt R mc ms X Post bc bs (pc + 1) ls (va_rf r :: st) M) : am_V l y cc nL rt R mc ms X Post bc bs pc ls st M := by
  intro p e s m args below meth c D cA b base H locs cells slots lsr E0 H0 L0 q1 q2
  obtain ⟨hx, hb, -⟩ := id E0
  cases r with
  | none => exact lv_aload_nN hx hb hd rfl (L0.2.2 _ _ hl).1 (k p e s m args below meth c D cA b base H locs cells slots lsr E0 H0 L0 q1 q2)
  | some x => exact lv_aload_n hx hb hd rfl (L0.2.2 _ _ hl).1 (k p e s m args below meth c D cA b base H locs cells slots lsr E0 H0 L0 q1 q2)
theorem r_aloadq {i : Nat} {r : Option Nat} (hd : decode cc pc = .ok (.aload i, 2)) (hl : ls[i]? = some (some (va_rf r))) (k : am_V l y cc nL rt R mc ms X Post bc bs (pc + 2) ls (va_rf r :: st) M) : am_V l y cc nL rt R mc ms X Post bc bs pc ls st M := by
  intro p e s m args below meth c D cA b base H locs cells slots lsr E0 H0 L0 q1 q2
  obtain ⟨hx, hb, -⟩ := id E0
  cases r with
  | none => exact lv_aloadN hx hb hd (L0.2.2 _ _ hl).1 (k p e s m args below meth c D cA b base H locs cells slots lsr E0 H0 L0 q1 q2)
  | some x => exact lv_aload hx hb hd (L0.2.2 _ _ hl).1 (k p e s m args below meth c D cA b base H locs cells slots lsr E0 H0 L0 q1 q2)
theorem r_iadd {a b : Int32} (hd : decode cc pc = .ok (.iadd, 1)) (k : am_V l y cc nL rt R mc ms X Post bc bs (pc + 1) ls (.int (a + b) :: st) M) : am_V l y cc nL rt R mc ms X Post bc bs pc ls (.int b :: .int a :: st) M := by
  intro p e s m args below meth c D cA b base H locs cells slots lsr E0 H0 L0 q1 q2
  obtain ⟨hx, hb, -⟩ := id E0
  exact lv_iadd hx hb hd (k p e s m args below meth c D cA b base H locs cells slots lsr E0 H0 L0 q1 q2)
theorem r_isub {a b : Int32} (hd : decode cc pc = .ok (.isub, 1)) (k : am_V l y cc nL rt R mc ms X Post bc bs (pc + 1) ls (.int (a - b) :: st) M) : am_V l y cc nL rt R mc ms X Post bc bs pc ls (.int b :: .int a :: st) M := by
  intro p e s m args below meth c D cA b base H locs cells slots lsr E0 H0 L0 q1 q2
  obtain ⟨hx, hb, -⟩ := id E0
  exact lv_isub hx hb hd (k p e s m args below meth c D cA b base H locs cells slots lsr E0 H0 L0 q1 q2)
theorem r_imul {a b : Int32} (hd : decode cc pc = .ok (.imul, 1)) (k : am_V l y cc nL rt R mc ms X Post bc bs (pc + 1) ls (.int (a * b) :: st) M) : am_V l y cc nL rt R mc ms X Post bc bs pc ls (.int b :: .int a :: st) M := by
  intro p e s m args below meth c D cA b base H locs cells slots lsr E0 H0 L0 q1 q2
  obtain ⟨hx, hb, -⟩ := id E0
  exact lv_imul hx hb hd (k p e s m args below meth c D cA b base H locs cells slots lsr E0 H0 L0 q1 q2)
theorem r_iand {a b : Int32} (hd : decode cc pc = .ok (.iand, 1)) (k : am_V l y cc nL rt R mc ms X Post bc bs (pc + 1) ls (.int (a &&& b) :: st) M) : am_V l y cc nL rt R mc ms X Post bc bs pc ls (.int b :: .int a :: st) M := by
  intro p e s m args below meth c D cA b base H locs cells slots lsr E0 H0 L0 q1 q2
  obtain ⟨hx, hb, -⟩ := id E0
  exact lv_iand hx hb hd (k p e s m args below meth c D cA b base H locs cells slots lsr E0 H0 L0 q1 q2)
theorem r_i2l {a : Int32} (hd : decode cc pc = .ok (.i2l, 1)) (k : am_V l y cc nL rt R mc ms X Post bc bs (pc + 1) ls (.long a.toInt64 :: st) M) : am_V l y cc nL rt R mc ms X Post bc bs pc ls (.int a :: st) M := by
  intro p e s m args below meth c D cA b base H locs cells slots lsr E0 H0 L0 q1 q2
  obtain ⟨hx, hb, -⟩ := id E0
  exact lv_i2l hx hb hd rfl (k p e s m args below meth c D cA b base H locs cells slots lsr E0 H0 L0 q1 q2)
theorem r_irem {a b : Int32} (hd : decode cc pc = .ok (.irem, 1)) (hne : ¬ b = 0) (k : am_V l y cc nL rt R mc ms X Post bc bs (pc + 1) ls (.int (a - a / b * b) :: st) M) : am_V l y cc nL rt R mc ms X Post bc bs pc ls (.int b :: .int a :: st) M := by
  intro p e s m args below meth c D cA b base H locs cells slots lsr E0 H0 L0 q1 q2
  obtain ⟨hx, hb, -⟩ := id E0
  exact lv_irem hx hb hd hne (k p e s m args below meth c D cA b base H locs cells slots lsr E0 H0 L0 q1 q2)
theorem r_lcmp {a b : Int64} (hd : decode cc pc = .ok (.lcmp, 1)) (k : am_V l y cc nL rt R mc ms X Post bc bs (pc + 1) ls (.int (lg_cmp a b) :: st) M) : am_V l y cc nL rt R mc ms X Post bc bs pc ls (.long b :: .long a :: st) M := by
  intro p e s m args below meth c D cA b base H locs cells slots lsr E0 H0 L0 q1 q2
  obtain ⟨hx, hb, -⟩ := id E0
  exact W.lcmp hx hb hd (k p e s m args below meth c D cA b base H locs cells slots lsr E0 H0 L0 q1 q2)
theorem r_dup {v : Value} (hd : decode cc pc = .ok (.dup, 1)) (hv : v.category = 1) (k : am_V l y cc nL rt R mc ms X Post bc bs (pc + 1) ls (v :: v :: st) M) : am_V l y cc nL rt R mc ms X Post bc bs pc ls (v :: st) M := by
  intro p e s m args below meth c D cA b base H locs cells slots lsr E0 H0 L0 q1 q2
  obtain ⟨hx, hb, -⟩ := id E0
  exact lv_dup hx hb hd (by rw [am_tv_cat]; exact hv) (k p e s m args below meth c D cA b base H locs cells slots lsr E0 H0 L0 q1 q2)
theorem r_pop {v : Value} (hd : decode cc pc = .ok (.pop, 1)) (hv : v.category = 1) (k : am_V l y cc nL rt R mc ms X Post bc bs (pc + 1) ls st M) : am_V l y cc nL rt R mc ms X Post bc bs pc ls (v :: st) M := by
  intro p e s m args below meth c D cA b base H locs cells slots lsr E0 H0 L0 q1 q2
  obtain ⟨hx, hb, -⟩ := id E0
  exact lv_pop hx hb hd (by rw [am_tv_cat]; exact hv) (k p e s m args below meth c D cA b base H locs cells slots lsr E0 H0 L0 q1 q2)
theorem r_dup_x1 {v w : Value} (hd : decode cc pc = .ok (.dup_x1, 1)) (hv : v.category = 1) (hw : w.category = 1) (k : am_V l y cc nL rt R mc ms X Post bc bs (pc + 1) ls (v :: w :: v :: st) M) : am_V l y cc nL rt R mc ms X Post bc bs pc ls (v :: w :: st) M := by
  intro p e s m args below meth c D cA b base H locs cells slots lsr E0 H0 L0 q1 q2
  obtain ⟨hx, hb, -⟩ := id E0
  exact lv_dup_x1 hx hb hd (by rw [am_tv_cat]; exact hv) (by rw [am_tv_cat]; exact hw) (k p e s m args below meth c D cA b base H locs cells slots lsr E0 H0 L0 q1 q2)
theorem r_dup2 {v w : Value} (hd : decode cc pc = .ok (.dup2, 1)) (hv : v.category = 1) (hw : w.category = 1) (k : am_V l y cc nL rt R mc ms X Post bc bs (pc + 1) ls (v :: w :: v :: w :: st) M) : am_V l y cc nL rt R mc ms X Post bc bs pc ls (v :: w :: st) M := by
  intro p e s m args below meth c D cA b base H locs cells slots lsr E0 H0 L0 q1 q2
  obtain ⟨hx, hb, -⟩ := id E0
  exact lv_dup2_11 hx hb hd (by rw [am_tv_cat]; exact hv) (by rw [am_tv_cat]; exact hw) (k p e s m args below meth c D cA b base H locs cells slots lsr E0 H0 L0 q1 q2)
theorem r_goto {off : Int} (tgt : Nat) (hd : decode cc pc = .ok (.goto off, 3)) (ht : (pc : Int) + off = (tgt : Int)) (k : am_V l y cc nL rt R mc ms X Post bc bs tgt ls st M) : am_V l y cc nL rt R mc ms X Post bc bs pc ls st M := by
  intro p e s m args below meth c D cA b base H locs cells slots lsr E0 H0 L0 q1 q2
  obtain ⟨hx, hb, -⟩ := id E0
  exact lv_goto hx hb hd ht (k p e s m args below meth c D cA b base H locs cells slots lsr E0 H0 L0 q1 q2)
theorem r_if_eq {x : Int32} {off : Int} (tgt : Nat) (hd : decode cc pc = .ok (.ifCond .eq off, 3)) (ht : (pc : Int) + off = (tgt : Int)) (k1 : x = 0 → am_V l y cc nL rt R mc ms X Post bc bs tgt ls st M) (k2 : ¬ x = 0 → am_V l y cc nL rt R mc ms X Post bc bs (pc + 3) ls st M) : am_V l y cc nL rt R mc ms X Post bc bs pc ls (.int x :: st) M := by
  intro p e s m args below meth c D cA b base H locs cells slots lsr E0 H0 L0 q1 q2
  obtain ⟨hx, hb, -⟩ := id E0
  exact lv_if_eq hx hb hd ht (fun hc => k1 hc p e s m args below meth c D cA b base H locs cells slots lsr E0 H0 L0 q1 q2) (fun hc => k2 hc p e s m args below meth c D cA b base H locs cells slots lsr E0 H0 L0 q1 q2)
theorem r_icmp_eq {x z : Int32} {off : Int} (tgt : Nat) (hd : decode cc pc = .ok (.if_icmp .eq off, 3)) (ht : (pc : Int) + off = (tgt : Int)) (k1 : x = z → am_V l y cc nL rt R mc ms X Post bc bs tgt ls st M) (k2 : ¬ x = z → am_V l y cc nL rt R mc ms X Post bc bs (pc + 3) ls st M) : am_V l y cc nL rt R mc ms X Post bc bs pc ls (.int z :: .int x :: st) M := by
  intro p e s m args below meth c D cA b base H locs cells slots lsr E0 H0 L0 q1 q2
  obtain ⟨hx, hb, -⟩ := id E0
  exact lv_icmp_eq hx hb hd ht (fun hc => k1 hc p e s m args below meth c D cA b base H locs cells slots lsr E0 H0 L0 q1 q2) (fun hc => k2 hc p e s m args below meth c D cA b base H locs cells slots lsr E0 H0 L0 q1 q2)
theorem r_if_ne {x : Int32} {off : Int} (tgt : Nat) (hd : decode cc pc = .ok (.ifCond .ne off, 3)) (ht : (pc : Int) + off = (tgt : Int)) (k1 : ¬ x = 0 → am_V l y cc nL rt R mc ms X Post bc bs tgt ls st M) (k2 : x = 0 → am_V l y cc nL rt R mc ms X Post bc bs (pc + 3) ls st M) : am_V l y cc nL rt R mc ms X Post bc bs pc ls (.int x :: st) M := by
  intro p e s m args below meth c D cA b base H locs cells slots lsr E0 H0 L0 q1 q2
  obtain ⟨hx, hb, -⟩ := id E0
  exact lv_if_ne hx hb hd ht (fun hc => k1 hc p e s m args below meth c D cA b base H locs cells slots lsr E0 H0 L0 q1 q2) (fun hc => k2 hc p e s m args below meth c D cA b base H locs cells slots lsr E0 H0 L0 q1 q2)
theorem r_icmp_ne {x z : Int32} {off : Int} (tgt : Nat) (hd : decode cc pc = .ok (.if_icmp .ne off, 3)) (ht : (pc : Int) + off = (tgt : Int)) (k1 : ¬ x = z → am_V l y cc nL rt R mc ms X Post bc bs tgt ls st M) (k2 : x = z → am_V l y cc nL rt R mc ms X Post bc bs (pc + 3) ls st M) : am_V l y cc nL rt R mc ms X Post bc bs pc ls (.int z :: .int x :: st) M := by
  intro p e s m args below meth c D cA b base H locs cells slots lsr E0 H0 L0 q1 q2
  obtain ⟨hx, hb, -⟩ := id E0
  exact lv_icmp_ne hx hb hd ht (fun hc => k1 hc p e s m args below meth c D cA b base H locs cells slots lsr E0 H0 L0 q1 q2) (fun hc => k2 hc p e s m args below meth c D cA b base H locs cells slots lsr E0 H0 L0 q1 q2)
theorem r_if_lt {x : Int32} {off : Int} (tgt : Nat) (hd : decode cc pc = .ok (.ifCond .lt off, 3)) (ht : (pc : Int) + off = (tgt : Int)) (k1 : x < 0 → am_V l y cc nL rt R mc ms X Post bc bs tgt ls st M) (k2 : ¬ x < 0 → am_V l y cc nL rt R mc ms X Post bc bs (pc + 3) ls st M) : am_V l y cc nL rt R mc ms X Post bc bs pc ls (.int x :: st) M := by
  intro p e s m args below meth c D cA b base H locs cells slots lsr E0 H0 L0 q1 q2
  obtain ⟨hx, hb, -⟩ := id E0
  exact lv_if_lt hx hb hd ht (fun hc => k1 hc p e s m args below meth c D cA b base H locs cells slots lsr E0 H0 L0 q1 q2) (fun hc => k2 hc p e s m args below meth c D cA b base H locs cells slots lsr E0 H0 L0 q1 q2)
theorem r_icmp_lt {x z : Int32} {off : Int} (tgt : Nat) (hd : decode cc pc = .ok (.if_icmp .lt off, 3)) (ht : (pc : Int) + off = (tgt : Int)) (k1 : x < z → am_V l y cc nL rt R mc ms X Post bc bs tgt ls st M) (k2 : ¬ x < z → am_V l y cc nL rt R mc ms X Post bc bs (pc + 3) ls st M) : am_V l y cc nL rt R mc ms X Post bc bs pc ls (.int z :: .int x :: st) M := by
  intro p e s m args below meth c D cA b base H locs cells slots lsr E0 H0 L0 q1 q2
  obtain ⟨hx, hb, -⟩ := id E0
  exact lv_icmp_lt hx hb hd ht (fun hc => k1 hc p e s m args below meth c D cA b base H locs cells slots lsr E0 H0 L0 q1 q2) (fun hc => k2 hc p e s m args below meth c D cA b base H locs cells slots lsr E0 H0 L0 q1 q2)
theorem r_if_ge {x : Int32} {off : Int} (tgt : Nat) (hd : decode cc pc = .ok (.ifCond .ge off, 3)) (ht : (pc : Int) + off = (tgt : Int)) (k1 : 0 ≤ x → am_V l y cc nL rt R mc ms X Post bc bs tgt ls st M) (k2 : ¬ 0 ≤ x → am_V l y cc nL rt R mc ms X Post bc bs (pc + 3) ls st M) : am_V l y cc nL rt R mc ms X Post bc bs pc ls (.int x :: st) M := by
  intro p e s m args below meth c D cA b base H locs cells slots lsr E0 H0 L0 q1 q2
  obtain ⟨hx, hb, -⟩ := id E0
  exact lv_if_ge hx hb hd ht (fun hc => k1 hc p e s m args below meth c D cA b base H locs cells slots lsr E0 H0 L0 q1 q2) (fun hc => k2 hc p e s m args below meth c D cA b base H locs cells slots lsr E0 H0 L0 q1 q2)
theorem r_icmp_ge {x z : Int32} {off : Int} (tgt : Nat) (hd : decode cc pc = .ok (.if_icmp .ge off, 3)) (ht : (pc : Int) + off = (tgt : Int)) (k1 : z ≤ x → am_V l y cc nL rt R mc ms X Post bc bs tgt ls st M) (k2 : ¬ z ≤ x → am_V l y cc nL rt R mc ms X Post bc bs (pc + 3) ls st M) : am_V l y cc nL rt R mc ms X Post bc bs pc ls (.int z :: .int x :: st) M := by
  intro p e s m args below meth c D cA b base H locs cells slots lsr E0 H0 L0 q1 q2
  obtain ⟨hx, hb, -⟩ := id E0
  exact lv_icmp_ge hx hb hd ht (fun hc => k1 hc p e s m args below meth c D cA b base H locs cells slots lsr E0 H0 L0 q1 q2) (fun hc => k2 hc p e s m args below meth c D cA b base H locs cells slots lsr E0 H0 L0 q1 q2)
theorem r_if_gt {x : Int32} {off : Int} (tgt : Nat) (hd : decode cc pc = .ok (.ifCond .gt off, 3)) (ht : (pc : Int) + off = (tgt : Int)) (k1 : 0 < x → am_V l y cc nL rt R mc ms X Post bc bs tgt ls st M) (k2 : ¬ 0 < x → am_V l y cc nL rt R mc ms X Post bc bs (pc + 3) ls st M) : am_V l y cc nL rt R mc ms X Post bc bs pc ls (.int x :: st) M := by
  intro p e s m args below meth c D cA b base H locs cells slots lsr E0 H0 L0 q1 q2
  obtain ⟨hx, hb, -⟩ := id E0
  exact lv_if_gt hx hb hd ht (fun hc => k1 hc p e s m args below meth c D cA b base H locs cells slots lsr E0 H0 L0 q1 q2) (fun hc => k2 hc p e s m args below meth c D cA b base H locs cells slots lsr E0 H0 L0 q1 q2)
theorem r_icmp_gt {x z : Int32} {off : Int} (tgt : Nat) (hd : decode cc pc = .ok (.if_icmp .gt off, 3)) (ht : (pc : Int) + off = (tgt : Int)) (k1 : z < x → am_V l y cc nL rt R mc ms X Post bc bs tgt ls st M) (k2 : ¬ z < x → am_V l y cc nL rt R mc ms X Post bc bs (pc + 3) ls st M) : am_V l y cc nL rt R mc ms X Post bc bs pc ls (.int z :: .int x :: st) M := by
  intro p e s m args below meth c D cA b base H locs cells slots lsr E0 H0 L0 q1 q2
  obtain ⟨hx, hb, -⟩ := id E0
  exact lv_icmp_gt hx hb hd ht (fun hc => k1 hc p e s m args below meth c D cA b base H locs cells slots lsr E0 H0 L0 q1 q2) (fun hc => k2 hc p e s m args below meth c D cA b base H locs cells slots lsr E0 H0 L0 q1 q2)
theorem r_if_le {x : Int32} {off : Int} (tgt : Nat) (hd : decode cc pc = .ok (.ifCond .le off, 3)) (ht : (pc : Int) + off = (tgt : Int)) (k1 : x ≤ 0 → am_V l y cc nL rt R mc ms X Post bc bs tgt ls st M) (k2 : ¬ x ≤ 0 → am_V l y cc nL rt R mc ms X Post bc bs (pc + 3) ls st M) : am_V l y cc nL rt R mc ms X Post bc bs pc ls (.int x :: st) M := by
  intro p e s m args below meth c D cA b base H locs cells slots lsr E0 H0 L0 q1 q2
  obtain ⟨hx, hb, -⟩ := id E0
  exact lv_if_le hx hb hd ht (fun hc => k1 hc p e s m args below meth c D cA b base H locs cells slots lsr E0 H0 L0 q1 q2) (fun hc => k2 hc p e s m args below meth c D cA b base H locs cells slots lsr E0 H0 L0 q1 q2)
theorem r_icmp_le {x z : Int32} {off : Int} (tgt : Nat) (hd : decode cc pc = .ok (.if_icmp .le off, 3)) (ht : (pc : Int) + off = (tgt : Int)) (k1 : x ≤ z → am_V l y cc nL rt R mc ms X Post bc bs tgt ls st M) (k2 : ¬ x ≤ z → am_V l y cc nL rt R mc ms X Post bc bs (pc + 3) ls st M) : am_V l y cc nL rt R mc ms X Post bc bs pc ls (.int z :: .int x :: st) M := by
  intro p e s m args below meth c D cA b base H locs cells slots lsr E0 H0 L0 q1 q2
  obtain ⟨hx, hb, -⟩ := id E0
  exact lv_icmp_le hx hb hd ht (fun hc => k1 hc p e s m args below meth c D cA b base H locs cells slots lsr E0 H0 L0 q1 q2) (fun hc => k2 hc p e s m args below meth c D cA b base H locs cells slots lsr E0 H0 L0 q1 q2)
theorem r_ifnull {r : Option Nat} {off : Int} (tgt : Nat) (hd : decode cc pc = .ok (.ifnull off, 3)) (ht : (pc : Int) + off = (tgt : Int)) (k1 : r = none → am_V l y cc nL rt R mc ms X Post bc bs tgt ls st M) (k2 : ∀ a, r = some a → am_V l y cc nL rt R mc ms X Post bc bs (pc + 3) ls st M) : am_V l y cc nL rt R mc ms X Post bc bs pc ls (va_rf r :: st) M := by
  intro p e s m args below meth c D cA b base H locs cells slots lsr E0 H0 L0 q1 q2
  obtain ⟨hx, hb, -⟩ := id E0
  cases r with
  | none => exact lv_ifnullN hx hb hd ht (k1 rfl p e s m args below meth c D cA b base H locs cells slots lsr E0 H0 L0 q1 q2)
  | some a => exact lv_ifnull hx hb hd (k2 a rfl p e s m args below meth c D cA b base H locs cells slots lsr E0 H0 L0 q1 q2)
theorem r_ifnonnull {r : Option Nat} {off : Int} (tgt : Nat) (hd : decode cc pc = .ok (.ifnonnull off, 3)) (ht : (pc : Int) + off = (tgt : Int)) (k1 : ∀ a, r = some a → am_V l y cc nL rt R mc ms X Post bc bs tgt ls st M) (k2 : r = none → am_V l y cc nL rt R mc ms X Post bc bs (pc + 3) ls st M) : am_V l y cc nL rt R mc ms X Post bc bs pc ls (va_rf r :: st) M := by
  intro p e s m args below meth c D cA b base H locs cells slots lsr E0 H0 L0 q1 q2
  obtain ⟨hx, hb, -⟩ := id E0
  cases r with
  | none => exact lv_ifnonnullN hx hb hd (k2 rfl p e s m args below meth c D cA b base H locs cells slots lsr E0 H0 L0 q1 q2)
  | some a => exact lv_ifnonnull hx hb hd ht (k1 a rfl p e s m args below meth c D cA b base H locs cells slots lsr E0 H0 L0 q1 q2)
theorem r_tableOut {dflt lo hi : Int} {offs : Array Int} {len : Nat} {x : Int32} (tgt : Nat) (hd : decode cc pc = .ok (.tableswitch dflt lo hi offs, len)) (h : x.toInt < lo ∨ hi < x.toInt) (ht : (pc : Int) + dflt = (tgt : Int)) (k : am_V l y cc nL rt R mc ms X Post bc bs tgt ls st M) : am_V l y cc nL rt R mc ms X Post bc bs pc ls (.int x :: st) M := by
  intro p e s m args below meth c D cA b base H locs cells slots lsr E0 H0 L0 q1 q2
  obtain ⟨hx, hb, -⟩ := id E0
  exact lv_tableOut hx hb hd h ht (k p e s m args below meth c D cA b base H locs cells slots lsr E0 H0 L0 q1 q2)
theorem r_tableIn {dflt lo hi : Int} {offs : Array Int} {len : Nat} {x : Int32} {off : Int} (tgt : Nat) (hd : decode cc pc = .ok (.tableswitch dflt lo hi offs, len)) (h1 : ¬ x.toInt < lo) (h2 : ¬ hi < x.toInt) (ho : offs[(x.toInt - lo).toNat]? = some off) (ht : (pc : Int) + off = (tgt : Int)) (k : am_V l y cc nL rt R mc ms X Post bc bs tgt ls st M) : am_V l y cc nL rt R mc ms X Post bc bs pc ls (.int x :: st) M := by
  intro p e s m args below meth c D cA b base H locs cells slots lsr E0 H0 L0 q1 q2
  obtain ⟨hx, hb, -⟩ := id E0
  exact lv_tableIn hx hb hd h1 h2 ho ht (k p e s m args below meth c D cA b base H locs cells slots lsr E0 H0 L0 q1 q2)
theorem r_lookup {dflt : Int} {ps : Array (Int × Int)} {len : Nat} {x : Int32} {off : Int} (tgt : Nat) (hd : decode cc pc = .ok (.lookupswitch dflt ps, len)) (hp : (ps.toList.zip (ps.toList.drop 1)).all (fun (a, next) => a.1 < next.1) = true) (ho : Op.lookupswitch.offset ps.toList dflt x.toInt = off) (ht : (pc : Int) + off = (tgt : Int)) (k : am_V l y cc nL rt R mc ms X Post bc bs tgt ls st M) : am_V l y cc nL rt R mc ms X Post bc bs pc ls (.int x :: st) M := by
  intro p e s m args below meth c D cA b base H locs cells slots lsr E0 H0 L0 q1 q2
  obtain ⟨hx, hb, -⟩ := id E0
  exact lv_lookup hx hb hd hp ho ht (k p e s m args below meth c D cA b base H locs cells slots lsr E0 H0 L0 q1 q2)
theorem am_lstore {b base : Nat} {lsr : Array Slot} {ls : List (Option Value)} {i : Nat} {v : Value} (h : am_L b base nL lsr ls) (hi : i < nL) (hc : v.category = 1) : ∃ ls', storeLocals lsr i (am_tv b base v) = some ls' ∧ am_L b base nL ls' ((ls ++ List.replicate (i + 1 - ls.length) none).set i (some v)) := by
  obtain ⟨ls', e1, e2⟩ := lv_store1 (l := (List.range ls.length).filterMap (fun j => (ls[j]?.join).map (fun w => (j, am_tv b base w)))) (v := am_tv b base v) (ls := lsr) (nL := nL) (i := i) ⟨h.1, h.2.1, fun q hq => by
    obtain ⟨j, hj, hq⟩ := List.mem_filterMap.mp hq
    cases hl : ls[j]? with
    | none => rw [hl] at hq; simp at hq
    | some o =>
      cases o with
      | none => rw [hl] at hq; simp at hq
      | some w =>
        rw [hl] at hq
        simp at hq
        subst hq
        exact (h.2.2 j w hl).1⟩ hi (by rw [am_tv_cat]; exact hc)
  refine ⟨ls', e1, e2.1, e2.2.1, fun j w hw => ?_⟩
  by_cases hj : j = i
  · subst hj
    rw [List.getElem?_set_self (by simp; omega)] at hw
    cases hw
    exact ⟨e2.2.2 (j, am_tv b base v) List.mem_cons_self, hc⟩
  · rw [List.getElem?_set_ne (fun q => hj q.symm)] at hw
    have hjl : j < ls.length := by
      rcases Nat.lt_or_ge j ls.length with q | q
      · exact q
      · rw [List.getElem?_append_right q] at hw
        by_cases hr : j - ls.length < i + 1 - ls.length
        · rw [List.getElem?_replicate, if_pos hr] at hw
          cases hw
        · rw [List.getElem?_replicate, if_neg hr] at hw
          cases hw
    rw [List.getElem?_append_left hjl] at hw
    refine ⟨e2.2.2 (j, am_tv b base w) (List.mem_cons_of_mem _ (List.mem_filter.mpr ⟨List.mem_filterMap.mpr ⟨j, List.mem_range.mpr hjl, by rw [hw]; rfl⟩, ?_⟩)), (h.2.2 j w hw).2⟩
    have hcw := (h.2.2 j w hw).2
    simp [hj, am_tv_cat, hcw]
theorem r_istore_n {k0 : Fin 4} {x : Int32} (ls' : List (Option Value)) (hd : decode cc pc = .ok (.istore_n k0, 1)) (hn : (k0 : Nat) < nL) (hl : (ls ++ List.replicate ((k0 : Nat) + 1 - ls.length) none).set (k0 : Nat) (some (.int x)) = ls') (k : am_V l y cc nL rt R mc ms X Post bc bs (pc + 1) ls' st M) : am_V l y cc nL rt R mc ms X Post bc bs pc ls (.int x :: st) M := by
  intro p e s m args below meth c D cA b base H locs cells slots lsr E0 H0 L0 q1 q2
  obtain ⟨hx, hb, -⟩ := id E0
  obtain ⟨l2, e1, L1⟩ := am_lstore (v := .int x) L0 hn rfl
  rw [hl] at L1
  intro T hT Y
  obtain ⟨t, a, b⟩ := k p e s m args below meth c D cA b base H locs cells slots l2 E0 H0 L1 q1 q2 T hT Y
  refine ⟨t, ?_, b⟩
  simp only [am_tv] at e1
  simp only [List.map_cons, am_tv]
  jvm_step Y.here [Y.here.top, ↓top_set Y.here.top, hx, hb, hd, e1, Value.isRef]
  exact a
theorem r_istore {i : Nat} {x : Int32} (ls' : List (Option Value)) (hd : decode cc pc = .ok (.istore i, 2)) (hn : i < nL) (hl : (ls ++ List.replicate (i + 1 - ls.length) none).set i (some (.int x)) = ls') (k : am_V l y cc nL rt R mc ms X Post bc bs (pc + 2) ls' st M) : am_V l y cc nL rt R mc ms X Post bc bs pc ls (.int x :: st) M := by
  intro p e s m args below meth c D cA b base H locs cells slots lsr E0 H0 L0 q1 q2
  obtain ⟨hx, hb, -⟩ := id E0
  obtain ⟨l2, e1, L1⟩ := am_lstore (v := .int x) L0 hn rfl
  rw [hl] at L1
  intro T hT Y
  obtain ⟨t, a, b⟩ := k p e s m args below meth c D cA b base H locs cells slots l2 E0 H0 L1 q1 q2 T hT Y
  refine ⟨t, ?_, b⟩
  simp only [am_tv] at e1
  simp only [List.map_cons, am_tv]
  jvm_step Y.here [Y.here.top, ↓top_set Y.here.top, hx, hb, hd, e1, Value.isRef]
  exact a
theorem r_astore_n {k0 : Fin 4} {x : Nat} (ls' : List (Option Value)) (hd : decode cc pc = .ok (.astore_n k0, 1)) (hn : (k0 : Nat) < nL) (hl : (ls ++ List.replicate ((k0 : Nat) + 1 - ls.length) none).set (k0 : Nat) (some (.ref x)) = ls') (k : am_V l y cc nL rt R mc ms X Post bc bs (pc + 1) ls' st M) : am_V l y cc nL rt R mc ms X Post bc bs pc ls (.ref x :: st) M := by
  intro p e s m args below meth c D cA b base H locs cells slots lsr E0 H0 L0 q1 q2
  obtain ⟨hx, hb, -⟩ := id E0
  obtain ⟨l2, e1, L1⟩ := am_lstore (v := .ref x) L0 hn rfl
  rw [hl] at L1
  intro T hT Y
  obtain ⟨t, a, b⟩ := k p e s m args below meth c D cA b base H locs cells slots l2 E0 H0 L1 q1 q2 T hT Y
  refine ⟨t, ?_, b⟩
  simp only [am_tv] at e1
  simp only [List.map_cons, am_tv]
  jvm_step Y.here [Y.here.top, ↓top_set Y.here.top, hx, hb, hd, e1, Value.isRef]
  exact a
theorem r_astore {i : Nat} {x : Nat} (ls' : List (Option Value)) (hd : decode cc pc = .ok (.astore i, 2)) (hn : i < nL) (hl : (ls ++ List.replicate (i + 1 - ls.length) none).set i (some (.ref x)) = ls') (k : am_V l y cc nL rt R mc ms X Post bc bs (pc + 2) ls' st M) : am_V l y cc nL rt R mc ms X Post bc bs pc ls (.ref x :: st) M := by
  intro p e s m args below meth c D cA b base H locs cells slots lsr E0 H0 L0 q1 q2
  obtain ⟨hx, hb, -⟩ := id E0
  obtain ⟨l2, e1, L1⟩ := am_lstore (v := .ref x) L0 hn rfl
  rw [hl] at L1
  intro T hT Y
  obtain ⟨t, a, b⟩ := k p e s m args below meth c D cA b base H locs cells slots l2 E0 H0 L1 q1 q2 T hT Y
  refine ⟨t, ?_, b⟩
  simp only [am_tv] at e1
  simp only [List.map_cons, am_tv]
  jvm_step Y.here [Y.here.top, ↓top_set Y.here.top, hx, hb, hd, e1, Value.isRef]
  exact a
theorem r_astore_nq {k0 : Fin 4} {r : Option Nat} (ls' : List (Option Value)) (hd : decode cc pc = .ok (.astore_n k0, 1)) (hn : (k0 : Nat) < nL) (hl : (ls ++ List.replicate ((k0 : Nat) + 1 - ls.length) none).set (k0 : Nat) (some (va_rf r)) = ls') (k : am_V l y cc nL rt R mc ms X Post bc bs (pc + 1) ls' st M) : am_V l y cc nL rt R mc ms X Post bc bs pc ls (va_rf r :: st) M := by
  intro p e s m args below meth c D cA b base H locs cells slots lsr E0 H0 L0 q1 q2
  obtain ⟨hx, hb, -⟩ := id E0
  obtain ⟨l2, e1, L1⟩ := am_lstore (v := va_rf r) L0 hn (by cases r <;> rfl)
  rw [hl] at L1
  intro T hT Y
  obtain ⟨t, a, b⟩ := k p e s m args below meth c D cA b base H locs cells slots l2 E0 H0 L1 q1 q2 T hT Y
  refine ⟨t, ?_, b⟩
  cases r <;> (simp only [va_rf, am_tv] at e1 ⊢; jvm_step Y.here [Y.here.top, ↓top_set Y.here.top, hx, hb, hd, e1, Value.isRef, va_rf, am_tv]; exact a)
theorem r_astoreq {i : Nat} {r : Option Nat} (ls' : List (Option Value)) (hd : decode cc pc = .ok (.astore i, 2)) (hn : i < nL) (hl : (ls ++ List.replicate (i + 1 - ls.length) none).set i (some (va_rf r)) = ls') (k : am_V l y cc nL rt R mc ms X Post bc bs (pc + 2) ls' st M) : am_V l y cc nL rt R mc ms X Post bc bs pc ls (va_rf r :: st) M := by
  intro p e s m args below meth c D cA b base H locs cells slots lsr E0 H0 L0 q1 q2
  obtain ⟨hx, hb, -⟩ := id E0
  obtain ⟨l2, e1, L1⟩ := am_lstore (v := va_rf r) L0 hn (by cases r <;> rfl)
  rw [hl] at L1
  intro T hT Y
  obtain ⟨t, a, b⟩ := k p e s m args below meth c D cA b base H locs cells slots l2 E0 H0 L1 q1 q2 T hT Y
  refine ⟨t, ?_, b⟩
  cases r <;> (simp only [va_rf, am_tv] at e1 ⊢; jvm_step Y.here [Y.here.top, ↓top_set Y.here.top, hx, hb, hd, e1, Value.isRef, va_rf, am_tv]; exact a)
theorem r_iinc {i : Nat} {n : Int} {x : Int32} (v : Int32) (ls' : List (Option Value)) (hd : decode cc pc = .ok (.iinc i n, 3)) (hn : i < nL) (hg : ls[i]? = some (some (.int x))) (hv : x + Int32.ofInt n = v) (hl : ls.set i (some (.int v)) = ls') (k : am_V l y cc nL rt R mc ms X Post bc bs (pc + 3) ls' st M) : am_V l y cc nL rt R mc ms X Post bc bs pc ls st M := by
  intro p e s m args below meth c D cA b base H locs cells slots lsr E0 H0 L0 q1 q2
  obtain ⟨hx, hb, -⟩ := id E0
  subst hv
  obtain ⟨l2, e1, L1⟩ := am_lstore (v := .int (x + Int32.ofInt n)) L0 hn rfl
  have hil : i < ls.length := (List.getElem?_eq_some_iff.mp hg).1
  rw [show i + 1 - ls.length = 0 by omega, List.replicate_zero, List.append_nil, hl] at L1
  have hg2 := (L0.2.2 _ _ hg).1
  simp only [am_tv] at e1 hg2
  intro T hT Y
  obtain ⟨t, a, b⟩ := k p e s m args below meth c D cA b base H locs cells slots l2 E0 H0 L1 q1 q2 T hT Y
  refine ⟨t, ?_, b⟩
  jvm_step Y.here [Y.here.top, ↓top_set Y.here.top, hx, hb, hd, hg2, e1]
  exact a
end AmRows
