/-! THE TYPED MEMORY: cells at 1, 2, ..: mT: (kind, length); kinds 0 .. 9 the classes of vwCl, 10 int[], 11 boolean[], 12 Letter[], 13 Node[]; mI: the ints (and booleans), mR: the references, by cell and place; mN: how many cells. The script is 0. -/
abbrev am_M : Type := (Nat → Nat × Nat) × (Nat → Nat → Int32) × (Nat → Nat → Option Nat) × Nat
def mT (M : am_M) (a : Nat) : Nat × Nat := M.1 a
def mI (M : am_M) (a : Nat) : Nat → Int32 := M.2.1 a
def mR (M : am_M) (a : Nat) : Nat → Option Nat := M.2.2.1 a
def mN (M : am_M) : Nat := M.2.2.2
def am_u {α : Type} (f : Nat → Nat → α) (a k : Nat) (v : α) : Nat → Nat → α := fun x => if x = a then va_up (f a) k v else f x
def wI (M : am_M) (a k : Nat) (v : Int32) : am_M := (M.1, am_u M.2.1 a k v, M.2.2.1, M.2.2.2)
def wR (M : am_M) (a k : Nat) (v : Option Nat) : am_M := (M.1, M.2.1, am_u M.2.2.1 a k v, M.2.2.2)
def wF (M : am_M) (a : Nat) (f : Nat → Int32) : am_M := (M.1, (fun x => if x = a then f else M.2.1 x), M.2.2.1, M.2.2.2)
def wN (M : am_M) (t n : Nat) : am_M := (va_up M.1 (M.2.2.2 + 1) (t, n), (fun x => if x = M.2.2.2 + 1 then fun _ => 0 else M.2.1 x), (fun x => if x = M.2.2.2 + 1 then fun _ => none else M.2.2.1 x), M.2.2.2 + 1)
def am_nf (t : Nat) : Nat := match t with
  | 0 => 4 | 1 => 8 | 2 => 3 | 3 => 8 | 4 => 2 | 5 => 2 | 6 => 7 | 7 => 3 | 8 => 14 | _ => 42
def am_ty (t : Nat) : Nat → FieldType := match t with
  | 0 => tyX0 | 1 => tyX1 | 2 => tyX2 | 3 => tyX3 | 4 => tyX4 | 5 => tyX5 | 6 => tyX6 | 7 => tyX7 | 8 => tyX8 | _ => tyX9
def am_isR (t k : Nat) : Bool := match am_ty t k with
  | .object _ => true
  | .array _ => true
  | _ => false
def am_rho (b base : Nat) : Nat → Nat
  | 0 => b
  | a + 1 => base + a
def am_tv (b base : Nat) (v : Value) : Value := match v with
  | .ref a => .ref (am_rho b base a)
  | w => w
def am_fv (b base : Nat) (M : am_M) (a t k : Nat) : Value := if am_isR t k = true then va_rf ((mR M a k).map (am_rho b base)) else .int (mI M a k)
def am_fs (b base : Nat) (M : am_M) (a t : Nat) : List Value := (List.range (am_nf t)).map (am_fv b base M a t)
def am_ob (b base : Nat) (cA : Nat → ClassId) (M : am_M) (a : Nat) : va_E := if (mT M a).1 < 10 then .inr ((mT M a).1, am_fs b base M a (mT M a).1) else .inl (cA (mT M a).1, (mT M a).2, if (mT M a).1 < 12 then .inl (mI M a) else .inr (.inr (.inr (.inr (fun i => (mR M a i).map (am_rho b base))))))
def am_ws (b base : Nat) (cA : Nat → ClassId) (M : am_M) : va_W := (List.range (mN M)).map (fun k => (base + k, am_ob b base cA M (k + 1)))
def am_tys (cA : Nat → ClassId) : List (ClassId × FieldType) := [(cA 10, .int), (cA 11, .boolean), (cA 12, .object RX3), (cA 13, .object RX6)]
/-- a cell of that kind and length -/
def am_ok (M : am_M) (a t n : Nat) : Prop := 1 ≤ a ∧ a ≤ mN M ∧ mT M a = (t, n)
theorem okw_wI {M : am_M} {a t n : Nat} (h : am_ok M a t n) (x k : Nat) (v : Int32) : am_ok (wI M x k v) a t n := h
theorem okw_wR {M : am_M} {a t n : Nat} (h : am_ok M a t n) (x k : Nat) (v : Option Nat) : am_ok (wR M x k v) a t n := h
theorem okw_wF {M : am_M} {a t n : Nat} (h : am_ok M a t n) (x : Nat) (f : Nat → Int32) : am_ok (wF M x f) a t n := h
theorem okw_wN {M : am_M} {a t n : Nat} (h : am_ok M a t n) (t' n' : Nat) : am_ok (wN M t' n') a t n := by
  obtain ⟨h1, h2, h3⟩ := h
  refine ⟨h1, Nat.le_succ_of_le h2, ?_⟩
  have hne : a ≠ mN M + 1 := by omega
  show va_up M.1 (M.2.2.2 + 1) (t', n') a = _
  rw [va_up_ne _ _ (show a ≠ M.2.2.2 + 1 from hne)]
  exact h3
theorem okw_new (M : am_M) (t n : Nat) : am_ok (wN M t n) (mN M + 1) t n := ⟨by omega, Nat.le_refl _, va_up_self _ _ _⟩
theorem mI_wI (M : am_M) (a k : Nat) (v : Int32) (x j : Nat) : mI (wI M a k v) x j = if x = a ∧ j = k then v else mI M x j := by
  by_cases hx : x = a
  · subst hx
    by_cases hj : j = k <;> simp [mI, wI, am_u, va_up, hj]
  · simp [mI, wI, am_u, hx]
theorem mI_wI_s (M : am_M) (a k : Nat) (v : Int32) : mI (wI M a k v) a = va_up (mI M a) k v := by simp [mI, wI, am_u]
theorem mI_wI_n (M : am_M) {a x : Nat} (k : Nat) (v : Int32) (h : x ≠ a) : mI (wI M a k v) x = mI M x := by simp [mI, wI, am_u, h]
theorem mR_wR (M : am_M) (a k : Nat) (v : Option Nat) (x j : Nat) : mR (wR M a k v) x j = if x = a ∧ j = k then v else mR M x j := by
  by_cases hx : x = a
  · subst hx
    by_cases hj : j = k <;> simp [mR, wR, am_u, va_up, hj]
  · simp [mR, wR, am_u, hx]
theorem mR_wR_s (M : am_M) (a k : Nat) (v : Option Nat) : mR (wR M a k v) a = va_up (mR M a) k v := by simp [mR, wR, am_u]
theorem mR_wR_n (M : am_M) {a x : Nat} (k : Nat) (v : Option Nat) (h : x ≠ a) : mR (wR M a k v) x = mR M x := by simp [mR, wR, am_u, h]
theorem mR_wI (M : am_M) (a k : Nat) (v : Int32) : mR (wI M a k v) = mR M := rfl
theorem mI_wR (M : am_M) (a k : Nat) (v : Option Nat) : mI (wR M a k v) = mI M := rfl
theorem mT_wI (M : am_M) (a k : Nat) (v : Int32) : mT (wI M a k v) = mT M := rfl
theorem mT_wR (M : am_M) (a k : Nat) (v : Option Nat) : mT (wR M a k v) = mT M := rfl
theorem mN_wI (M : am_M) (a k : Nat) (v : Int32) : mN (wI M a k v) = mN M := rfl
theorem mN_wR (M : am_M) (a k : Nat) (v : Option Nat) : mN (wR M a k v) = mN M := rfl
theorem mI_wF_s (M : am_M) (a : Nat) (f : Nat → Int32) : mI (wF M a f) a = f := by simp [mI, wF]
theorem mI_wF_n (M : am_M) {a x : Nat} (f : Nat → Int32) (h : x ≠ a) : mI (wF M a f) x = mI M x := by simp [mI, wF, h]
theorem mR_wF (M : am_M) (a : Nat) (f : Nat → Int32) : mR (wF M a f) = mR M := rfl
theorem mT_wF (M : am_M) (a : Nat) (f : Nat → Int32) : mT (wF M a f) = mT M := rfl
theorem mN_wF (M : am_M) (a : Nat) (f : Nat → Int32) : mN (wF M a f) = mN M := rfl
theorem mN_wN (M : am_M) (t n : Nat) : mN (wN M t n) = mN M + 1 := rfl
theorem mI_wN_n (M : am_M) (t n : Nat) {x : Nat} (h : x ≠ mN M + 1) : mI (wN M t n) x = mI M x := by
  have h' : x ≠ M.2.2.2 + 1 := h
  simp [mI, wN, h']
theorem mR_wN_n (M : am_M) (t n : Nat) {x : Nat} (h : x ≠ mN M + 1) : mR (wN M t n) x = mR M x := by
  have h' : x ≠ M.2.2.2 + 1 := h
  simp [mR, wN, h']
theorem mT_wN_n (M : am_M) (t n : Nat) {x : Nat} (h : x ≠ mN M + 1) : mT (wN M t n) x = mT M x := va_up_ne _ _ h
theorem mI_wN_s (M : am_M) (t n : Nat) : mI (wN M t n) (mN M + 1) = fun _ => 0 := by simp [mI, wN, mN]
theorem mR_wN_s (M : am_M) (t n : Nat) : mR (wN M t n) (mN M + 1) = fun _ => none := by simp [mR, wN, mN]
theorem mT_wN_s (M : am_M) (t n : Nat) : mT (wN M t n) (mN M + 1) = (t, n) := va_up_self _ _ _
theorem am_rho_pos {b base a : Nat} (h : 1 ≤ a) : am_rho b base a = base + (a - 1) := by
  obtain ⟨k, rfl⟩ : ∃ k, a = k + 1 := ⟨a - 1, by omega⟩
  rfl
theorem am_tv_rf (b base : Nat) (r : Option Nat) : am_tv b base (va_rf r) = va_rf (r.map (am_rho b base)) := by cases r <;> rfl
theorem am_tv_cat (b base : Nat) (v : Value) : (am_tv b base v).category = v.category := by cases v <;> rfl
theorem am_ws_len (b base : Nat) (cA : Nat → ClassId) (M : am_M) : (am_ws b base cA M).length = mN M := by simp [am_ws]
theorem am_ws_get (b base : Nat) (cA : Nat → ClassId) (M : am_M) {k : Nat} (h : k < mN M) : (am_ws b base cA M)[k]? = some (base + k, am_ob b base cA M (k + 1)) := by
  simp [am_ws, h]
theorem am_ws_at {b base : Nat} {cA : Nat → ClassId} {M : am_M} {a : Nat} (h1 : 1 ≤ a) (h2 : a ≤ mN M) : (am_ws b base cA M)[a - 1]? = some (am_rho b base a, am_ob b base cA M a) := by
  rw [am_ws_get b base cA M (show a - 1 < mN M by omega), am_rho_pos h1, show a - 1 + 1 = a by omega]
theorem am_ob_o {b base : Nat} {cA : Nat → ClassId} {M : am_M} {a t n : Nat} (ht : t < 10) (h : mT M a = (t, n)) : am_ob b base cA M a = .inr (t, am_fs b base M a t) := by simp [am_ob, h, ht]
theorem am_ob_i {b base : Nat} {cA : Nat → ClassId} {M : am_M} {a n : Nat} (h : mT M a = (10, n)) : am_ob b base cA M a = .inl (cA 10, n, .inl (mI M a)) := by simp [am_ob, h]
theorem am_ob_z {b base : Nat} {cA : Nat → ClassId} {M : am_M} {a n : Nat} (h : mT M a = (11, n)) : am_ob b base cA M a = .inl (cA 11, n, .inl (mI M a)) := by simp [am_ob, h]
theorem am_ob_q {b base : Nat} {cA : Nat → ClassId} {M : am_M} {a t n : Nat} (ht : ¬ t < 12) (h : mT M a = (t, n)) : am_ob b base cA M a = .inl (cA t, n, .inr (.inr (.inr (.inr (fun i => (mR M a i).map (am_rho b base)))))) := by
  have h10 : ¬ t < 10 := by omega
  simp [am_ob, h, ht, h10]
/-- a change of one cell: the world's list changes in one place -/
theorem am_ws_set {b base : Nat} {cA : Nat → ClassId} {M M' : am_M} {a : Nat} (h1 : 1 ≤ a) (h2 : a ≤ mN M) (hN : mN M' = mN M) (ho : ∀ x, x ≠ a → am_ob b base cA M' x = am_ob b base cA M x) : am_ws b base cA M' = (am_ws b base cA M).set (a - 1) (am_rho b base a, am_ob b base cA M' a) := by
  apply List.ext_getElem?
  intro k
  by_cases hk : k < mN M
  · rw [am_ws_get b base cA M' (by rw [hN]; exact hk)]
    by_cases e : k = a - 1
    · subst e
      rw [List.getElem?_set_self (by rw [am_ws_len]; exact hk), am_rho_pos h1, show a - 1 + 1 = a by omega]
    · rw [List.getElem?_set_ne (fun q => e q.symm), am_ws_get b base cA M hk, ho _ (by omega)]
  · rw [List.getElem?_eq_none (by rw [am_ws_len, hN]; omega), List.getElem?_eq_none (by rw [List.length_set, am_ws_len]; omega)]
theorem am_ob_congr {b base : Nat} {cA : Nat → ClassId} {M M' : am_M} {x : Nat} (hT : mT M' x = mT M x) (hI : mI M' x = mI M x) (hR : mR M' x = mR M x) : am_ob b base cA M' x = am_ob b base cA M x := by
  have hf : am_fv b base M' x = am_fv b base M x := by
    funext t k
    simp only [am_fv, hI, hR]
  simp only [am_ob, am_fs, hT, hI, hR, hf]
theorem am_ws_push (b base : Nat) (cA : Nat → ClassId) (M : am_M) (t n : Nat) : am_ws b base cA (wN M t n) = am_ws b base cA M ++ [(base + mN M, am_ob b base cA (wN M t n) (mN M + 1))] := by
  apply List.ext_getElem?
  intro k
  by_cases hk : k < mN M
  · rw [List.getElem?_append_left (by rw [am_ws_len]; exact hk), am_ws_get b base cA M hk, am_ws_get b base cA (wN M t n) (by rw [mN_wN]; omega)]
    rw [am_ob_congr (mT_wN_n M t n (by omega)) (mI_wN_n M t n (by omega)) (mR_wN_n M t n (by omega))]
  · by_cases e : k = mN M
    · subst e
      rw [am_ws_get b base cA (wN M t n) (by rw [mN_wN]; omega), List.getElem?_append_right (by rw [am_ws_len]; exact Nat.le_refl _), am_ws_len, Nat.sub_self]
      rfl
    · rw [List.getElem?_eq_none (by rw [am_ws_len, mN_wN]; omega), List.getElem?_eq_none (by rw [List.length_append, am_ws_len]; simp; omega)]
theorem am_D (b base : Nat) (cA : Nat → ClassId) (M : am_M) : va_D (fun q => base ≤ q) (am_ws b base cA M) := by
  have hk : ∀ (k : Nat) (q : Nat × va_E), (am_ws b base cA M)[k]? = some q → q.1 = base + k := by
    intro k q h
    have hl : k < mN M := by
      have := (List.getElem?_eq_some_iff.mp h).1
      rwa [am_ws_len] at this
    rw [am_ws_get b base cA M hl] at h
    cases h
    rfl
  refine ⟨fun i j p q hp hq e => ?_, fun k q h => ?_⟩
  · have := hk i p hp
    have := hk j q hq
    omega
  · have := hk k q h
    show base ≤ q.1
    omega
theorem am_fs_get (b base : Nat) (M : am_M) (a t : Nat) {k : Nat} (h : k < am_nf t) : (am_fs b base M a t)[k]? = some (am_fv b base M a t k) := by simp [am_fs, h]
theorem am_fs_len (b base : Nat) (M : am_M) (a t : Nat) : (am_fs b base M a t).length = am_nf t := by simp [am_fs]
theorem am_fs_wI (b base : Nat) (M : am_M) (a t k : Nat) (v : Int32) (hr : am_isR t k = false) : am_fs b base (wI M a k v) a t = (am_fs b base M a t).set k (.int v) := by
  apply List.ext_getElem?
  intro j
  by_cases hj : j < am_nf t
  · rw [am_fs_get _ _ _ _ _ hj]
    by_cases e : j = k
    · subst e
      rw [List.getElem?_set_self (by rw [am_fs_len]; exact hj)]
      simp [am_fv, hr, mI_wI_s, va_up_self]
    · rw [List.getElem?_set_ne (fun q => e q.symm), am_fs_get _ _ _ _ _ hj]
      simp [am_fv, mI_wI_s, va_up_ne _ _ e, mR_wI]
  · rw [List.getElem?_eq_none (by rw [am_fs_len]; omega), List.getElem?_eq_none (by rw [List.length_set, am_fs_len]; omega)]
theorem am_fs_wR (b base : Nat) (M : am_M) (a t k : Nat) (v : Option Nat) (hr : am_isR t k = true) : am_fs b base (wR M a k v) a t = (am_fs b base M a t).set k (va_rf (v.map (am_rho b base))) := by
  apply List.ext_getElem?
  intro j
  by_cases hj : j < am_nf t
  · rw [am_fs_get _ _ _ _ _ hj]
    by_cases e : j = k
    · subst e
      rw [List.getElem?_set_self (by rw [am_fs_len]; exact hj)]
      simp [am_fv, hr, mR_wR_s, va_up_self]
    · rw [List.getElem?_set_ne (fun q => e q.symm), am_fs_get _ _ _ _ _ hj]
      simp [am_fv, mR_wR_s, va_up_ne _ _ e, mI_wR]
  · rw [List.getElem?_eq_none (by rw [am_fs_len]; omega), List.getElem?_eq_none (by rw [List.length_set, am_fs_len]; omega)]
