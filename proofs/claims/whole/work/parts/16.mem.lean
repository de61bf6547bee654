/-! WHOLE ARRAYS: filled, rewritten -/
def wQ (M : am_M) (a : Nat) (f : Nat → Option Nat) : am_M := (M.1, M.2.1, (fun x => if x = a then f else M.2.2.1 x), M.2.2.2)
theorem mR_wQ_s (M : am_M) (a : Nat) (f : Nat → Option Nat) : mR (wQ M a f) a = f := by simp [mR, wQ]
theorem mR_wQ_n (M : am_M) {a x : Nat} (f : Nat → Option Nat) (h : x ≠ a) : mR (wQ M a f) x = mR M x := by simp [mR, wQ, h]
theorem mR_wQ (M : am_M) (a : Nat) (f : Nat → Option Nat) (x : Nat) : mR (wQ M a f) x = if x = a then f else mR M x := rfl
theorem mI_wQ (M : am_M) (a : Nat) (f : Nat → Option Nat) : mI (wQ M a f) = mI M := rfl
theorem mT_wQ (M : am_M) (a : Nat) (f : Nat → Option Nat) : mT (wQ M a f) = mT M := rfl
theorem mN_wQ (M : am_M) (a : Nat) (f : Nat → Option Nat) : mN (wQ M a f) = mN M := rfl
theorem mI_wF (M : am_M) (a : Nat) (f : Nat → Int32) (x : Nat) : mI (wF M a f) x = if x = a then f else mI M x := rfl
theorem lay_wQ {M : am_M} (h : Lay M) {a : Nat} (f : Nat → Option Nat) (e : ∀ k, rf a k = none) : Lay (wQ M a f) := by
  refine ⟨h.1, h.2.1, fun x j r hr => ?_⟩
  rw [mR_wQ]
  by_cases hx : x = a
  · rw [hx, e j] at hr
    cases hr
  · rw [if_neg hx]
    exact h.2.2 x j r hr
theorem wF_id (M : am_M) (a : Nat) : wF M a (mI M a) = M := by
  have : (fun x => if x = a then mI M a else M.2.1 x) = M.2.1 := by
    funext x
    by_cases h : x = a
    · subst h; simp [mI]
    · simp [h]
  show (M.1, (fun x => if x = a then mI M a else M.2.1 x), M.2.2.1, M.2.2.2) = M
  rw [this]
theorem wQ_id (M : am_M) (a : Nat) : wQ M a (mR M a) = M := by
  have : (fun x => if x = a then mR M a else M.2.2.1 x) = M.2.2.1 := by
    funext x
    by_cases h : x = a
    · subst h; simp [mR]
    · simp [h]
  show (M.1, M.2.1, (fun x => if x = a then mR M a else M.2.2.1 x), M.2.2.2) = M
  rw [this]
theorem wI_wF (M : am_M) (a k : Nat) (f : Nat → Int32) (v : Int32) : wI (wF M a f) a k v = wF M a (va_up f k v) := by
  have : am_u (fun x => if x = a then f else M.2.1 x) a k v = fun x => if x = a then va_up f k v else M.2.1 x := by
    funext x
    by_cases h : x = a <;> simp [am_u, h]
  show (M.1, am_u (fun x => if x = a then f else M.2.1 x) a k v, M.2.2.1, M.2.2.2) = _
  rw [this]
  rfl
theorem wR_wQ (M : am_M) (a k : Nat) (f : Nat → Option Nat) (v : Option Nat) : wR (wQ M a f) a k v = wQ M a (va_up f k v) := by
  have : am_u (fun x => if x = a then f else M.2.2.1 x) a k v = fun x => if x = a then va_up f k v else M.2.2.1 x := by
    funext x
    by_cases h : x = a <;> simp [am_u, h]
  show (M.1, M.2.1, am_u (fun x => if x = a then f else M.2.2.1 x) a k v, M.2.2.2) = _
  rw [this]
  rfl
theorem wR_eq_wQ (M : am_M) (a k : Nat) (v : Option Nat) : wR M a k v = wQ M a (va_up (mR M a) k v) := by
  have := wR_wQ M a k (mR M a) v
  rwa [wQ_id] at this
theorem wI_eq_wF (M : am_M) (a k : Nat) (v : Int32) : wI M a k v = wF M a (va_up (mI M a) k v) := by
  have := wI_wF M a k (mI M a) v
  rwa [wF_id] at this
theorem wQ_wQ (M : am_M) (a : Nat) (f f' : Nat → Option Nat) : wQ (wQ M a f) a f' = wQ M a f' := by
  have : (fun x => if x = a then f' else if x = a then f else M.2.2.1 x) = fun x => if x = a then f' else M.2.2.1 x := by
    funext x
    by_cases h : x = a <;> simp [h]
  show (M.1, M.2.1, (fun x => if x = a then f' else if x = a then f else M.2.2.1 x), M.2.2.2) = _
  rw [this]
  rfl
theorem wQ_comm (M : am_M) {a b : Nat} (h : a ≠ b) (f f' : Nat → Option Nat) : wQ (wQ M a f) b f' = wQ (wQ M b f') a f := by
  have : (fun x => if x = b then f' else if x = a then f else M.2.2.1 x) = fun x => if x = a then f else if x = b then f' else M.2.2.1 x := by
    funext x
    by_cases h1 : x = a
    · subst h1; simp [h]
    · simp [h1]
  show (M.1, M.2.1, (fun x => if x = b then f' else if x = a then f else M.2.2.1 x), M.2.2.2) = _
  rw [this]
  rfl
/-- the first i places hold c -/
def fl {α : Type} (f : Nat → α) (i : Nat) (c : α) : Nat → α := fun j => if j < i then c else f j
theorem fl_0 {α : Type} (f : Nat → α) (c : α) : fl f 0 c = f := by funext j; simp [fl]
theorem fl_s {α : Type} (f : Nat → α) (i : Nat) (c : α) : va_up (fl f i c) i c = fl f (i + 1) c := by
  funext j
  by_cases h : j = i
  · subst h; simp [va_up, fl]
  · by_cases h2 : j < i
    · simp [va_up, fl, h, h2, Nat.lt_succ_of_lt h2]
    · have : ¬ j < i + 1 := by omega
      simp [va_up, fl, h, h2, this]
/-- of the places from p on the first i hold c -/
def fb {α : Type} (f : Nat → α) (p i : Nat) (c : α) : Nat → α := fun j => if p ≤ j ∧ j < p + i then c else f j
theorem fb_0 {α : Type} (f : Nat → α) (p : Nat) (c : α) : fb f p 0 c = f := by funext j; simp [fb]; omega
theorem fb_s {α : Type} (f : Nat → α) (p i : Nat) (c : α) : va_up (fb f p i c) (p + i) c = fb f p (i + 1) c := by
  funext j
  by_cases h : j = p + i
  · subst h; simp [va_up, fb]
  · by_cases h2 : p ≤ j ∧ j < p + i
    · have h3 : p ≤ j ∧ j < p + (i + 1) := by omega
      simp [va_up, fb, h, h2, h3]
    · have h3 : ¬ (p ≤ j ∧ j < p + (i + 1)) := by omega
      simp [va_up, fb, h, h2, h3]
theorem itr_s {α : Type} (f : Nat → α → α) (n : Nat) (x : α) : itr f (n + 1) x = f n (itr f n x) := rfl
theorem and1 {k : Nat} (h : k < 2 ^ 31) : nI k &&& 1 = nI (k % 2) := pk_andN (by omega) 1 rfl
theorem and1p {k : Nat} (h : k < 2 ^ 30) : (nI k - 1) &&& 1 = nI ((k + 1) % 2) := by
  rcases Nat.eq_zero_or_pos k with rfl | hk
  · rfl
  · obtain ⟨j, rfl⟩ : ∃ j, k = j + 1 := ⟨k - 1, by omega⟩
    rw [nI_pred, and1 (by omega)]
    congr 1
    omega
