/-! ROWS OF THE MEMORY -/
section AmHeap
variable {l : Launch} {y : MethodName} {cc : ByteArray} {nL : Nat} {rt : Option FieldType} {R : Room} {mc ms : Nat} {X : Nat × (Nat → Int32)} {Post : Option Value → am_M → Prop} {bc bs pc : Nat} {ls : List (Option Value)} {st : List Value} {M : am_M}
/-- the facts of a class: its number, name, fields -/
def am_cls (ci : Nat) (C : String) (T : u_T) (N : Nat) (ty : Nat → FieldType) : Prop := ci < 10 ∧ vwCl[ci]? = some (C, T, N) ∧ N = am_nf ci ∧ am_ty ci = ty ∧ (∀ w ∈ u_ws C T N, w ∈ am_gw) ∧ (∀ k, k < N → parseFieldDescriptor (T k).2.2.1 = some (ty k)) ∧ (∀ a, a < N → ∀ b, b < N → a ≠ b → (T a).2.1 ≠ (T b).2.1) ∧ ∀ k, k < N → defaultValue (ty k) = if am_isR ci k = true then .null else .int 0
theorem am_P_ob {D : va_G} {cA : Nat → ClassId} {b base : Nat} {H : Heap} {a ci n : Nat} (hP : va_P D vwCl (am_ws b base cA M) H) (hok : am_ok M a ci n) (hci : ci < 10) : (am_ws b base cA M)[a - 1]? = some (am_rho b base a, .inr (ci, am_fs b base M a ci)) := by
  rw [am_ws_at hok.1 hok.2.1, am_ob_o hci hok.2.2]
theorem r_getI {a n index ci k : Nat} {C : String} {T : u_T} {N : Nat} {ty : Nat → FieldType} (hc : am_cls ci C T N ty) (hk : k < N) (hr : am_isR ci k = false) (hl : Cond.fieldLink y.cls index (T k).1 (T k).2.1 (T k).2.2.1 ∈ am_gw) (hok : am_ok M a ci n) (hd : decode cc pc = .ok (.getfield index, 3))
    (kk : am_V l y cc nL rt R mc ms X Post bc bs (pc + 3) ls (.int (mI M a k) :: st) M) : am_V l y cc nL rt R mc ms X Post bc bs pc ls (.ref a :: st) M := by
  intro p e s m args below meth c D cA b base H locs cells slots lsr E0 H0 L0 q1 q2
  obtain ⟨hx, hb, -, -, -, ho, -, ht, -⟩ := id E0
  obtain ⟨⟨hK, -⟩, hP, -⟩ := id H0
  obtain ⟨h10, hv, hN, -, hin, -⟩ := hc
  refine va_get (v := .int (mI M a k)) hx hb ht hin ho hK hP (a - 1) (am_P_ob hP hok h10) hv k hk (ht _ hl) (fun _ h => h) ?_ hd (kk p e s m args below meth c D cA b base H locs cells slots lsr E0 H0 L0 q1 q2)
  rw [am_fs_get _ _ _ _ _ (by omega)]
  simp [am_fv, hr]
theorem r_getR {a n index ci k : Nat} {C : String} {T : u_T} {N : Nat} {ty : Nat → FieldType} (hc : am_cls ci C T N ty) (hk : k < N) (hr : am_isR ci k = true) (hl : Cond.fieldLink y.cls index (T k).1 (T k).2.1 (T k).2.2.1 ∈ am_gw) (hok : am_ok M a ci n) (hd : decode cc pc = .ok (.getfield index, 3))
    (kk : am_V l y cc nL rt R mc ms X Post bc bs (pc + 3) ls (va_rf (mR M a k) :: st) M) : am_V l y cc nL rt R mc ms X Post bc bs pc ls (.ref a :: st) M := by
  intro p e s m args below meth c D cA b base H locs cells slots lsr E0 H0 L0 q1 q2
  obtain ⟨hx, hb, -, -, -, ho, -, ht, -⟩ := id E0
  obtain ⟨⟨hK, -⟩, hP, -⟩ := id H0
  obtain ⟨h10, hv, hN, -, hin, -⟩ := hc
  have k2 := kk p e s m args below meth c D cA b base H locs cells slots lsr E0 H0 L0 q1 q2
  rw [List.map_cons, am_tv_rf] at k2
  refine va_get hx hb ht hin ho hK hP (a - 1) (am_P_ob hP hok h10) hv k hk (ht _ hl) (fun _ h => h) ?_ hd k2
  rw [am_fs_get _ _ _ _ _ (by omega)]
  simp [am_fv, hr]
/-- what a write gives back: the memory's world behind it -/
theorem am_H_set {D : va_G} {cA : Nat → ClassId} {b base : Nat} {s : State} {M' : am_M} {H H1 : Heap} {locs : List Loc} {a j : Nat} {t n : Nat} (H0 : am_H X D cA b base s M H locs) (hok : am_ok M a t n) (hN : mN M' = mN M) (ho : ∀ x, x ≠ a → am_ob b base cA M' x = am_ob b base cA M x)
    (hat : va_at D vwCl (am_rho b base a, am_ob b base cA M' a) H1) (z : H1.size = H.size) (oq : ∀ q, q ≠ am_rho b base a → H1[q]? = H[q]?) : am_H X D cA b base s M' H1 (locs ++ [⟨am_rho b base a, j⟩]) := by
  obtain ⟨hK, hP, hsz, hX, hb, hle, hS⟩ := H0
  have hD := am_D b base cA M
  have hg : (am_ws b base cA M)[a - 1]? = some (am_rho b base a, am_ob b base cA M a) := am_ws_at hok.1 hok.2.1
  refine ⟨hK, ?_, by rw [z, hsz, hN], hX, hb, hle, hS.put z oq ?_⟩
  · rw [am_ws_set hok.1 hok.2.1 hN ho]
    exact hP.set hD hg hat oq
  · show base ≤ am_rho b base a
    rw [am_rho_pos hok.1]
    omega
theorem am_put {a n index ci k : Nat} {C : String} {T : u_T} {N : Nat} {ty : Nat → FieldType} {M' : am_M} {v : Value} (hc : am_cls ci C T N ty) (hk : k < N) (hfin : (T k).2.2.2 = false ∨ ((T k).2.2.2 = true ∧ y.name = "<init>" ∧ y.cls = C ∧ (T k).1 = C)) (hl : Cond.fieldLink y.cls index (T k).1 (T k).2.1 (T k).2.2.1 ∈ am_gw) (hok : am_ok M a ci n) (hd : decode cc pc = .ok (.putfield index, 3))
    (hN' : mN M' = mN M) (hT' : mT M' = mT M) (hn : ∀ b base, narrow (ty k) (am_tv b base v) = am_tv b base v) (hf : ∀ b base, fits (ty k) (am_tv b base v) = true) (hI : ∀ x, x ≠ a → mI M' x = mI M x) (hR : ∀ x, x ≠ a → mR M' x = mR M x) (hfs : ∀ b base, am_fs b base M' a ci = (am_fs b base M a ci).set k (am_tv b base v))
    (kk : am_V l y cc nL rt R mc ms X Post bc bs (pc + 3) ls st M') : am_V l y cc nL rt R mc ms X Post bc bs pc ls (v :: .ref a :: st) M := by
  intro p e s m args below meth c D cA b base H locs cells slots lsr E0 H0 L0 q1 q2
  obtain ⟨hx, hb, -, -, -, ho, hmn, ht, -⟩ := id E0
  obtain ⟨⟨hK, -⟩, hP, -⟩ := id H0
  obtain ⟨h10, hv, hN, hty0, hin, hty, hnm, -⟩ := hc
  have hap := va_apart (own := y.cls) (args := args) (s := s) ht hin ty hty hnm hK hv
  obtain ⟨r, h1, cell, g1, g2, g3, g4⟩ := hP (a - 1) _ (am_P_ob hP hok h10)
  have hr : r = (C, T, N) := Option.some.inj (h1.symm.trans hv)
  subst hr
  obtain ⟨hS, hfc, kC, hkC, hkind⟩ := hK.1 ci _ hv
  obtain ⟨cf, kf, fi, f, hi, hsl⟩ := hS k hk
  have hlay := ht _ (hin _ (u_in_lay hk))
  have hst := (u_facts hfc hkC (u_lays ht hin hk) hi).1
  have fin : ∀ (H' : Heap), H'[am_rho b base a]? = some (cell.setSlot f.slot (am_tv b base v)) → H'.size = H.size → (∀ q, q ≠ am_rho b base a → H'[q]? = H[q]?) → W p l e R s m args below meth c H' (locs ++ [⟨am_rho b base a, f.slot⟩]) cells slots (MQ below (am_Q D cA b base Post) args s mc ms (fun q => base ≤ q)) (F0 m (pc + 3) lsr (st.map (am_tv b base))) := by
    intro H' e1 e2 e3
    refine kk p e s m args below meth c D cA b base H' _ cells slots lsr E0 (am_H_set H0 hok hN' (fun x hx' => am_ob_congr (by rw [hT']) (hI x hx') (hR x hx')) ?_ e2 e3) L0 q1 q2
    rw [am_ob_o h10 (by rw [hT']; exact hok.2.2), hfs]
    rw [hsl] at e1
    exact ⟨_, hv, t_OB.to (V := updV (vp_V (am_fs b base M a ci)) k (am_tv b base v)) ⟨_, e1, g2, g3, t_set g4 hap hk _⟩ (fun j _ => vp_updV_set (by rw [am_fs_len]; omega) _ j)⟩
  rcases hfin with hfin | ⟨hfin, hin2, hcl, hdecl⟩
  · unfold u_lay at hlay
    rw [if_neg (by rw [hfin]; decide)] at hlay
    have h6 := u_store hfc hkC hkind hlay hi (hty k hk) (hn b base) (hf b base)
    refine W.putK hx hb (f := f) ⟨ho, ht _ hl, ⟨_, _, _, hi⟩, hst⟩ (by rw [g2]; exact h6) g1 g3 (by rw [hsl]; exact k2_hasslot (g4 k hk)) rfl rfl hd fin
  · unfold u_lay at hlay
    rw [if_pos hfin] at hlay
    have hcf : m.cls = cf := by
      obtain ⟨_, _, c', _, _, _, -, -, hf', -, -, -, hown2, -⟩ := Cond.laysFinal_spec hlay
      have e1 : c' = cf := by have := hi.symm.trans hf'; simp at this; exact this.1.symm
      rw [hdecl, ← hcl] at hown2
      rw [← e1]; exact Option.some.inj (ho.symm.trans hown2)
    have h6 := u_fits hfc hkC hkind (Or.inr hlay) hi (hty k hk) (hn b base) (hf b base)
    refine W.putFinK hx hb ho (ht _ hl) hi hst hcf (hmn hin2) (by rw [g2]; exact h6) g1 g3 (by rw [hsl]; exact k2_hasslot (g4 k hk)) rfl rfl hd fin
theorem r_putI {a n index ci k : Nat} {C : String} {T : u_T} {N : Nat} {ty : Nat → FieldType} {v : Int32} (hc : am_cls ci C T N ty) (hk : k < N) (hr : am_isR ci k = false) (hfin : (T k).2.2.2 = false ∨ ((T k).2.2.2 = true ∧ y.name = "<init>" ∧ y.cls = C ∧ (T k).1 = C)) (hl : Cond.fieldLink y.cls index (T k).1 (T k).2.1 (T k).2.2.1 ∈ am_gw) (hok : am_ok M a ci n) (hv : narrow (ty k) (.int v) = .int v ∧ fits (ty k) (.int v) = true) (hd : decode cc pc = .ok (.putfield index, 3))
    (kk : am_V l y cc nL rt R mc ms X Post bc bs (pc + 3) ls st (wI M a k v)) : am_V l y cc nL rt R mc ms X Post bc bs pc ls (.int v :: .ref a :: st) M :=
  am_put (M' := wI M a k v) hc hk hfin hl hok hd rfl rfl (fun _ _ => hv.1) (fun _ _ => hv.2) (fun x hx => mI_wI_n M k v hx) (fun _ _ => rfl) (fun b base => am_fs_wI b base M a ci k v hr) kk
theorem r_putR {a n index ci k : Nat} {C : String} {T : u_T} {N : Nat} {ty : Nat → FieldType} {r : Option Nat} (hc : am_cls ci C T N ty) (hk : k < N) (hr : am_isR ci k = true) (hfin : (T k).2.2.2 = false ∨ ((T k).2.2.2 = true ∧ y.name = "<init>" ∧ y.cls = C ∧ (T k).1 = C)) (hl : Cond.fieldLink y.cls index (T k).1 (T k).2.1 (T k).2.2.1 ∈ am_gw) (hok : am_ok M a ci n) (hd : decode cc pc = .ok (.putfield index, 3))
    (kk : am_V l y cc nL rt R mc ms X Post bc bs (pc + 3) ls st (wR M a k r)) : am_V l y cc nL rt R mc ms X Post bc bs pc ls (va_rf r :: .ref a :: st) M := by
  have hty : (∃ o, ty k = .object o) ∨ ∃ t, ty k = .array t := by
    have e := hc.2.2.2.1
    have h := hr
    unfold am_isR at h
    rw [e] at h
    cases hq : ty k with
    | object o => exact Or.inl ⟨o, rfl⟩
    | array t => exact Or.inr ⟨t, rfl⟩
    | _ => rw [hq] at h; cases h
  refine am_put (M' := wR M a k r) hc hk hfin hl hok hd rfl rfl (fun b base => ?_) (fun b base => ?_) (fun _ _ => rfl) (fun x hx => mR_wR_n M k r hx) (fun b base => ?_) kk
  · rw [am_tv_rf]
    rcases hty with ⟨o, ho⟩ | ⟨t, ho⟩ <;> rw [ho] <;> cases r <;> rfl
  · rw [am_tv_rf]
    rcases hty with ⟨o, ho⟩ | ⟨t, ho⟩ <;> rw [ho] <;> cases r <;> rfl
  · rw [am_tv_rf]
    exact am_fs_wR b base M a ci k r hr
end AmHeap
