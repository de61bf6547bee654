/-! A LETTER IS WRITTEN -/
/-- cells up to N stay, but those of S; cells may come -/
def am_gr (S : Nat → Prop) (M M' : am_M) : Prop := mN M ≤ mN M' ∧ ∀ x, x ≤ mN M → mT M' x = mT M x ∧ (¬ S x → mI M' x = mI M x ∧ mR M' x = mR M x)
theorem rf_big (a k : Nat) (h : 125 < a) : rf a k = none := by
  cases e : rf a k with
  | none => rfl
  | some r => have := rf_le e; omega
theorem am_gr.rf {S : Nat → Prop} {M : am_M} : am_gr S M M := ⟨Nat.le_refl _, fun _ _ => ⟨rfl, fun _ => ⟨rfl, rfl⟩⟩⟩
theorem am_gr.tr {S : Nat → Prop} {M M1 M2 : am_M} (h1 : am_gr S M M1) (h2 : am_gr S M1 M2) : am_gr S M M2 := by
  refine ⟨Nat.le_trans h1.1 h2.1, fun x hx => ?_⟩
  obtain ⟨a1, a2⟩ := h1.2 x hx
  obtain ⟨b1, b2⟩ := h2.2 x (Nat.le_trans hx h1.1)
  exact ⟨b1.trans a1, fun hs => ⟨(b2 hs).1.trans (a2 hs).1, (b2 hs).2.trans (a2 hs).2⟩⟩
theorem am_gr.wd {S S' : Nat → Prop} {M M1 : am_M} (h1 : am_gr S M M1) (h : ∀ x, x ≤ mN M → S x → S' x) : am_gr S' M M1 := ⟨h1.1, fun x hx => ⟨(h1.2 x hx).1, fun hs => (h1.2 x hx).2 (fun q => hs (h x hx q))⟩⟩
theorem am_fr.gr {S : Nat → Prop} {M M1 : am_M} (h : am_fr S M M1) : am_gr S M M1 := ⟨Nat.le_of_eq h.2.1.symm, fun x _ => ⟨by rw [h.1], fun hs => ⟨h.2.2.2 x hs, by rw [h.2.2.1]⟩⟩⟩
theorem am_gr.wI {S : Nat → Prop} {M : am_M} {a : Nat} (k : Nat) (v : Int32) (h : S a) : am_gr S M (wI M a k v) := ⟨Nat.le_refl _, fun x _ => ⟨rfl, fun hs => ⟨mI_wI_n _ _ _ (fun e => hs (e ▸ h)), rfl⟩⟩⟩
theorem am_gr.wR {S : Nat → Prop} {M : am_M} {a : Nat} (k : Nat) (v : Option Nat) (h : S a) : am_gr S M (wR M a k v) := ⟨Nat.le_refl _, fun x _ => ⟨rfl, fun hs => ⟨rfl, mR_wR_n _ _ _ (fun e => hs (e ▸ h))⟩⟩⟩
theorem am_gr.wQ {S : Nat → Prop} {M : am_M} {a : Nat} (f : Nat → Option Nat) (h : S a) : am_gr S M (wQ M a f) := ⟨Nat.le_refl _, fun x _ => ⟨rfl, fun hs => ⟨rfl, mR_wQ_n _ _ (fun e => hs (e ▸ h))⟩⟩⟩
theorem am_gr.wF {S : Nat → Prop} {M : am_M} {a : Nat} (f : Nat → Int32) (h : S a) : am_gr S M (wF M a f) := ⟨Nat.le_refl _, fun x _ => ⟨rfl, fun hs => ⟨mI_wF_n _ _ (fun e => hs (e ▸ h)), rfl⟩⟩⟩
theorem am_gr.wN {S : Nat → Prop} {M : am_M} (t n : Nat) : am_gr S M (wN M t n) := ⟨Nat.le_succ _, fun x hx => ⟨mT_wN_n M t n (by omega), fun _ => ⟨mI_wN_n M t n (by omega), mR_wN_n M t n (by omega)⟩⟩⟩
theorem am_gr.wA {S : Nat → Prop} {M : am_M} (k : Nat) (f : Nat → Int32) : am_gr S M (wA M k f) := ⟨Nat.le_succ _, fun x hx => ⟨mT_wA_n M k f (by omega), fun _ => ⟨mI_wA_n M k f (by omega), mR_wA_n M k f (by omega)⟩⟩⟩
theorem am_gr.ok {S : Nat → Prop} {M M1 : am_M} (h : am_gr S M M1) {a t n : Nat} (k : am_ok M a t n) : am_ok M1 a t n := ⟨k.1, Nat.le_trans k.2.1 h.1, (h.2 a k.2.1).1.trans k.2.2⟩
theorem am_gr.i {S : Nat → Prop} {M M1 : am_M} (h : am_gr S M M1) {a k : Nat} {r : Int32} (ha : a ≤ mN M) (hs : ¬ S a) (e : mI M a k = r) : mI M1 a k = r := by rw [((h.2 a ha).2 hs).1]; exact e
theorem am_gr.r {S : Nat → Prop} {M M1 : am_M} (h : am_gr S M M1) {a k : Nat} {r : Option Nat} (ha : a ≤ mN M) (hs : ¬ S a) (e : mR M a k = r) : mR M1 a k = r := by rw [((h.2 a ha).2 hs).2]; exact e
theorem DX.gr {S : Nat → Prop} {M M1 : am_M} (h : am_gr S M M1) (hS : ∀ x, 20 ≤ x → x ≤ 23 → ¬ S x) (hL : 125 ≤ mN M) {es : List tE} (k : DX M es) : DX M1 es := ⟨h.i (by omega) (hS 20 (by decide) (by decide)) k.1, k.2.1, fun j e he => ⟨h.i (by omega) (hS 21 (by decide) (by decide)) (k.2.2 j e he).1, h.i (by omega) (hS 22 (by decide) (by decide)) (k.2.2 j e he).2.1, h.i (by omega) (hS 23 (by decide) (by decide)) (k.2.2 j e he).2.2⟩⟩
theorem cp_step {N : am_M} {a k len : Nat} {f : Nat → Int32} (ha : a ≤ mN N) : am_gr (fun x => x = a) N (wR (wA N len f) a k (some (mN N + 1))) ∧ mN (wR (wA N len f) a k (some (mN N + 1))) = mN N + 1 ∧ mI (wR (wA N len f) a k (some (mN N + 1))) a = mI N a ∧ mR (wR (wA N len f) a k (some (mN N + 1))) a k = some (mN N + 1) ∧ (∀ j, j ≠ k → mR (wR (wA N len f) a k (some (mN N + 1))) a j = mR N a j) ∧ am_ok (wR (wA N len f) a k (some (mN N + 1))) (mN N + 1) 10 len ∧ mI (wR (wA N len f) a k (some (mN N + 1))) (mN N + 1) = f := by
  refine ⟨(am_gr.wA len f).tr (am_gr.wR k _ rfl), rfl, mI_wA_n N len f (by omega), ?_, fun j hj => ?_, ⟨by omega, Nat.le_refl _, mT_wA_s N len f⟩, mI_wA_s N len f⟩
  · rw [mR_wR_s, va_up_self]
  · rw [mR_wR_s, va_up_ne _ _ hj, mR_wA_n N len f (by omega)]
/-- a letter stays what it is -/
theorem isL.gr {S : Nat → Prop} {M M1 : am_M} (h : am_gr S M M1) (hS : ∀ x, 126 ≤ x → x ≤ mN M → ¬ S x) {a : Nat} {t : tL} (k : isL M a t) : isL M1 a t := by
  obtain ⟨k1, k2, k3, k4, k5, k6, k7, p, q, r, e1, e2, e3, o1, o2, o3, p1, p2, p3, k8⟩ := k
  have ha := hS a k2 k1.2.1
  have hp := hS p p1 o1.2.1
  have hq := hS q p2 o2.2.1
  have hr := hS r p3 o3.2.1
  exact ⟨h.ok k1, k2, h.i k1.2.1 ha k3, h.i k1.2.1 ha k4, h.i k1.2.1 ha k5, h.i k1.2.1 ha k6, h.i k1.2.1 ha k7, p, q, r, h.r k1.2.1 ha e1, h.r k1.2.1 ha e2, h.r k1.2.1 ha e3, h.ok o1, h.ok o2, h.ok o3, p1, p2, p3, fun j e he => ⟨h.i o1.2.1 hp (k8 j e he).1, h.i o2.2.1 hq (k8 j e he).2.1, h.i o3.2.1 hr (k8 j e he).2.2⟩⟩
set_option maxHeartbeats 4000000 in
set_option maxRecDepth 100000 in
theorem c_X3_init {l : Launch} {X : Nat × (Nat → Int32)} {M : am_M} (hL : Lay M) {a nt nr nf no nc : Nat} {es : List tE} (ha : am_ok M a 3 0) (ha2 : 126 ≤ a) (hD : DX M es) : am_C l yX3_init cX3_init 7 none 2 3 120 X [.ref a, .int (nI nt), .int (nI nr), .int (nI nf), .int (nI no), .int (nI nc), .ref 20] M (fun v M' => v = none ∧ am_gr (fun x => x = a) M M' ∧ mN M' = mN M + 3 ∧ isL M' a (nt, nr, nf, no, nc, es)) := by
  refine am_C.of (by decide) (by simp [Value.category, va_rf]) (Nat.le_of_ble_eq_true rfl) ?_
  have hn0 : 125 ≤ mN M := hL.1
  have hle := ha.2.1
  refine r_aload_n dX3_init_0 rfl ?_
  refine r_objInit ml_X3_1 im_JobjectInit co_objectInit ⟨by decide, Nat.le_of_ble_eq_true rfl⟩ dX3_init_1 ?_
  refine r_aload_n dX3_init_4 rfl ?_
  refine r_iload_n dX3_init_5 rfl ?_
  refine r_putI kX3 (k := 0) (by decide) rfl (Or.inr ⟨rfl, rfl, rfl, rfl⟩) fl_X3_7 ha ⟨rfl, rfl⟩ dX3_init_6 ?_
  refine r_lay (lay_wI hL _ _ _) (fun hL => ?_)
  refine r_aload_n dX3_init_9 rfl ?_
  refine r_iload_n dX3_init_10 rfl ?_
  refine r_putI kX3 (k := 1) (by decide) rfl (Or.inr ⟨rfl, rfl, rfl, rfl⟩) fl_X3_13 ha ⟨rfl, rfl⟩ dX3_init_11 ?_
  refine r_lay (lay_wI hL _ _ _) (fun hL => ?_)
  refine r_aload_n dX3_init_14 rfl ?_
  refine r_iload_n dX3_init_15 rfl ?_
  refine r_putI kX3 (k := 2) (by decide) rfl (Or.inr ⟨rfl, rfl, rfl, rfl⟩) fl_X3_16 ha ⟨rfl, rfl⟩ dX3_init_16 ?_
  refine r_lay (lay_wI hL _ _ _) (fun hL => ?_)
  refine r_aload_n dX3_init_19 rfl ?_
  refine r_iload dX3_init_20 rfl ?_
  refine r_putI kX3 (k := 3) (by decide) rfl (Or.inr ⟨rfl, rfl, rfl, rfl⟩) fl_X3_19 ha ⟨rfl, rfl⟩ dX3_init_22 ?_
  refine r_lay (lay_wI hL _ _ _) (fun hL => ?_)
  refine r_aload_n dX3_init_25 rfl ?_
  refine r_iload dX3_init_26 rfl ?_
  refine r_putI kX3 (k := 4) (by decide) rfl (Or.inr ⟨rfl, rfl, rfl, rfl⟩) fl_X3_22 ha ⟨rfl, rfl⟩ dX3_init_28 ?_
  refine r_lay (lay_wI hL _ _ _) (fun hL => ?_)
  have g5 : am_gr (fun x => x = a) M (wI (wI (wI (wI (wI M a 0 (nI nt)) a 1 (nI nr)) a 2 (nI nf)) a 3 (nI no)) a 4 (nI nc)) := ((((am_gr.wI 0 (nI nt) (S := fun x => x = a) rfl).tr (am_gr.wI 1 (nI nr) rfl)).tr (am_gr.wI 2 (nI nf) rfl)).tr (am_gr.wI 3 (nI no) rfl)).tr (am_gr.wI 4 (nI nc) rfl)
  have i5 : mI (wI (wI (wI (wI (wI M a 0 (nI nt)) a 1 (nI nr)) a 2 (nI nf)) a 3 (nI no)) a 4 (nI nc)) a 0 = nI nt ∧ mI (wI (wI (wI (wI (wI M a 0 (nI nt)) a 1 (nI nr)) a 2 (nI nf)) a 3 (nI no)) a 4 (nI nc)) a 1 = nI nr ∧ mI (wI (wI (wI (wI (wI M a 0 (nI nt)) a 1 (nI nr)) a 2 (nI nf)) a 3 (nI no)) a 4 (nI nc)) a 2 = nI nf ∧ mI (wI (wI (wI (wI (wI M a 0 (nI nt)) a 1 (nI nr)) a 2 (nI nf)) a 3 (nI no)) a 4 (nI nc)) a 3 = nI no ∧ mI (wI (wI (wI (wI (wI M a 0 (nI nt)) a 1 (nI nr)) a 2 (nI nf)) a 3 (nI no)) a 4 (nI nc)) a 4 = nI nc := by simp [mI_wI]
  have n5 : mN (wI (wI (wI (wI (wI M a 0 (nI nt)) a 1 (nI nr)) a 2 (nI nf)) a 3 (nI no)) a 4 (nI nc)) = mN M := rfl
  generalize wI (wI (wI (wI (wI M a 0 (nI nt)) a 1 (nI nr)) a 2 (nI nf)) a 3 (nI no)) a 4 (nI nc) = M5 at hL g5 i5 n5 ⊢
  have ha := g5.ok ha
  have D5 := DX.gr g5 (fun x h1 h2 e => by have h3 : x = a := e; omega) (by omega) hD
  refine r_aload_n dX3_init_31 rfl ?_
  refine r_aload dX3_init_32 rfl ?_
  refine r_getF kX0 (k := 0) (by decide) rfl fl_X3_25 (lay_ok hL rfl) (lay_r hL rfl) dX3_init_34 ?_
  refine r_aload dX3_init_37 rfl ?_
  refine r_getE (nI es.length) kX0 (k := 3) (by decide) rfl fl_X3_31 (lay_ok hL rfl) dX3_init_39 D5.1 ?_
  refine r_callS ca_yJ7_copyOf_59c91 ml_X3_34 sm_yJ7_copyOf_59c91 (c_J7_copyOf hL (lay_ok hL rfl) hD.2.1) ⟨by decide, by decide⟩ (by decide) (by decide) rfl (Nat.le_of_ble_eq_true rfl) dX3_init_42 (fun v0 M1 hp1 => ?_)
  obtain ⟨f1, rfl, rfl, hf1⟩ := hp1
  refine r_lay (lay_wA hL _ _) (fun hL => ?_)
  refine r_putF kX3 (k := 5) (by decide) rfl (Or.inr ⟨rfl, rfl, rfl, rfl⟩) fl_X3_40 (ok_wA ha _ _) dX3_init_45 ?_
  refine r_lay (lay_wR hL _ (rf_big a _ (by omega))) (fun hL => ?_)
  obtain ⟨g6, n6, i6, r6, q6, o6, c6⟩ := cp_step (N := M5) (a := a) (k := 5) (len := es.length) (f := f1) ha.2.1
  generalize wR (wA M5 es.length f1) a 5 (some (mN M5 + 1)) = M6 at hL g6 n6 i6 r6 q6 o6 c6 ⊢
  have ha := g6.ok ha
  have D6 := DX.gr g6 (fun x h1 h2 e => by have h3 : x = a := e; omega) (by omega) D5
  refine r_aload_n dX3_init_48 rfl ?_
  refine r_aload dX3_init_49 rfl ?_
  refine r_getF kX0 (k := 1) (by decide) rfl fl_X3_41 (lay_ok hL rfl) (lay_r hL rfl) dX3_init_51 ?_
  refine r_aload dX3_init_54 rfl ?_
  refine r_getE (nI es.length) kX0 (k := 3) (by decide) rfl fl_X3_31 (lay_ok hL rfl) dX3_init_56 D6.1 ?_
  refine r_callS ca_yJ7_copyOf_59c91 ml_X3_34 sm_yJ7_copyOf_59c91 (c_J7_copyOf hL (lay_ok hL rfl) hD.2.1) ⟨by decide, by decide⟩ (by decide) (by decide) rfl (Nat.le_of_ble_eq_true rfl) dX3_init_59 (fun v0 M1 hp1 => ?_)
  obtain ⟨f2, rfl, rfl, hf2⟩ := hp1
  refine r_lay (lay_wA hL _ _) (fun hL => ?_)
  refine r_putF kX3 (k := 6) (by decide) rfl (Or.inr ⟨rfl, rfl, rfl, rfl⟩) fl_X3_44 (ok_wA ha _ _) dX3_init_62 ?_
  refine r_lay (lay_wR hL _ (rf_big a _ (by omega))) (fun hL => ?_)
  obtain ⟨g7, n7, i7, r7, q7, o7, c7⟩ := cp_step (N := M6) (a := a) (k := 6) (len := es.length) (f := f2) ha.2.1
  generalize wR (wA M6 es.length f2) a 6 (some (mN M6 + 1)) = M7 at hL g7 n7 i7 r7 q7 o7 c7 ⊢
  have ha := g7.ok ha
  have D7 := DX.gr g7 (fun x h1 h2 e => by have h3 : x = a := e; omega) (by omega) D6
  refine r_aload_n dX3_init_65 rfl ?_
  refine r_aload dX3_init_66 rfl ?_
  refine r_getF kX0 (k := 2) (by decide) rfl fl_X3_45 (lay_ok hL rfl) (lay_r hL rfl) dX3_init_68 ?_
  refine r_aload dX3_init_71 rfl ?_
  refine r_getE (nI es.length) kX0 (k := 3) (by decide) rfl fl_X3_31 (lay_ok hL rfl) dX3_init_73 D7.1 ?_
  refine r_callS ca_yJ7_copyOf_59c91 ml_X3_34 sm_yJ7_copyOf_59c91 (c_J7_copyOf hL (lay_ok hL rfl) hD.2.1) ⟨by decide, by decide⟩ (by decide) (by decide) rfl (Nat.le_of_ble_eq_true rfl) dX3_init_76 (fun v0 M1 hp1 => ?_)
  obtain ⟨f3, rfl, rfl, hf3⟩ := hp1
  refine r_lay (lay_wA hL _ _) (fun hL => ?_)
  refine r_putF kX3 (k := 7) (by decide) rfl (Or.inr ⟨rfl, rfl, rfl, rfl⟩) fl_X3_48 (ok_wA ha _ _) dX3_init_79 ?_
  refine r_lay (lay_wR hL _ (rf_big a _ (by omega))) (fun hL => ?_)
  obtain ⟨g8, n8, i8, r8, q8, o8, c8⟩ := cp_step (N := M7) (a := a) (k := 7) (len := es.length) (f := f3) ha.2.1
  generalize wR (wA M7 es.length f3) a 7 (some (mN M7 + 1)) = M8 at hL g8 n8 i8 r8 q8 o8 c8 ⊢
  have ha := g8.ok ha
  have D8 := DX.gr g8 (fun x h1 h2 e => by have h3 : x = a := e; omega) (by omega) D7
  have hx : ∀ z, z = mN M5 + 1 ∨ z = mN M6 + 1 → ¬ z = a := fun z hz e => by have := hle; omega
  refine r_vret rfl dX3_init_82 ⟨rfl, ((g5.tr g6).tr g7).tr g8, by omega, ha, ha2, ?_, ?_, ?_, ?_, ?_, mN M5 + 1, mN M6 + 1, mN M7 + 1, ?_, ?_, r8, g8.ok (g7.ok o6), g8.ok o7, o8, by omega, by omega, by omega, fun j e he => ?_⟩
  · rw [i8, i7, i6]; exact i5.1
  · rw [i8, i7, i6]; exact i5.2.1
  · rw [i8, i7, i6]; exact i5.2.2.1
  · rw [i8, i7, i6]; exact i5.2.2.2.1
  · rw [i8, i7, i6]; exact i5.2.2.2.2
  · rw [q8 5 (by decide), q7 5 (by decide)]; exact r6
  · rw [q8 6 (by decide)]; exact r7
  · have hj : j < es.length := (List.getElem?_eq_some_iff.mp he).1
    refine ⟨?_, ?_, ?_⟩
    · rw [((g8.2 _ (by omega)).2 (hx _ (Or.inl rfl))).1, ((g7.2 _ (by omega)).2 (hx _ (Or.inl rfl))).1, c6, hf1 j hj]; exact (D5.2.2 j e he).1
    · rw [((g8.2 _ (by omega)).2 (hx _ (Or.inr rfl))).1, c7, hf2 j hj]; exact (D6.2.2 j e he).2.1
    · rw [c8, hf3 j hj]; exact (D7.2.2 j e he).2.2
