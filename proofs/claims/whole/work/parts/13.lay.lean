/-! THE FIXED CELLS: 1 .. 92 the class's object, 93 .. 125 the reference's -/
def sh (a : Nat) : Option (Nat × Nat) := match a with
  | 1 => some (8, 0)
  | 2 => some (1, 0)
  | 3 => some (10, 16)
  | 4 => some (10, 16)
  | 5 => some (10, 40)
  | 6 => some (10, 40)
  | 7 => some (10, 40)
  | 8 => some (7, 0)
  | 9 => some (10, 16)
  | 10 => some (10, 16)
  | 11 => some (11, 16)
  | 12 => some (7, 0)
  | 13 => some (10, 16)
  | 14 => some (10, 16)
  | 15 => some (11, 16)
  | 16 => some (2, 0)
  | 17 => some (11, 16)
  | 18 => some (10, 16)
  | 19 => some (10, 16)
  | 20 => some (0, 0)
  | 21 => some (10, 40)
  | 22 => some (10, 40)
  | 23 => some (10, 40)
  | 24 => some (5, 0)
  | 25 => some (12, 60)
  | 26 => some (13, 5)
  | 27 => some (10, 4)
  | 28 => some (6, 0)
  | 29 => some (12, 10)
  | 30 => some (12, 10)
  | 31 => some (4, 0)
  | 32 => some (7, 0)
  | 33 => some (10, 16)
  | 34 => some (10, 16)
  | 35 => some (11, 16)
  | 36 => some (4, 0)
  | 37 => some (7, 0)
  | 38 => some (10, 16)
  | 39 => some (10, 16)
  | 40 => some (11, 16)
  | 41 => some (6, 0)
  | 42 => some (12, 10)
  | 43 => some (12, 10)
  | 44 => some (4, 0)
  | 45 => some (7, 0)
  | 46 => some (10, 16)
  | 47 => some (10, 16)
  | 48 => some (11, 16)
  | 49 => some (4, 0)
  | 50 => some (7, 0)
  | 51 => some (10, 16)
  | 52 => some (10, 16)
  | 53 => some (11, 16)
  | 54 => some (6, 0)
  | 55 => some (12, 10)
  | 56 => some (12, 10)
  | 57 => some (4, 0)
  | 58 => some (7, 0)
  | 59 => some (10, 16)
  | 60 => some (10, 16)
  | 61 => some (11, 16)
  | 62 => some (4, 0)
  | 63 => some (7, 0)
  | 64 => some (10, 16)
  | 65 => some (10, 16)
  | 66 => some (11, 16)
  | 67 => some (6, 0)
  | 68 => some (12, 10)
  | 69 => some (12, 10)
  | 70 => some (4, 0)
  | 71 => some (7, 0)
  | 72 => some (10, 16)
  | 73 => some (10, 16)
  | 74 => some (11, 16)
  | 75 => some (4, 0)
  | 76 => some (7, 0)
  | 77 => some (10, 16)
  | 78 => some (10, 16)
  | 79 => some (11, 16)
  | 80 => some (6, 0)
  | 81 => some (12, 10)
  | 82 => some (12, 10)
  | 83 => some (4, 0)
  | 84 => some (7, 0)
  | 85 => some (10, 16)
  | 86 => some (10, 16)
  | 87 => some (11, 16)
  | 88 => some (4, 0)
  | 89 => some (7, 0)
  | 90 => some (10, 16)
  | 91 => some (10, 16)
  | 92 => some (11, 16)
  | 93 => some (9, 0)
  | 94 => some (10, 16)
  | 95 => some (10, 16)
  | 96 => some (10, 16)
  | 97 => some (11, 16)
  | 98 => some (10, 16)
  | 99 => some (10, 40)
  | 100 => some (10, 40)
  | 101 => some (10, 40)
  | 102 => some (10, 5)
  | 103 => some (11, 5)
  | 104 => some (11, 5)
  | 105 => some (11, 160)
  | 106 => some (10, 160)
  | 107 => some (10, 160)
  | 108 => some (10, 160)
  | 109 => some (10, 160)
  | 110 => some (10, 160)
  | 111 => some (10, 160)
  | 112 => some (10, 6400)
  | 113 => some (10, 6400)
  | 114 => some (10, 6400)
  | 115 => some (10, 10)
  | 116 => some (10, 160)
  | 117 => some (10, 160)
  | 118 => some (11, 160)
  | 119 => some (10, 4)
  | 120 => some (11, 16)
  | 121 => some (10, 16)
  | 122 => some (10, 16)
  | 123 => some (10, 16)
  | 124 => some (10, 16)
  | 125 => some (11, 16)
  | _ => none
def rf (a k : Nat) : Option Nat := match a with
  | 1 => match k with
    | 0 => some 2
    | 1 => some 8
    | 2 => some 12
    | 3 => some 16
    | 4 => some 20
    | 5 => some 24
    | 6 => some 26
    | 7 => some 27
    | _ => none
  | 2 => match k with
    | 0 => some 3
    | 1 => some 4
    | 2 => some 5
    | 3 => some 6
    | 4 => some 7
    | _ => none
  | 8 => match k with
    | 0 => some 9
    | 1 => some 10
    | 2 => some 11
    | _ => none
  | 12 => match k with
    | 0 => some 13
    | 1 => some 14
    | 2 => some 15
    | _ => none
  | 16 => match k with
    | 0 => some 17
    | 1 => some 18
    | 2 => some 19
    | _ => none
  | 20 => match k with
    | 0 => some 21
    | 1 => some 22
    | 2 => some 23
    | _ => none
  | 24 => match k with
    | 0 => some 25
    | _ => none
  | 26 => match k with
    | 0 => some 28
    | 1 => some 41
    | 2 => some 54
    | 3 => some 67
    | 4 => some 80
    | _ => none
  | 28 => match k with
    | 0 => some 29
    | 1 => some 30
    | _ => none
  | 31 => match k with
    | 0 => some 32
    | _ => none
  | 32 => match k with
    | 0 => some 33
    | 1 => some 34
    | 2 => some 35
    | _ => none
  | 36 => match k with
    | 0 => some 37
    | _ => none
  | 37 => match k with
    | 0 => some 38
    | 1 => some 39
    | 2 => some 40
    | _ => none
  | 41 => match k with
    | 0 => some 42
    | 1 => some 43
    | _ => none
  | 44 => match k with
    | 0 => some 45
    | _ => none
  | 45 => match k with
    | 0 => some 46
    | 1 => some 47
    | 2 => some 48
    | _ => none
  | 49 => match k with
    | 0 => some 50
    | _ => none
  | 50 => match k with
    | 0 => some 51
    | 1 => some 52
    | 2 => some 53
    | _ => none
  | 54 => match k with
    | 0 => some 55
    | 1 => some 56
    | _ => none
  | 57 => match k with
    | 0 => some 58
    | _ => none
  | 58 => match k with
    | 0 => some 59
    | 1 => some 60
    | 2 => some 61
    | _ => none
  | 62 => match k with
    | 0 => some 63
    | _ => none
  | 63 => match k with
    | 0 => some 64
    | 1 => some 65
    | 2 => some 66
    | _ => none
  | 67 => match k with
    | 0 => some 68
    | 1 => some 69
    | _ => none
  | 70 => match k with
    | 0 => some 71
    | _ => none
  | 71 => match k with
    | 0 => some 72
    | 1 => some 73
    | 2 => some 74
    | _ => none
  | 75 => match k with
    | 0 => some 76
    | _ => none
  | 76 => match k with
    | 0 => some 77
    | 1 => some 78
    | 2 => some 79
    | _ => none
  | 80 => match k with
    | 0 => some 81
    | 1 => some 82
    | _ => none
  | 83 => match k with
    | 0 => some 84
    | _ => none
  | 84 => match k with
    | 0 => some 85
    | 1 => some 86
    | 2 => some 87
    | _ => none
  | 88 => match k with
    | 0 => some 89
    | _ => none
  | 89 => match k with
    | 0 => some 90
    | 1 => some 91
    | 2 => some 92
    | _ => none
  | 93 => match k with
    | 7 => some 94
    | 8 => some 95
    | 9 => some 96
    | 10 => some 97
    | 11 => some 98
    | 12 => some 99
    | 13 => some 100
    | 14 => some 101
    | 15 => some 102
    | 16 => some 103
    | 17 => some 104
    | 19 => some 105
    | 20 => some 106
    | 21 => some 107
    | 22 => some 108
    | 23 => some 109
    | 24 => some 110
    | 25 => some 111
    | 26 => some 112
    | 27 => some 113
    | 28 => some 114
    | 29 => some 115
    | 30 => some 116
    | 31 => some 117
    | 32 => some 118
    | 35 => some 119
    | 36 => some 120
    | 37 => some 121
    | 38 => some 122
    | 39 => some 123
    | 40 => some 124
    | 41 => some 125
    | _ => none
  | _ => none
def Lay (M : am_M) : Prop := 125 ≤ mN M ∧ (∀ a t n, sh a = some (t, n) → mT M a = (t, n)) ∧ ∀ a k r, rf a k = some r → mR M a k = some r
theorem sh_le {a t n : Nat} (h : sh a = some (t, n)) : 1 ≤ a ∧ a ≤ 125 := by
  rcases Nat.lt_or_ge a 126 with q | q
  · rcases Nat.eq_zero_or_pos a with e | e
    · subst e
      simp [sh] at h
    · exact ⟨e, by omega⟩
  · unfold sh at h
    split at h <;> first | omega | cases h
theorem lay_ok {M : am_M} (h : Lay M) {a t n : Nat} (e : sh a = some (t, n)) : am_ok M a t n := ⟨(sh_le e).1, Nat.le_trans (sh_le e).2 h.1, h.2.1 a t n e⟩
theorem lay_r {M : am_M} (h : Lay M) {a k r : Nat} (e : rf a k = some r) : mR M a k = some r := h.2.2 a k r e
theorem lay_wI {M : am_M} (h : Lay M) (a k : Nat) (v : Int32) : Lay (wI M a k v) := h
theorem lay_wF {M : am_M} (h : Lay M) (a : Nat) (f : Nat → Int32) : Lay (wF M a f) := h
theorem lay_wR {M : am_M} (h : Lay M) {a k : Nat} (v : Option Nat) (e : rf a k = none) : Lay (wR M a k v) := by
  refine ⟨h.1, h.2.1, fun x j r hr => ?_⟩
  rw [mR_wR]
  by_cases hx : x = a ∧ j = k
  · rw [hx.1, hx.2, e] at hr
    cases hr
  · rw [if_neg hx]
    exact h.2.2 x j r hr
theorem rf_le {a k r : Nat} (h : rf a k = some r) : a ≤ 125 := by
  rcases Nat.lt_or_ge a 126 with q | q
  · omega
  · unfold rf at h
    split at h <;> first | omega | cases h
theorem lay_wN {M : am_M} (h : Lay M) (t n : Nat) : Lay (wN M t n) := by
  refine ⟨Nat.le_trans h.1 (Nat.le_succ _), fun a t' n' e => ?_, fun a k r e => ?_⟩
  · rw [mT_wN_n M t n (by have := (sh_le e).2; have := h.1; omega)]
    exact h.2.1 a t' n' e
  · rw [mR_wN_n M t n (by have := rf_le e; have := h.1; omega)]
    exact h.2.2 a k r e
theorem lt5 {P : Nat → Prop} (h0 : P 0) (h1 : P 1) (h2 : P 2) (h3 : P 3) (h4 : P 4) {n : Nat} (h : n < 5) : P n := by
  match n, h with
  | 0, _ => exact h0
  | 1, _ => exact h1
  | 2, _ => exact h2
  | 3, _ => exact h3
  | 4, _ => exact h4
  | n + 5, h => omega
theorem sh_n0 {n : Nat} (hn : n < 5) : sh (28 + 13 * n) = some (6, 0) := lt5 (P := fun n => sh (28 + 13 * n) = some (6, 0)) rfl rfl rfl rfl rfl hn
theorem sh_n1 {n : Nat} (hn : n < 5) : sh (28 + 13 * n + 1) = some (12, 10) := lt5 (P := fun n => sh (28 + 13 * n + 1) = some (12, 10)) rfl rfl rfl rfl rfl hn
theorem sh_n2 {n : Nat} (hn : n < 5) : sh (28 + 13 * n + 2) = some (12, 10) := lt5 (P := fun n => sh (28 + 13 * n + 2) = some (12, 10)) rfl rfl rfl rfl rfl hn
theorem sh_n3 {n : Nat} (hn : n < 5) : sh (28 + 13 * n + 3) = some (4, 0) := lt5 (P := fun n => sh (28 + 13 * n + 3) = some (4, 0)) rfl rfl rfl rfl rfl hn
theorem sh_n4 {n : Nat} (hn : n < 5) : sh (28 + 13 * n + 4) = some (7, 0) := lt5 (P := fun n => sh (28 + 13 * n + 4) = some (7, 0)) rfl rfl rfl rfl rfl hn
theorem sh_n5 {n : Nat} (hn : n < 5) : sh (28 + 13 * n + 5) = some (10, 16) := lt5 (P := fun n => sh (28 + 13 * n + 5) = some (10, 16)) rfl rfl rfl rfl rfl hn
theorem sh_n6 {n : Nat} (hn : n < 5) : sh (28 + 13 * n + 6) = some (10, 16) := lt5 (P := fun n => sh (28 + 13 * n + 6) = some (10, 16)) rfl rfl rfl rfl rfl hn
theorem sh_n7 {n : Nat} (hn : n < 5) : sh (28 + 13 * n + 7) = some (11, 16) := lt5 (P := fun n => sh (28 + 13 * n + 7) = some (11, 16)) rfl rfl rfl rfl rfl hn
theorem sh_n8 {n : Nat} (hn : n < 5) : sh (28 + 13 * n + 8) = some (4, 0) := lt5 (P := fun n => sh (28 + 13 * n + 8) = some (4, 0)) rfl rfl rfl rfl rfl hn
theorem sh_n9 {n : Nat} (hn : n < 5) : sh (28 + 13 * n + 9) = some (7, 0) := lt5 (P := fun n => sh (28 + 13 * n + 9) = some (7, 0)) rfl rfl rfl rfl rfl hn
theorem sh_n10 {n : Nat} (hn : n < 5) : sh (28 + 13 * n + 10) = some (10, 16) := lt5 (P := fun n => sh (28 + 13 * n + 10) = some (10, 16)) rfl rfl rfl rfl rfl hn
theorem sh_n11 {n : Nat} (hn : n < 5) : sh (28 + 13 * n + 11) = some (10, 16) := lt5 (P := fun n => sh (28 + 13 * n + 11) = some (10, 16)) rfl rfl rfl rfl rfl hn
theorem sh_n12 {n : Nat} (hn : n < 5) : sh (28 + 13 * n + 12) = some (11, 16) := lt5 (P := fun n => sh (28 + 13 * n + 12) = some (11, 16)) rfl rfl rfl rfl rfl hn
theorem rf_row {n : Nat} (hn : n < 5) : rf 26 n = some (28 + 13 * n) := lt5 (P := fun n => rf 26 n = some (28 + 13 * n)) rfl rfl rfl rfl rfl hn
theorem rf_n0_0 {n : Nat} (hn : n < 5) : rf (28 + 13 * n) 0 = some (28 + 13 * n + 1) := lt5 (P := fun n => rf (28 + 13 * n) 0 = some (28 + 13 * n + 1)) rfl rfl rfl rfl rfl hn
theorem rf_n0_1 {n : Nat} (hn : n < 5) : rf (28 + 13 * n) 1 = some (28 + 13 * n + 2) := lt5 (P := fun n => rf (28 + 13 * n) 1 = some (28 + 13 * n + 2)) rfl rfl rfl rfl rfl hn
theorem rf_n3_0 {n : Nat} (hn : n < 5) : rf (28 + 13 * n + 3) 0 = some (28 + 13 * n + 4) := lt5 (P := fun n => rf (28 + 13 * n + 3) 0 = some (28 + 13 * n + 4)) rfl rfl rfl rfl rfl hn
theorem rf_n4_0 {n : Nat} (hn : n < 5) : rf (28 + 13 * n + 4) 0 = some (28 + 13 * n + 5) := lt5 (P := fun n => rf (28 + 13 * n + 4) 0 = some (28 + 13 * n + 5)) rfl rfl rfl rfl rfl hn
theorem rf_n4_1 {n : Nat} (hn : n < 5) : rf (28 + 13 * n + 4) 1 = some (28 + 13 * n + 6) := lt5 (P := fun n => rf (28 + 13 * n + 4) 1 = some (28 + 13 * n + 6)) rfl rfl rfl rfl rfl hn
theorem rf_n4_2 {n : Nat} (hn : n < 5) : rf (28 + 13 * n + 4) 2 = some (28 + 13 * n + 7) := lt5 (P := fun n => rf (28 + 13 * n + 4) 2 = some (28 + 13 * n + 7)) rfl rfl rfl rfl rfl hn
theorem rf_n8_0 {n : Nat} (hn : n < 5) : rf (28 + 13 * n + 8) 0 = some (28 + 13 * n + 9) := lt5 (P := fun n => rf (28 + 13 * n + 8) 0 = some (28 + 13 * n + 9)) rfl rfl rfl rfl rfl hn
theorem rf_n9_0 {n : Nat} (hn : n < 5) : rf (28 + 13 * n + 9) 0 = some (28 + 13 * n + 10) := lt5 (P := fun n => rf (28 + 13 * n + 9) 0 = some (28 + 13 * n + 10)) rfl rfl rfl rfl rfl hn
theorem rf_n9_1 {n : Nat} (hn : n < 5) : rf (28 + 13 * n + 9) 1 = some (28 + 13 * n + 11) := lt5 (P := fun n => rf (28 + 13 * n + 9) 1 = some (28 + 13 * n + 11)) rfl rfl rfl rfl rfl hn
theorem rf_n9_2 {n : Nat} (hn : n < 5) : rf (28 + 13 * n + 9) 2 = some (28 + 13 * n + 12) := lt5 (P := fun n => rf (28 + 13 * n + 9) 2 = some (28 + 13 * n + 12)) rfl rfl rfl rfl rfl hn
theorem rf_n0_2 {n : Nat} (hn : n < 5) : rf (28 + 13 * n) 2 = none := lt5 (P := fun n => rf (28 + 13 * n) 2 = none) rfl rfl rfl rfl rfl hn
theorem rf_n0_3 {n : Nat} (hn : n < 5) : rf (28 + 13 * n) 3 = none := lt5 (P := fun n => rf (28 + 13 * n) 3 = none) rfl rfl rfl rfl rfl hn
theorem rf_n1 {n k : Nat} (hn : n < 5) : rf (28 + 13 * n + 1) k = none := lt5 (P := fun n => rf (28 + 13 * n + 1) k = none) rfl rfl rfl rfl rfl hn
theorem rf_n2 {n k : Nat} (hn : n < 5) : rf (28 + 13 * n + 2) k = none := lt5 (P := fun n => rf (28 + 13 * n + 2) k = none) rfl rfl rfl rfl rfl hn
theorem r_lay {l : Launch} {y : MethodName} {cc : ByteArray} {nL : Nat} {rt : Option FieldType} {R : Room} {mc ms : Nat} {X : Nat × (Nat → Int32)} {Post : Option Value → am_M → Prop} {bc bs pc : Nat} {ls : List (Option Value)} {st : List Value} {M : am_M} (h : Lay M) (kk : Lay M → am_V l y cc nL rt R mc ms X Post bc bs pc ls st M) : am_V l y cc nL rt R mc ms X Post bc bs pc ls st M := kk h
