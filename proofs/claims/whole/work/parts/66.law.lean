/-! THE LAW -/
theorem lg_self (a : Int64) : lg_cmp a a = 0 := by
  unfold lg_cmp
  simp
theorem neg4 {L i : Nat} (h : L < 4) (hi : i < 2 ^ 31) : nI L - nI 4 < nI i := by
  have e : nI L - nI 4 < nI 0 := by
    rcases (show L = 0 ∨ L = 1 ∨ L = 2 ∨ L = 3 by omega) with rfl | rfl | rfl | rfl <;> decide
  exact Int32.lt_of_lt_of_le e (nI_le (Nat.zero_le _) hi)
theorem hM_gr {M M1 : am_M} {g : tG} (hL : Lay M) (h : am_gr (fun x => x ≤ 92) M M1) (k : absM M g) : absM M1 g := k.gr h hL.1 (fun x a b z => by have z : x ≤ 92 := z; omega)
set_option maxHeartbeats 4000000 in
set_option maxRecDepth 100000 in
theorem law_nodes {l : Launch} {X : Nat × (Nat → Int32)} {M : am_M} {g : tG} {c i : Nat} (hX : X.1 ≤ 2048) (hi : i = 4 * c) (hlen : i + 4 ≤ X.1) (hL : Lay M) (hA : absX M g) (hM : absM M g) (hI : gI c g) (kc : ∀ M' g', Lay M' → absX M' g' → absM M' g' → gI (c + 1) g' → am_V l yL_law code 4 ret room_1 774159 6779771 X (fun v _ => v = some (.int 1)) (774034 - 80 * (c + 1)) (6757417 - 2560 * (c + 1)) 18 [some (.ref 0), some (.ref 1), some (.ref 93), some (.int (nI (i + 4)))] [] M') : am_V l yL_law code 4 ret room_1 774159 6779771 X (fun v _ => v = some (.int 1)) (774034 - 80 * c) (6757417 - 2560 * c) 128 [some (.ref 0), some (.ref 1), some (.ref 93), some (.int (nI i))] [] M := by
  refine r_aload_n dL_law_128 rfl ?_
  refine r_aload_n dL_law_129 rfl ?_
  refine r_iload_n dL_law_130 rfl ?_
  refine r_iconst (nI 1) dL_law_131 (by decide) ?_
  refine r_iadd dL_law_132 ?_
  refine r_top (nI (i + 1)) (nI_add _ _) ?_
  refine r_sld (vp_in_nI (by omega) (by omega)) dL_law_133 ?_
  refine r_callV ca_yX8_nodes ml_L_13 im_yX8_nodes se_yX8_nodes (by decide) rfl (lay_ok hL rfl) (k_X8_nodes hL hA hI ) ⟨by decide, by decide⟩ (by first | decide | omega) (by first | decide | omega) rfl (Nat.le_of_ble_eq_true rfl) dL_law_134 (fun v0 M1 hp1 => ?_)
  obtain ⟨rfl, hA1, hL1, hg1⟩ := hp1
  have hM1 := hM_gr hL hg1 hM
  have hL := hL1
  refine r_aload_n dL_law_137 rfl ?_
  refine r_aload_n dL_law_138 rfl ?_
  refine r_iload_n dL_law_139 rfl ?_
  refine r_iconst (nI 1) dL_law_140 (by decide) ?_
  refine r_iadd dL_law_141 ?_
  refine r_top (nI (i + 1)) (nI_add _ _) ?_
  refine r_sld (vp_in_nI (by omega) (by omega)) dL_law_142 ?_
  refine r_callV ca_yX9_nodes ml_L_17 im_yX9_nodes se_yX9_nodes (by decide) rfl (lay_ok hL rfl) (k_X9_nodes hL1 hM1 hI ) ⟨by decide, by decide⟩ (by first | decide | omega) (by first | decide | omega) rfl (Nat.le_of_ble_eq_true rfl) dL_law_143 (fun v1 M2 hp1 => ?_)
  obtain ⟨rfl, hM2, hL2, hf2⟩ := hp1
  have hA2 := absX_rS hf2 hL1 hA1
  refine r_icmp_eq 707 dL_law_146 (by decide) (fun _ => ?_) (fun hq => absurd rfl hq)
  refine r_iinc (nI (i + 4)) _ dL_law_707 (by decide) rfl (nI_add i 4) rfl ?_
  refine r_goto 18 dL_law_710 (by decide) ?_
  refine r_room (bc' := 774034 - 80 * (c + 1)) (bs' := 6757417 - 2560 * (c + 1)) (by omega) (by omega) ?_
  exact kc _ _ hL2 hA2 hM2 (i_nodes hI (X.2 (nI (i + 1)).toNatClampNeg))
set_option maxHeartbeats 4000000 in
set_option maxRecDepth 100000 in
theorem law_vertex {l : Launch} {X : Nat × (Nat → Int32)} {M : am_M} {g : tG} {c i : Nat} (hX : X.1 ≤ 2048) (hi : i = 4 * c) (hlen : i + 4 ≤ X.1) (hL : Lay M) (hA : absX M g) (hM : absM M g) (hI : gI c g) (kc : ∀ M' g', Lay M' → absX M' g' → absM M' g' → gI (c + 1) g' → am_V l yL_law code 4 ret room_1 774159 6779771 X (fun v _ => v = some (.int 1)) (774034 - 80 * (c + 1)) (6757417 - 2560 * (c + 1)) 18 [some (.ref 0), some (.ref 1), some (.ref 93), some (.int (nI (i + 4)))] [] M') : am_V l yL_law code 4 ret room_1 774159 6779771 X (fun v _ => v = some (.int 1)) (774034 - 80 * c) (6757417 - 2560 * c) 151 [some (.ref 0), some (.ref 1), some (.ref 93), some (.int (nI i))] [] M := by
  refine r_aload_n dL_law_151 rfl ?_
  refine r_aload_n dL_law_152 rfl ?_
  refine r_iload_n dL_law_153 rfl ?_
  refine r_iconst (nI 1) dL_law_154 (by decide) ?_
  refine r_iadd dL_law_155 ?_
  refine r_top (nI (i + 1)) (nI_add _ _) ?_
  refine r_sld (vp_in_nI (by omega) (by omega)) dL_law_156 ?_
  refine r_aload_n dL_law_157 rfl ?_
  refine r_iload_n dL_law_158 rfl ?_
  refine r_iconst (nI 2) dL_law_159 (by decide) ?_
  refine r_iadd dL_law_160 ?_
  refine r_top (nI (i + 2)) (nI_add _ _) ?_
  refine r_sld (vp_in_nI (by omega) (by omega)) dL_law_161 ?_
  refine r_callV ca_yX8_vertex ml_L_18 im_yX8_vertex se_yX8_vertex (by decide) rfl (lay_ok hL rfl) (k_X8_vertex hL hA hI ) ⟨by decide, by decide⟩ (by first | decide | omega) (by first | decide | omega) rfl (Nat.le_of_ble_eq_true rfl) dL_law_162 (fun v0 M1 hp1 => ?_)
  obtain ⟨rfl, hA1, hL1, hg1⟩ := hp1
  have hM1 := hM_gr hL hg1 hM
  have hL := hL1
  refine r_aload_n dL_law_165 rfl ?_
  refine r_aload_n dL_law_166 rfl ?_
  refine r_iload_n dL_law_167 rfl ?_
  refine r_iconst (nI 1) dL_law_168 (by decide) ?_
  refine r_iadd dL_law_169 ?_
  refine r_top (nI (i + 1)) (nI_add _ _) ?_
  refine r_sld (vp_in_nI (by omega) (by omega)) dL_law_170 ?_
  refine r_aload_n dL_law_171 rfl ?_
  refine r_iload_n dL_law_172 rfl ?_
  refine r_iconst (nI 2) dL_law_173 (by decide) ?_
  refine r_iadd dL_law_174 ?_
  refine r_top (nI (i + 2)) (nI_add _ _) ?_
  refine r_sld (vp_in_nI (by omega) (by omega)) dL_law_175 ?_
  refine r_callV ca_yX9_vertex ml_L_22 im_yX9_vertex se_yX9_vertex (by decide) rfl (lay_ok hL rfl) (k_X9_vertex hL1 hM1 hI ) ⟨by decide, by decide⟩ (by first | decide | omega) (by first | decide | omega) rfl (Nat.le_of_ble_eq_true rfl) dL_law_176 (fun v1 M2 hp1 => ?_)
  obtain ⟨rfl, hM2, hL2, hf2⟩ := hp1
  have hA2 := absX_rS hf2 hL1 hA1
  refine r_icmp_eq 707 dL_law_179 (by decide) (fun _ => ?_) (fun hq => absurd rfl hq)
  refine r_iinc (nI (i + 4)) _ dL_law_707 (by decide) rfl (nI_add i 4) rfl ?_
  refine r_goto 18 dL_law_710 (by decide) ?_
  refine r_room (bc' := 774034 - 80 * (c + 1)) (bs' := 6757417 - 2560 * (c + 1)) (by omega) (by omega) ?_
  exact kc _ _ hL2 hA2 hM2 (i_vertex hI (X.2 (nI (i + 1)).toNatClampNeg) (X.2 (nI (i + 2)).toNatClampNeg))
set_option maxHeartbeats 4000000 in
set_option maxRecDepth 100000 in
theorem law_arc {l : Launch} {X : Nat × (Nat → Int32)} {M : am_M} {g : tG} {c i : Nat} (hX : X.1 ≤ 2048) (hi : i = 4 * c) (hlen : i + 4 ≤ X.1) (hL : Lay M) (hA : absX M g) (hM : absM M g) (hI : gI c g) (kc : ∀ M' g', Lay M' → absX M' g' → absM M' g' → gI (c + 1) g' → am_V l yL_law code 4 ret room_1 774159 6779771 X (fun v _ => v = some (.int 1)) (774034 - 80 * (c + 1)) (6757417 - 2560 * (c + 1)) 18 [some (.ref 0), some (.ref 1), some (.ref 93), some (.int (nI (i + 4)))] [] M') : am_V l yL_law code 4 ret room_1 774159 6779771 X (fun v _ => v = some (.int 1)) (774034 - 80 * c) (6757417 - 2560 * c) 184 [some (.ref 0), some (.ref 1), some (.ref 93), some (.int (nI i))] [] M := by
  refine r_aload_n dL_law_184 rfl ?_
  refine r_aload_n dL_law_185 rfl ?_
  refine r_iload_n dL_law_186 rfl ?_
  refine r_iconst (nI 1) dL_law_187 (by decide) ?_
  refine r_iadd dL_law_188 ?_
  refine r_top (nI (i + 1)) (nI_add _ _) ?_
  refine r_sld (vp_in_nI (by omega) (by omega)) dL_law_189 ?_
  refine r_aload_n dL_law_190 rfl ?_
  refine r_iload_n dL_law_191 rfl ?_
  refine r_iconst (nI 2) dL_law_192 (by decide) ?_
  refine r_iadd dL_law_193 ?_
  refine r_top (nI (i + 2)) (nI_add _ _) ?_
  refine r_sld (vp_in_nI (by omega) (by omega)) dL_law_194 ?_
  refine r_aload_n dL_law_195 rfl ?_
  refine r_iload_n dL_law_196 rfl ?_
  refine r_iconst (nI 3) dL_law_197 (by decide) ?_
  refine r_iadd dL_law_198 ?_
  refine r_top (nI (i + 3)) (nI_add _ _) ?_
  refine r_sld (vp_in_nI (by omega) (by omega)) dL_law_199 ?_
  refine r_callV ca_yX8_arc ml_L_23 im_yX8_arc se_yX8_arc (by decide) rfl (lay_ok hL rfl) (k_X8_arc hL hA hI ) ⟨by decide, by decide⟩ (by first | decide | omega) (by first | decide | omega) rfl (Nat.le_of_ble_eq_true rfl) dL_law_200 (fun v0 M1 hp1 => ?_)
  obtain ⟨rfl, hA1, hL1, hg1⟩ := hp1
  have hM1 := hM_gr hL hg1 hM
  have hL := hL1
  refine r_aload_n dL_law_203 rfl ?_
  refine r_aload_n dL_law_204 rfl ?_
  refine r_iload_n dL_law_205 rfl ?_
  refine r_iconst (nI 1) dL_law_206 (by decide) ?_
  refine r_iadd dL_law_207 ?_
  refine r_top (nI (i + 1)) (nI_add _ _) ?_
  refine r_sld (vp_in_nI (by omega) (by omega)) dL_law_208 ?_
  refine r_aload_n dL_law_209 rfl ?_
  refine r_iload_n dL_law_210 rfl ?_
  refine r_iconst (nI 2) dL_law_211 (by decide) ?_
  refine r_iadd dL_law_212 ?_
  refine r_top (nI (i + 2)) (nI_add _ _) ?_
  refine r_sld (vp_in_nI (by omega) (by omega)) dL_law_213 ?_
  refine r_aload_n dL_law_214 rfl ?_
  refine r_iload_n dL_law_215 rfl ?_
  refine r_iconst (nI 3) dL_law_216 (by decide) ?_
  refine r_iadd dL_law_217 ?_
  refine r_top (nI (i + 3)) (nI_add _ _) ?_
  refine r_sld (vp_in_nI (by omega) (by omega)) dL_law_218 ?_
  refine r_callV ca_yX9_arc ml_L_27 im_yX9_arc se_yX9_arc (by decide) rfl (lay_ok hL rfl) (k_X9_arc hL1 hM1 hI ) ⟨by decide, by decide⟩ (by first | decide | omega) (by first | decide | omega) rfl (Nat.le_of_ble_eq_true rfl) dL_law_219 (fun v1 M2 hp1 => ?_)
  obtain ⟨rfl, hM2, hL2, hf2⟩ := hp1
  have hA2 := absX_rS hf2 hL1 hA1
  refine r_icmp_eq 707 dL_law_222 (by decide) (fun _ => ?_) (fun hq => absurd rfl hq)
  refine r_iinc (nI (i + 4)) _ dL_law_707 (by decide) rfl (nI_add i 4) rfl ?_
  refine r_goto 18 dL_law_710 (by decide) ?_
  refine r_room (bc' := 774034 - 80 * (c + 1)) (bs' := 6757417 - 2560 * (c + 1)) (by omega) (by omega) ?_
  exact kc _ _ hL2 hA2 hM2 (i_arc hI (X.2 (nI (i + 1)).toNatClampNeg) (X.2 (nI (i + 2)).toNatClampNeg) (X.2 (nI (i + 3)).toNatClampNeg))
set_option maxHeartbeats 4000000 in
set_option maxRecDepth 100000 in
theorem law_kind {l : Launch} {X : Nat × (Nat → Int32)} {M : am_M} {g : tG} {c i : Nat} (hX : X.1 ≤ 2048) (hi : i = 4 * c) (hlen : i + 4 ≤ X.1) (hL : Lay M) (hA : absX M g) (hM : absM M g) (hI : gI c g) (kc : ∀ M' g', Lay M' → absX M' g' → absM M' g' → gI (c + 1) g' → am_V l yL_law code 4 ret room_1 774159 6779771 X (fun v _ => v = some (.int 1)) (774034 - 80 * (c + 1)) (6757417 - 2560 * (c + 1)) 18 [some (.ref 0), some (.ref 1), some (.ref 93), some (.int (nI (i + 4)))] [] M') : am_V l yL_law code 4 ret room_1 774159 6779771 X (fun v _ => v = some (.int 1)) (774034 - 80 * c) (6757417 - 2560 * c) 227 [some (.ref 0), some (.ref 1), some (.ref 93), some (.int (nI i))] [] M := by
  refine r_aload_n dL_law_227 rfl ?_
  refine r_aload_n dL_law_228 rfl ?_
  refine r_iload_n dL_law_229 rfl ?_
  refine r_iconst (nI 1) dL_law_230 (by decide) ?_
  refine r_iadd dL_law_231 ?_
  refine r_top (nI (i + 1)) (nI_add _ _) ?_
  refine r_sld (vp_in_nI (by omega) (by omega)) dL_law_232 ?_
  refine r_callV ca_yX8_kind ml_L_28 im_yX8_kind se_yX8_kind (by decide) rfl (lay_ok hL rfl) (k_X8_kind hL hA hI ) ⟨by decide, by decide⟩ (by first | decide | omega) (by first | decide | omega) rfl (Nat.le_of_ble_eq_true rfl) dL_law_233 (fun v0 M1 hp1 => ?_)
  obtain ⟨rfl, hA1, hL1, hg1⟩ := hp1
  have hM1 := hM_gr hL hg1 hM
  have hL := hL1
  refine r_aload_n dL_law_236 rfl ?_
  refine r_aload_n dL_law_237 rfl ?_
  refine r_iload_n dL_law_238 rfl ?_
  refine r_iconst (nI 1) dL_law_239 (by decide) ?_
  refine r_iadd dL_law_240 ?_
  refine r_top (nI (i + 1)) (nI_add _ _) ?_
  refine r_sld (vp_in_nI (by omega) (by omega)) dL_law_241 ?_
  refine r_callV ca_yX9_kind ml_L_31 im_yX9_kind se_yX9_kind (by decide) rfl (lay_ok hL rfl) (k_X9_kind hL1 hM1 hI ) ⟨by decide, by decide⟩ (by first | decide | omega) (by first | decide | omega) rfl (Nat.le_of_ble_eq_true rfl) dL_law_242 (fun v1 M2 hp1 => ?_)
  obtain ⟨rfl, hM2, hL2, hf2⟩ := hp1
  have hA2 := absX_rS hf2 hL1 hA1
  refine r_icmp_eq 707 dL_law_245 (by decide) (fun _ => ?_) (fun hq => absurd rfl hq)
  refine r_iinc (nI (i + 4)) _ dL_law_707 (by decide) rfl (nI_add i 4) rfl ?_
  refine r_goto 18 dL_law_710 (by decide) ?_
  refine r_room (bc' := 774034 - 80 * (c + 1)) (bs' := 6757417 - 2560 * (c + 1)) (by omega) (by omega) ?_
  exact kc _ _ hL2 hA2 hM2 (i_kind hI (X.2 (nI (i + 1)).toNatClampNeg))
set_option maxHeartbeats 4000000 in
set_option maxRecDepth 100000 in
theorem law_joined {l : Launch} {X : Nat × (Nat → Int32)} {M : am_M} {g : tG} {c i : Nat} (hX : X.1 ≤ 2048) (hi : i = 4 * c) (hlen : i + 4 ≤ X.1) (hL : Lay M) (hA : absX M g) (hM : absM M g) (hI : gI c g) (kc : ∀ M' g', Lay M' → absX M' g' → absM M' g' → gI (c + 1) g' → am_V l yL_law code 4 ret room_1 774159 6779771 X (fun v _ => v = some (.int 1)) (774034 - 80 * (c + 1)) (6757417 - 2560 * (c + 1)) 18 [some (.ref 0), some (.ref 1), some (.ref 93), some (.int (nI (i + 4)))] [] M') : am_V l yL_law code 4 ret room_1 774159 6779771 X (fun v _ => v = some (.int 1)) (774034 - 80 * c) (6757417 - 2560 * c) 250 [some (.ref 0), some (.ref 1), some (.ref 93), some (.int (nI i))] [] M := by
  by_cases cj : (X.2 (nI (i + 1)).toNatClampNeg) = 0
  · skip
    refine r_aload_n dL_law_250 rfl ?_
    refine r_aload_n dL_law_251 rfl ?_
    refine r_iload_n dL_law_252 rfl ?_
    refine r_iconst (nI 1) dL_law_253 (by decide) ?_
    refine r_iadd dL_law_254 ?_
    refine r_top (nI (i + 1)) (nI_add _ _) ?_
    refine r_sld (vp_in_nI (by omega) (by omega)) dL_law_255 ?_
    refine r_if_eq 263 dL_law_256 (by decide) (fun _ => ?_) (fun hq => absurd cj hq)
    refine r_iconst (0) dL_law_263 (by decide) ?_
    refine r_callV ca_yX8_joined ml_L_32 im_yX8_joined se_yX8_joined (by decide) rfl (lay_ok hL rfl) (k_X8_joined hL hA hI (b := 0) (by decide)) ⟨by decide, by decide⟩ (by first | decide | omega) (by first | decide | omega) rfl (Nat.le_of_ble_eq_true rfl) dL_law_264 (fun v0 M1 hp1 => ?_)
    obtain ⟨rfl, hA1, hL1, hg1⟩ := hp1
    have hM1 := hM_gr hL hg1 hM
    have hL := hL1
    refine r_aload_n dL_law_267 rfl ?_
    refine r_aload_n dL_law_268 rfl ?_
    refine r_iload_n dL_law_269 rfl ?_
    refine r_iconst (nI 1) dL_law_270 (by decide) ?_
    refine r_iadd dL_law_271 ?_
    refine r_top (nI (i + 1)) (nI_add _ _) ?_
    refine r_sld (vp_in_nI (by omega) (by omega)) dL_law_272 ?_
    refine r_if_eq 280 dL_law_273 (by decide) (fun _ => ?_) (fun hq => absurd cj hq)
    refine r_iconst (0) dL_law_280 (by decide) ?_
    refine r_callV ca_yX9_joined ml_L_36 im_yX9_joined se_yX9_joined (by decide) rfl (lay_ok hL rfl) (k_X9_joined hL1 hM1 hI (b := 0) (by decide)) ⟨by decide, by decide⟩ (by first | decide | omega) (by first | decide | omega) rfl (Nat.le_of_ble_eq_true rfl) dL_law_281 (fun v1 M2 hp1 => ?_)
    obtain ⟨rfl, hM2, hL2, hf2⟩ := hp1
    have hA2 := absX_rS hf2 hL1 hA1
    refine r_icmp_eq 707 dL_law_284 (by decide) (fun _ => ?_) (fun hq => absurd rfl hq)
    refine r_iinc (nI (i + 4)) _ dL_law_707 (by decide) rfl (nI_add i 4) rfl ?_
    refine r_goto 18 dL_law_710 (by decide) ?_
    refine r_room (bc' := 774034 - 80 * (c + 1)) (bs' := 6757417 - 2560 * (c + 1)) (by omega) (by omega) ?_
    exact kc _ _ hL2 hA2 hM2 (i_joined hI (by decide))
  · skip
    refine r_aload_n dL_law_250 rfl ?_
    refine r_aload_n dL_law_251 rfl ?_
    refine r_iload_n dL_law_252 rfl ?_
    refine r_iconst (nI 1) dL_law_253 (by decide) ?_
    refine r_iadd dL_law_254 ?_
    refine r_top (nI (i + 1)) (nI_add _ _) ?_
    refine r_sld (vp_in_nI (by omega) (by omega)) dL_law_255 ?_
    refine r_if_eq 263 dL_law_256 (by decide) (fun hq => absurd hq cj) (fun _ => ?_)
    refine r_iconst (1) dL_law_259 (by decide) ?_
    refine r_goto 264 dL_law_260 (by decide) ?_
    refine r_callV ca_yX8_joined ml_L_32 im_yX8_joined se_yX8_joined (by decide) rfl (lay_ok hL rfl) (k_X8_joined hL hA hI (b := 1) (by decide)) ⟨by decide, by decide⟩ (by first | decide | omega) (by first | decide | omega) rfl (Nat.le_of_ble_eq_true rfl) dL_law_264 (fun v0 M1 hp1 => ?_)
    obtain ⟨rfl, hA1, hL1, hg1⟩ := hp1
    have hM1 := hM_gr hL hg1 hM
    have hL := hL1
    refine r_aload_n dL_law_267 rfl ?_
    refine r_aload_n dL_law_268 rfl ?_
    refine r_iload_n dL_law_269 rfl ?_
    refine r_iconst (nI 1) dL_law_270 (by decide) ?_
    refine r_iadd dL_law_271 ?_
    refine r_top (nI (i + 1)) (nI_add _ _) ?_
    refine r_sld (vp_in_nI (by omega) (by omega)) dL_law_272 ?_
    refine r_if_eq 280 dL_law_273 (by decide) (fun hq => absurd hq cj) (fun _ => ?_)
    refine r_iconst (1) dL_law_276 (by decide) ?_
    refine r_goto 281 dL_law_277 (by decide) ?_
    refine r_callV ca_yX9_joined ml_L_36 im_yX9_joined se_yX9_joined (by decide) rfl (lay_ok hL rfl) (k_X9_joined hL1 hM1 hI (b := 1) (by decide)) ⟨by decide, by decide⟩ (by first | decide | omega) (by first | decide | omega) rfl (Nat.le_of_ble_eq_true rfl) dL_law_281 (fun v1 M2 hp1 => ?_)
    obtain ⟨rfl, hM2, hL2, hf2⟩ := hp1
    have hA2 := absX_rS hf2 hL1 hA1
    refine r_icmp_eq 707 dL_law_284 (by decide) (fun _ => ?_) (fun hq => absurd rfl hq)
    refine r_iinc (nI (i + 4)) _ dL_law_707 (by decide) rfl (nI_add i 4) rfl ?_
    refine r_goto 18 dL_law_710 (by decide) ?_
    refine r_room (bc' := 774034 - 80 * (c + 1)) (bs' := 6757417 - 2560 * (c + 1)) (by omega) (by omega) ?_
    exact kc _ _ hL2 hA2 hM2 (i_joined hI (by decide))
set_option maxHeartbeats 4000000 in
set_option maxRecDepth 100000 in
theorem law_every {l : Launch} {X : Nat × (Nat → Int32)} {M : am_M} {g : tG} {c i : Nat} (hX : X.1 ≤ 2048) (hi : i = 4 * c) (hlen : i + 4 ≤ X.1) (hL : Lay M) (hA : absX M g) (hM : absM M g) (hI : gI c g) (kc : ∀ M' g', Lay M' → absX M' g' → absM M' g' → gI (c + 1) g' → am_V l yL_law code 4 ret room_1 774159 6779771 X (fun v _ => v = some (.int 1)) (774034 - 80 * (c + 1)) (6757417 - 2560 * (c + 1)) 18 [some (.ref 0), some (.ref 1), some (.ref 93), some (.int (nI (i + 4)))] [] M') : am_V l yL_law code 4 ret room_1 774159 6779771 X (fun v _ => v = some (.int 1)) (774034 - 80 * c) (6757417 - 2560 * c) 289 [some (.ref 0), some (.ref 1), some (.ref 93), some (.int (nI i))] [] M := by
  refine r_aload_n dL_law_289 rfl ?_
  refine r_aload_n dL_law_290 rfl ?_
  refine r_iload_n dL_law_291 rfl ?_
  refine r_iconst (nI 1) dL_law_292 (by decide) ?_
  refine r_iadd dL_law_293 ?_
  refine r_top (nI (i + 1)) (nI_add _ _) ?_
  refine r_sld (vp_in_nI (by omega) (by omega)) dL_law_294 ?_
  refine r_callV ca_yX8_every ml_L_37 im_yX8_every se_yX8_every (by decide) rfl (lay_ok hL rfl) (k_X8_every hL hA hI ) ⟨by decide, by decide⟩ (by first | decide | omega) (by first | decide | omega) rfl (Nat.le_of_ble_eq_true rfl) dL_law_295 (fun v0 M1 hp1 => ?_)
  obtain ⟨rfl, hA1, hL1, hg1⟩ := hp1
  have hM1 := hM_gr hL hg1 hM
  have hL := hL1
  refine r_aload_n dL_law_298 rfl ?_
  refine r_aload_n dL_law_299 rfl ?_
  refine r_iload_n dL_law_300 rfl ?_
  refine r_iconst (nI 1) dL_law_301 (by decide) ?_
  refine r_iadd dL_law_302 ?_
  refine r_top (nI (i + 1)) (nI_add _ _) ?_
  refine r_sld (vp_in_nI (by omega) (by omega)) dL_law_303 ?_
  refine r_callV ca_yX9_every ml_L_40 im_yX9_every se_yX9_every (by decide) rfl (lay_ok hL rfl) (k_X9_every hL1 hM1 hI ) ⟨by decide, by decide⟩ (by first | decide | omega) (by first | decide | omega) rfl (Nat.le_of_ble_eq_true rfl) dL_law_304 (fun v1 M2 hp1 => ?_)
  obtain ⟨rfl, hM2, hL2, hf2⟩ := hp1
  have hA2 := absX_rS hf2 hL1 hA1
  refine r_icmp_eq 707 dL_law_307 (by decide) (fun _ => ?_) (fun hq => absurd rfl hq)
  refine r_iinc (nI (i + 4)) _ dL_law_707 (by decide) rfl (nI_add i 4) rfl ?_
  refine r_goto 18 dL_law_710 (by decide) ?_
  refine r_room (bc' := 774034 - 80 * (c + 1)) (bs' := 6757417 - 2560 * (c + 1)) (by omega) (by omega) ?_
  exact kc _ _ hL2 hA2 hM2 (i_every hI (X.2 (nI (i + 1)).toNatClampNeg))
set_option maxHeartbeats 4000000 in
set_option maxRecDepth 100000 in
theorem law_start {l : Launch} {X : Nat × (Nat → Int32)} {M : am_M} {g : tG} {c i : Nat} (hX : X.1 ≤ 2048) (hi : i = 4 * c) (hlen : i + 4 ≤ X.1) (hL : Lay M) (hA : absX M g) (hM : absM M g) (hI : gI c g) (kc : ∀ M' g', Lay M' → absX M' g' → absM M' g' → gI (c + 1) g' → am_V l yL_law code 4 ret room_1 774159 6779771 X (fun v _ => v = some (.int 1)) (774034 - 80 * (c + 1)) (6757417 - 2560 * (c + 1)) 18 [some (.ref 0), some (.ref 1), some (.ref 93), some (.int (nI (i + 4)))] [] M') : am_V l yL_law code 4 ret room_1 774159 6779771 X (fun v _ => v = some (.int 1)) (774034 - 80 * c) (6757417 - 2560 * c) 312 [some (.ref 0), some (.ref 1), some (.ref 93), some (.int (nI i))] [] M := by
  refine r_aload_n dL_law_312 rfl ?_
  refine r_callV ca_yX8_start ml_L_41 im_yX8_start se_yX8_start (by decide) rfl (lay_ok hL rfl) (k_X8_start hL hA hI ) ⟨by decide, by decide⟩ (by first | decide | omega) (by first | decide | omega) rfl (Nat.le_of_ble_eq_true rfl) dL_law_313 (fun v0 M1 hp1 => ?_)
  obtain ⟨rfl, hA1, hL1, hg1⟩ := hp1
  have hM1 := hM_gr hL hg1 hM
  have hL := hL1
  refine r_aload_n dL_law_316 rfl ?_
  refine r_callV ca_yX9_start ml_L_45 im_yX9_start se_yX9_start (by decide) rfl (lay_ok hL rfl) (k_X9_start hL1 hM1 hI ) ⟨by decide, by decide⟩ (by first | decide | omega) (by first | decide | omega) rfl (Nat.le_of_ble_eq_true rfl) dL_law_317 (fun v1 M2 hp1 => ?_)
  obtain ⟨rfl, hM2, hL2, hf2⟩ := hp1
  have hA2 := absX_rS hf2 hL1 hA1
  refine r_icmp_eq 707 dL_law_320 (by decide) (fun _ => ?_) (fun hq => absurd rfl hq)
  refine r_iinc (nI (i + 4)) _ dL_law_707 (by decide) rfl (nI_add i 4) rfl ?_
  refine r_goto 18 dL_law_710 (by decide) ?_
  refine r_room (bc' := 774034 - 80 * (c + 1)) (bs' := 6757417 - 2560 * (c + 1)) (by omega) (by omega) ?_
  exact kc _ _ hL2 hA2 hM2 (i_start hI)
set_option maxHeartbeats 4000000 in
set_option maxRecDepth 100000 in
theorem law_letter {l : Launch} {X : Nat × (Nat → Int32)} {M : am_M} {g : tG} {c i : Nat} (hX : X.1 ≤ 2048) (hi : i = 4 * c) (hlen : i + 4 ≤ X.1) (hL : Lay M) (hA : absX M g) (hM : absM M g) (hI : gI c g) (kc : ∀ M' g', Lay M' → absX M' g' → absM M' g' → gI (c + 1) g' → am_V l yL_law code 4 ret room_1 774159 6779771 X (fun v _ => v = some (.int 1)) (774034 - 80 * (c + 1)) (6757417 - 2560 * (c + 1)) 18 [some (.ref 0), some (.ref 1), some (.ref 93), some (.int (nI (i + 4)))] [] M') : am_V l yL_law code 4 ret room_1 774159 6779771 X (fun v _ => v = some (.int 1)) (774034 - 80 * c) (6757417 - 2560 * c) 325 [some (.ref 0), some (.ref 1), some (.ref 93), some (.int (nI i))] [] M := by
  refine r_aload_n dL_law_325 rfl ?_
  refine r_aload_n dL_law_326 rfl ?_
  refine r_iload_n dL_law_327 rfl ?_
  refine r_iconst (nI 1) dL_law_328 (by decide) ?_
  refine r_iadd dL_law_329 ?_
  refine r_top (nI (i + 1)) (nI_add _ _) ?_
  refine r_sld (vp_in_nI (by omega) (by omega)) dL_law_330 ?_
  refine r_aload_n dL_law_331 rfl ?_
  refine r_iload_n dL_law_332 rfl ?_
  refine r_iconst (nI 2) dL_law_333 (by decide) ?_
  refine r_iadd dL_law_334 ?_
  refine r_top (nI (i + 2)) (nI_add _ _) ?_
  refine r_sld (vp_in_nI (by omega) (by omega)) dL_law_335 ?_
  refine r_cV ca_yX8_letter ml_L_46 im_yX8_letter se_yX8_letter (by decide) rfl (lay_ok hL rfl) (k_X8_letter hL hA hI) ⟨by decide, by decide⟩ (by first | decide | omega) (by first | decide | omega) rfl (Nat.le_of_ble_eq_true rfl) dL_law_336 ?_
  refine r_aload_n dL_law_339 rfl ?_
  refine r_aload_n dL_law_340 rfl ?_
  refine r_iload_n dL_law_341 rfl ?_
  refine r_iconst (nI 1) dL_law_342 (by decide) ?_
  refine r_iadd dL_law_343 ?_
  refine r_top (nI (i + 1)) (nI_add _ _) ?_
  refine r_sld (vp_in_nI (by omega) (by omega)) dL_law_344 ?_
  refine r_aload_n dL_law_345 rfl ?_
  refine r_iload_n dL_law_346 rfl ?_
  refine r_iconst (nI 2) dL_law_347 (by decide) ?_
  refine r_iadd dL_law_348 ?_
  refine r_top (nI (i + 2)) (nI_add _ _) ?_
  refine r_sld (vp_in_nI (by omega) (by omega)) dL_law_349 ?_
  refine r_cV ca_yX9_letter ml_L_49 im_yX9_letter se_yX9_letter (by decide) rfl (lay_ok hL rfl) (k_X9_letter hL hM hI) ⟨by decide, by decide⟩ (by first | decide | omega) (by first | decide | omega) rfl (Nat.le_of_ble_eq_true rfl) dL_law_350 ?_
  refine r_icmp_eq 707 dL_law_353 (by decide) (fun _ => ?_) (fun hq => absurd rfl hq)
  refine r_iinc (nI (i + 4)) _ dL_law_707 (by decide) rfl (nI_add i 4) rfl ?_
  refine r_goto 18 dL_law_710 (by decide) ?_
  refine r_room (bc' := 774034 - 80 * (c + 1)) (bs' := 6757417 - 2560 * (c + 1)) (by omega) (by omega) ?_
  exact kc M g hL hA hM (gI_mono hI)
set_option maxHeartbeats 4000000 in
set_option maxRecDepth 100000 in
theorem law_entry {l : Launch} {X : Nat × (Nat → Int32)} {M : am_M} {g : tG} {c i : Nat} (hX : X.1 ≤ 2048) (hi : i = 4 * c) (hlen : i + 4 ≤ X.1) (hL : Lay M) (hA : absX M g) (hM : absM M g) (hI : gI c g) (kc : ∀ M' g', Lay M' → absX M' g' → absM M' g' → gI (c + 1) g' → am_V l yL_law code 4 ret room_1 774159 6779771 X (fun v _ => v = some (.int 1)) (774034 - 80 * (c + 1)) (6757417 - 2560 * (c + 1)) 18 [some (.ref 0), some (.ref 1), some (.ref 93), some (.int (nI (i + 4)))] [] M') : am_V l yL_law code 4 ret room_1 774159 6779771 X (fun v _ => v = some (.int 1)) (774034 - 80 * c) (6757417 - 2560 * c) 358 [some (.ref 0), some (.ref 1), some (.ref 93), some (.int (nI i))] [] M := by
  refine r_aload_n dL_law_358 rfl ?_
  refine r_aload_n dL_law_359 rfl ?_
  refine r_iload_n dL_law_360 rfl ?_
  refine r_iconst (nI 1) dL_law_361 (by decide) ?_
  refine r_iadd dL_law_362 ?_
  refine r_top (nI (i + 1)) (nI_add _ _) ?_
  refine r_sld (vp_in_nI (by omega) (by omega)) dL_law_363 ?_
  refine r_aload_n dL_law_364 rfl ?_
  refine r_iload_n dL_law_365 rfl ?_
  refine r_iconst (nI 2) dL_law_366 (by decide) ?_
  refine r_iadd dL_law_367 ?_
  refine r_top (nI (i + 2)) (nI_add _ _) ?_
  refine r_sld (vp_in_nI (by omega) (by omega)) dL_law_368 ?_
  refine r_aload_n dL_law_369 rfl ?_
  refine r_iload_n dL_law_370 rfl ?_
  refine r_iconst (nI 3) dL_law_371 (by decide) ?_
  refine r_iadd dL_law_372 ?_
  refine r_top (nI (i + 3)) (nI_add _ _) ?_
  refine r_sld (vp_in_nI (by omega) (by omega)) dL_law_373 ?_
  refine r_cV ca_yX8_entry ml_L_50 im_yX8_entry se_yX8_entry (by decide) rfl (lay_ok hL rfl) (k_X8_entry hL hA hI) ⟨by decide, by decide⟩ (by first | decide | omega) (by first | decide | omega) rfl (Nat.le_of_ble_eq_true rfl) dL_law_374 ?_
  refine r_aload_n dL_law_377 rfl ?_
  refine r_aload_n dL_law_378 rfl ?_
  refine r_iload_n dL_law_379 rfl ?_
  refine r_iconst (nI 1) dL_law_380 (by decide) ?_
  refine r_iadd dL_law_381 ?_
  refine r_top (nI (i + 1)) (nI_add _ _) ?_
  refine r_sld (vp_in_nI (by omega) (by omega)) dL_law_382 ?_
  refine r_aload_n dL_law_383 rfl ?_
  refine r_iload_n dL_law_384 rfl ?_
  refine r_iconst (nI 2) dL_law_385 (by decide) ?_
  refine r_iadd dL_law_386 ?_
  refine r_top (nI (i + 2)) (nI_add _ _) ?_
  refine r_sld (vp_in_nI (by omega) (by omega)) dL_law_387 ?_
  refine r_aload_n dL_law_388 rfl ?_
  refine r_iload_n dL_law_389 rfl ?_
  refine r_iconst (nI 3) dL_law_390 (by decide) ?_
  refine r_iadd dL_law_391 ?_
  refine r_top (nI (i + 3)) (nI_add _ _) ?_
  refine r_sld (vp_in_nI (by omega) (by omega)) dL_law_392 ?_
  refine r_cV ca_yX9_entry ml_L_54 im_yX9_entry se_yX9_entry (by decide) rfl (lay_ok hL rfl) (k_X9_entry hL hM hI) ⟨by decide, by decide⟩ (by first | decide | omega) (by first | decide | omega) rfl (Nat.le_of_ble_eq_true rfl) dL_law_393 ?_
  refine r_lcmp dL_law_396 ?_
  refine r_top (0) (lg_self _) ?_
  refine r_if_eq 707 dL_law_397 (by decide) (fun _ => ?_) (fun hq => absurd rfl hq)
  refine r_iinc (nI (i + 4)) _ dL_law_707 (by decide) rfl (nI_add i 4) rfl ?_
  refine r_goto 18 dL_law_710 (by decide) ?_
  refine r_room (bc' := 774034 - 80 * (c + 1)) (bs' := 6757417 - 2560 * (c + 1)) (by omega) (by omega) ?_
  exact kc M g hL hA hM (gI_mono hI)
set_option maxHeartbeats 4000000 in
set_option maxRecDepth 100000 in
theorem law_deliver {l : Launch} {X : Nat × (Nat → Int32)} {M : am_M} {g : tG} {c i : Nat} (hX : X.1 ≤ 2048) (hi : i = 4 * c) (hlen : i + 4 ≤ X.1) (hL : Lay M) (hA : absX M g) (hM : absM M g) (hI : gI c g) (kc : ∀ M' g', Lay M' → absX M' g' → absM M' g' → gI (c + 1) g' → am_V l yL_law code 4 ret room_1 774159 6779771 X (fun v _ => v = some (.int 1)) (774034 - 80 * (c + 1)) (6757417 - 2560 * (c + 1)) 18 [some (.ref 0), some (.ref 1), some (.ref 93), some (.int (nI (i + 4)))] [] M') : am_V l yL_law code 4 ret room_1 774159 6779771 X (fun v _ => v = some (.int 1)) (774034 - 80 * c) (6757417 - 2560 * c) 402 [some (.ref 0), some (.ref 1), some (.ref 93), some (.int (nI i))] [] M := by
  refine r_aload_n dL_law_402 rfl ?_
  refine r_aload_n dL_law_403 rfl ?_
  refine r_iload_n dL_law_404 rfl ?_
  refine r_iconst (nI 1) dL_law_405 (by decide) ?_
  refine r_iadd dL_law_406 ?_
  refine r_top (nI (i + 1)) (nI_add _ _) ?_
  refine r_sld (vp_in_nI (by omega) (by omega)) dL_law_407 ?_
  refine r_callV ca_yX8_deliver ml_L_55 im_yX8_deliver se_yX8_deliver (by decide) rfl (lay_ok hL rfl) (k_X8_deliver hL hA hI ) ⟨by decide, by decide⟩ (by first | decide | omega) (by first | decide | omega) rfl (Nat.le_of_ble_eq_true rfl) dL_law_408 (fun v0 M1 hp1 => ?_)
  obtain ⟨rfl, hA1, hL1, hg1⟩ := hp1
  have hM1 := hM_gr hL hg1 hM
  have hL := hL1
  refine r_aload_n dL_law_411 rfl ?_
  refine r_aload_n dL_law_412 rfl ?_
  refine r_iload_n dL_law_413 rfl ?_
  refine r_iconst (nI 1) dL_law_414 (by decide) ?_
  refine r_iadd dL_law_415 ?_
  refine r_top (nI (i + 1)) (nI_add _ _) ?_
  refine r_sld (vp_in_nI (by omega) (by omega)) dL_law_416 ?_
  refine r_callV ca_yX9_deliver ml_L_58 im_yX9_deliver se_yX9_deliver (by decide) rfl (lay_ok hL rfl) (k_X9_deliver hL1 hM1 hI ) ⟨by decide, by decide⟩ (by first | decide | omega) (by first | decide | omega) rfl (Nat.le_of_ble_eq_true rfl) dL_law_417 (fun v1 M2 hp1 => ?_)
  obtain ⟨rfl, hM2, hL2, hf2⟩ := hp1
  have hA2 := absX_rS hf2 hL1 hA1
  refine r_icmp_eq 707 dL_law_420 (by decide) (fun _ => ?_) (fun hq => absurd rfl hq)
  refine r_iinc (nI (i + 4)) _ dL_law_707 (by decide) rfl (nI_add i 4) rfl ?_
  refine r_goto 18 dL_law_710 (by decide) ?_
  refine r_room (bc' := 774034 - 80 * (c + 1)) (bs' := 6757417 - 2560 * (c + 1)) (by omega) (by omega) ?_
  exact kc _ _ hL2 hA2 hM2 (i_deliver hI (X.2 (nI (i + 1)).toNatClampNeg))
set_option maxHeartbeats 4000000 in
set_option maxRecDepth 100000 in
theorem law_lose {l : Launch} {X : Nat × (Nat → Int32)} {M : am_M} {g : tG} {c i : Nat} (hX : X.1 ≤ 2048) (hi : i = 4 * c) (hlen : i + 4 ≤ X.1) (hL : Lay M) (hA : absX M g) (hM : absM M g) (hI : gI c g) (kc : ∀ M' g', Lay M' → absX M' g' → absM M' g' → gI (c + 1) g' → am_V l yL_law code 4 ret room_1 774159 6779771 X (fun v _ => v = some (.int 1)) (774034 - 80 * (c + 1)) (6757417 - 2560 * (c + 1)) 18 [some (.ref 0), some (.ref 1), some (.ref 93), some (.int (nI (i + 4)))] [] M') : am_V l yL_law code 4 ret room_1 774159 6779771 X (fun v _ => v = some (.int 1)) (774034 - 80 * c) (6757417 - 2560 * c) 425 [some (.ref 0), some (.ref 1), some (.ref 93), some (.int (nI i))] [] M := by
  refine r_aload_n dL_law_425 rfl ?_
  refine r_aload_n dL_law_426 rfl ?_
  refine r_iload_n dL_law_427 rfl ?_
  refine r_iconst (nI 1) dL_law_428 (by decide) ?_
  refine r_iadd dL_law_429 ?_
  refine r_top (nI (i + 1)) (nI_add _ _) ?_
  refine r_sld (vp_in_nI (by omega) (by omega)) dL_law_430 ?_
  refine r_callV ca_yX8_lose ml_L_59 im_yX8_lose se_yX8_lose (by decide) rfl (lay_ok hL rfl) (k_X8_lose hL hA hI ) ⟨by decide, by decide⟩ (by first | decide | omega) (by first | decide | omega) rfl (Nat.le_of_ble_eq_true rfl) dL_law_431 (fun v0 M1 hp1 => ?_)
  obtain ⟨rfl, hA1, hL1, hg1⟩ := hp1
  have hM1 := hM_gr hL hg1 hM
  have hL := hL1
  refine r_aload_n dL_law_434 rfl ?_
  refine r_aload_n dL_law_435 rfl ?_
  refine r_iload_n dL_law_436 rfl ?_
  refine r_iconst (nI 1) dL_law_437 (by decide) ?_
  refine r_iadd dL_law_438 ?_
  refine r_top (nI (i + 1)) (nI_add _ _) ?_
  refine r_sld (vp_in_nI (by omega) (by omega)) dL_law_439 ?_
  refine r_callV ca_yX9_lose ml_L_62 im_yX9_lose se_yX9_lose (by decide) rfl (lay_ok hL rfl) (k_X9_lose hL1 hM1 hI ) ⟨by decide, by decide⟩ (by first | decide | omega) (by first | decide | omega) rfl (Nat.le_of_ble_eq_true rfl) dL_law_440 (fun v1 M2 hp1 => ?_)
  obtain ⟨rfl, hM2, hL2, hf2⟩ := hp1
  have hA2 := absX_rS hf2 hL1 hA1
  refine r_icmp_eq 707 dL_law_443 (by decide) (fun _ => ?_) (fun hq => absurd rfl hq)
  refine r_iinc (nI (i + 4)) _ dL_law_707 (by decide) rfl (nI_add i 4) rfl ?_
  refine r_goto 18 dL_law_710 (by decide) ?_
  refine r_room (bc' := 774034 - 80 * (c + 1)) (bs' := 6757417 - 2560 * (c + 1)) (by omega) (by omega) ?_
  exact kc _ _ hL2 hA2 hM2 (i_lose hI (X.2 (nI (i + 1)).toNatClampNeg))
set_option maxHeartbeats 4000000 in
set_option maxRecDepth 100000 in
theorem law_copy {l : Launch} {X : Nat × (Nat → Int32)} {M : am_M} {g : tG} {c i : Nat} (hX : X.1 ≤ 2048) (hi : i = 4 * c) (hlen : i + 4 ≤ X.1) (hL : Lay M) (hA : absX M g) (hM : absM M g) (hI : gI c g) (kc : ∀ M' g', Lay M' → absX M' g' → absM M' g' → gI (c + 1) g' → am_V l yL_law code 4 ret room_1 774159 6779771 X (fun v _ => v = some (.int 1)) (774034 - 80 * (c + 1)) (6757417 - 2560 * (c + 1)) 18 [some (.ref 0), some (.ref 1), some (.ref 93), some (.int (nI (i + 4)))] [] M') : am_V l yL_law code 4 ret room_1 774159 6779771 X (fun v _ => v = some (.int 1)) (774034 - 80 * c) (6757417 - 2560 * c) 448 [some (.ref 0), some (.ref 1), some (.ref 93), some (.int (nI i))] [] M := by
  refine r_aload_n dL_law_448 rfl ?_
  refine r_aload_n dL_law_449 rfl ?_
  refine r_iload_n dL_law_450 rfl ?_
  refine r_iconst (nI 1) dL_law_451 (by decide) ?_
  refine r_iadd dL_law_452 ?_
  refine r_top (nI (i + 1)) (nI_add _ _) ?_
  refine r_sld (vp_in_nI (by omega) (by omega)) dL_law_453 ?_
  refine r_callV ca_yX8_copy ml_L_63 im_yX8_copy se_yX8_copy (by decide) rfl (lay_ok hL rfl) (k_X8_copy hL hA hI ) ⟨by decide, by decide⟩ (by first | decide | omega) (by first | decide | omega) rfl (Nat.le_of_ble_eq_true rfl) dL_law_454 (fun v0 M1 hp1 => ?_)
  obtain ⟨rfl, hA1, hL1, hg1⟩ := hp1
  have hM1 := hM_gr hL hg1 hM
  have hL := hL1
  refine r_aload_n dL_law_457 rfl ?_
  refine r_aload_n dL_law_458 rfl ?_
  refine r_iload_n dL_law_459 rfl ?_
  refine r_iconst (nI 1) dL_law_460 (by decide) ?_
  refine r_iadd dL_law_461 ?_
  refine r_top (nI (i + 1)) (nI_add _ _) ?_
  refine r_sld (vp_in_nI (by omega) (by omega)) dL_law_462 ?_
  refine r_callV ca_yX9_copy ml_L_66 im_yX9_copy se_yX9_copy (by decide) rfl (lay_ok hL rfl) (k_X9_copy hL1 hM1 hI ) ⟨by decide, by decide⟩ (by first | decide | omega) (by first | decide | omega) rfl (Nat.le_of_ble_eq_true rfl) dL_law_463 (fun v1 M2 hp1 => ?_)
  obtain ⟨rfl, hM2, hL2, hf2⟩ := hp1
  have hA2 := absX_rS hf2 hL1 hA1
  refine r_icmp_eq 707 dL_law_466 (by decide) (fun _ => ?_) (fun hq => absurd rfl hq)
  refine r_iinc (nI (i + 4)) _ dL_law_707 (by decide) rfl (nI_add i 4) rfl ?_
  refine r_goto 18 dL_law_710 (by decide) ?_
  refine r_room (bc' := 774034 - 80 * (c + 1)) (bs' := 6757417 - 2560 * (c + 1)) (by omega) (by omega) ?_
  exact kc _ _ hL2 hA2 hM2 (i_copy hI (X.2 (nI (i + 1)).toNatClampNeg))
set_option maxHeartbeats 4000000 in
set_option maxRecDepth 100000 in
theorem law_resend {l : Launch} {X : Nat × (Nat → Int32)} {M : am_M} {g : tG} {c i : Nat} (hX : X.1 ≤ 2048) (hi : i = 4 * c) (hlen : i + 4 ≤ X.1) (hL : Lay M) (hA : absX M g) (hM : absM M g) (hI : gI c g) (kc : ∀ M' g', Lay M' → absX M' g' → absM M' g' → gI (c + 1) g' → am_V l yL_law code 4 ret room_1 774159 6779771 X (fun v _ => v = some (.int 1)) (774034 - 80 * (c + 1)) (6757417 - 2560 * (c + 1)) 18 [some (.ref 0), some (.ref 1), some (.ref 93), some (.int (nI (i + 4)))] [] M') : am_V l yL_law code 4 ret room_1 774159 6779771 X (fun v _ => v = some (.int 1)) (774034 - 80 * c) (6757417 - 2560 * c) 471 [some (.ref 0), some (.ref 1), some (.ref 93), some (.int (nI i))] [] M := by
  refine r_aload_n dL_law_471 rfl ?_
  refine r_aload_n dL_law_472 rfl ?_
  refine r_iload_n dL_law_473 rfl ?_
  refine r_iconst (nI 1) dL_law_474 (by decide) ?_
  refine r_iadd dL_law_475 ?_
  refine r_top (nI (i + 1)) (nI_add _ _) ?_
  refine r_sld (vp_in_nI (by omega) (by omega)) dL_law_476 ?_
  refine r_aload_n dL_law_477 rfl ?_
  refine r_iload_n dL_law_478 rfl ?_
  refine r_iconst (nI 2) dL_law_479 (by decide) ?_
  refine r_iadd dL_law_480 ?_
  refine r_top (nI (i + 2)) (nI_add _ _) ?_
  refine r_sld (vp_in_nI (by omega) (by omega)) dL_law_481 ?_
  refine r_callV ca_yX8_resend ml_L_67 im_yX8_resend se_yX8_resend (by decide) rfl (lay_ok hL rfl) (k_X8_resend hL hA hI ) ⟨by decide, by decide⟩ (by first | decide | omega) (by first | decide | omega) rfl (Nat.le_of_ble_eq_true rfl) dL_law_482 (fun v0 M1 hp1 => ?_)
  obtain ⟨rfl, hA1, hL1, hg1⟩ := hp1
  have hM1 := hM_gr hL hg1 hM
  have hL := hL1
  refine r_aload_n dL_law_485 rfl ?_
  refine r_aload_n dL_law_486 rfl ?_
  refine r_iload_n dL_law_487 rfl ?_
  refine r_iconst (nI 1) dL_law_488 (by decide) ?_
  refine r_iadd dL_law_489 ?_
  refine r_top (nI (i + 1)) (nI_add _ _) ?_
  refine r_sld (vp_in_nI (by omega) (by omega)) dL_law_490 ?_
  refine r_aload_n dL_law_491 rfl ?_
  refine r_iload_n dL_law_492 rfl ?_
  refine r_iconst (nI 2) dL_law_493 (by decide) ?_
  refine r_iadd dL_law_494 ?_
  refine r_top (nI (i + 2)) (nI_add _ _) ?_
  refine r_sld (vp_in_nI (by omega) (by omega)) dL_law_495 ?_
  refine r_callV ca_yX9_resend ml_L_70 im_yX9_resend se_yX9_resend (by decide) rfl (lay_ok hL rfl) (k_X9_resend hL1 hM1 hI ) ⟨by decide, by decide⟩ (by first | decide | omega) (by first | decide | omega) rfl (Nat.le_of_ble_eq_true rfl) dL_law_496 (fun v1 M2 hp1 => ?_)
  obtain ⟨rfl, hM2, hL2, hf2⟩ := hp1
  have hA2 := absX_rS hf2 hL1 hA1
  refine r_icmp_eq 707 dL_law_499 (by decide) (fun _ => ?_) (fun hq => absurd rfl hq)
  refine r_iinc (nI (i + 4)) _ dL_law_707 (by decide) rfl (nI_add i 4) rfl ?_
  refine r_goto 18 dL_law_710 (by decide) ?_
  refine r_room (bc' := 774034 - 80 * (c + 1)) (bs' := 6757417 - 2560 * (c + 1)) (by omega) (by omega) ?_
  exact kc _ _ hL2 hA2 hM2 (i_resend hI (X.2 (nI (i + 1)).toNatClampNeg) (X.2 (nI (i + 2)).toNatClampNeg))
set_option maxHeartbeats 4000000 in
set_option maxRecDepth 100000 in
theorem law_crash {l : Launch} {X : Nat × (Nat → Int32)} {M : am_M} {g : tG} {c i : Nat} (hX : X.1 ≤ 2048) (hi : i = 4 * c) (hlen : i + 4 ≤ X.1) (hL : Lay M) (hA : absX M g) (hM : absM M g) (hI : gI c g) (kc : ∀ M' g', Lay M' → absX M' g' → absM M' g' → gI (c + 1) g' → am_V l yL_law code 4 ret room_1 774159 6779771 X (fun v _ => v = some (.int 1)) (774034 - 80 * (c + 1)) (6757417 - 2560 * (c + 1)) 18 [some (.ref 0), some (.ref 1), some (.ref 93), some (.int (nI (i + 4)))] [] M') : am_V l yL_law code 4 ret room_1 774159 6779771 X (fun v _ => v = some (.int 1)) (774034 - 80 * c) (6757417 - 2560 * c) 504 [some (.ref 0), some (.ref 1), some (.ref 93), some (.int (nI i))] [] M := by
  refine r_aload_n dL_law_504 rfl ?_
  refine r_aload_n dL_law_505 rfl ?_
  refine r_iload_n dL_law_506 rfl ?_
  refine r_iconst (nI 1) dL_law_507 (by decide) ?_
  refine r_iadd dL_law_508 ?_
  refine r_top (nI (i + 1)) (nI_add _ _) ?_
  refine r_sld (vp_in_nI (by omega) (by omega)) dL_law_509 ?_
  refine r_callV ca_yX8_crash ml_L_71 im_yX8_crash se_yX8_crash (by decide) rfl (lay_ok hL rfl) (k_X8_crash hL hA hI ) ⟨by decide, by decide⟩ (by first | decide | omega) (by first | decide | omega) rfl (Nat.le_of_ble_eq_true rfl) dL_law_510 (fun v0 M1 hp1 => ?_)
  obtain ⟨rfl, hA1, hL1, hg1⟩ := hp1
  have hM1 := hM_gr hL hg1 hM
  have hL := hL1
  refine r_aload_n dL_law_513 rfl ?_
  refine r_aload_n dL_law_514 rfl ?_
  refine r_iload_n dL_law_515 rfl ?_
  refine r_iconst (nI 1) dL_law_516 (by decide) ?_
  refine r_iadd dL_law_517 ?_
  refine r_top (nI (i + 1)) (nI_add _ _) ?_
  refine r_sld (vp_in_nI (by omega) (by omega)) dL_law_518 ?_
  refine r_callV ca_yX9_crash ml_L_74 im_yX9_crash se_yX9_crash (by decide) rfl (lay_ok hL rfl) (k_X9_crash hL1 hM1 hI ) ⟨by decide, by decide⟩ (by first | decide | omega) (by first | decide | omega) rfl (Nat.le_of_ble_eq_true rfl) dL_law_519 (fun v1 M2 hp1 => ?_)
  obtain ⟨rfl, hM2, hL2, hf2⟩ := hp1
  have hA2 := absX_rS hf2 hL1 hA1
  refine r_icmp_eq 707 dL_law_522 (by decide) (fun _ => ?_) (fun hq => absurd rfl hq)
  refine r_iinc (nI (i + 4)) _ dL_law_707 (by decide) rfl (nI_add i 4) rfl ?_
  refine r_goto 18 dL_law_710 (by decide) ?_
  refine r_room (bc' := 774034 - 80 * (c + 1)) (bs' := 6757417 - 2560 * (c + 1)) (by omega) (by omega) ?_
  exact kc _ _ hL2 hA2 hM2 (i_crash hI (X.2 (nI (i + 1)).toNatClampNeg))
set_option maxHeartbeats 4000000 in
set_option maxRecDepth 100000 in
theorem law_back {l : Launch} {X : Nat × (Nat → Int32)} {M : am_M} {g : tG} {c i : Nat} (hX : X.1 ≤ 2048) (hi : i = 4 * c) (hlen : i + 4 ≤ X.1) (hL : Lay M) (hA : absX M g) (hM : absM M g) (hI : gI c g) (kc : ∀ M' g', Lay M' → absX M' g' → absM M' g' → gI (c + 1) g' → am_V l yL_law code 4 ret room_1 774159 6779771 X (fun v _ => v = some (.int 1)) (774034 - 80 * (c + 1)) (6757417 - 2560 * (c + 1)) 18 [some (.ref 0), some (.ref 1), some (.ref 93), some (.int (nI (i + 4)))] [] M') : am_V l yL_law code 4 ret room_1 774159 6779771 X (fun v _ => v = some (.int 1)) (774034 - 80 * c) (6757417 - 2560 * c) 527 [some (.ref 0), some (.ref 1), some (.ref 93), some (.int (nI i))] [] M := by
  refine r_aload_n dL_law_527 rfl ?_
  refine r_callV ca_yX8_back ml_L_75 im_yX8_back se_yX8_back (by decide) rfl (lay_ok hL rfl) (k_X8_back hL hA hI (by omega) ) ⟨by decide, by decide⟩ (by first | decide | omega) (by first | decide | omega) rfl (Nat.le_of_ble_eq_true rfl) dL_law_528 (fun v0 M1 hp1 => ?_)
  obtain ⟨rfl, hA1, hL1, hg1⟩ := hp1
  have hM1 := hM_gr hL hg1 hM
  have hL := hL1
  refine r_aload_n dL_law_531 rfl ?_
  refine r_callV ca_yX9_back ml_L_78 im_yX9_back se_yX9_back (by decide) rfl (lay_ok hL rfl) (k_X9_back hL1 hM1 hI (by omega) ) ⟨by decide, by decide⟩ (by first | decide | omega) (by first | decide | omega) rfl (Nat.le_of_ble_eq_true rfl) dL_law_532 (fun v1 M2 hp1 => ?_)
  obtain ⟨rfl, hM2, hL2, hf2⟩ := hp1
  have hA2 := absX_rS hf2 hL1 hA1
  refine r_icmp_eq 707 dL_law_535 (by decide) (fun _ => ?_) (fun hq => absurd rfl hq)
  refine r_iinc (nI (i + 4)) _ dL_law_707 (by decide) rfl (nI_add i 4) rfl ?_
  refine r_goto 18 dL_law_710 (by decide) ?_
  refine r_room (bc' := 774034 - 80 * (c + 1)) (bs' := 6757417 - 2560 * (c + 1)) (by omega) (by omega) ?_
  exact kc _ _ hL2 hA2 hM2 (i_back hI (by omega))
set_option maxHeartbeats 4000000 in
set_option maxRecDepth 100000 in
theorem law_move {l : Launch} {X : Nat × (Nat → Int32)} {M : am_M} {g : tG} {c i : Nat} (hX : X.1 ≤ 2048) (hi : i = 4 * c) (hlen : i + 4 ≤ X.1) (hL : Lay M) (hA : absX M g) (hM : absM M g) (hI : gI c g) (kc : ∀ M' g', Lay M' → absX M' g' → absM M' g' → gI (c + 1) g' → am_V l yL_law code 4 ret room_1 774159 6779771 X (fun v _ => v = some (.int 1)) (774034 - 80 * (c + 1)) (6757417 - 2560 * (c + 1)) 18 [some (.ref 0), some (.ref 1), some (.ref 93), some (.int (nI (i + 4)))] [] M') : am_V l yL_law code 4 ret room_1 774159 6779771 X (fun v _ => v = some (.int 1)) (774034 - 80 * c) (6757417 - 2560 * c) 540 [some (.ref 0), some (.ref 1), some (.ref 93), some (.int (nI i))] [] M := by
  refine r_aload_n dL_law_540 rfl ?_
  refine r_aload_n dL_law_541 rfl ?_
  refine r_iload_n dL_law_542 rfl ?_
  refine r_iconst (nI 1) dL_law_543 (by decide) ?_
  refine r_iadd dL_law_544 ?_
  refine r_top (nI (i + 1)) (nI_add _ _) ?_
  refine r_sld (vp_in_nI (by omega) (by omega)) dL_law_545 ?_
  refine r_aload_n dL_law_546 rfl ?_
  refine r_iload_n dL_law_547 rfl ?_
  refine r_iconst (nI 2) dL_law_548 (by decide) ?_
  refine r_iadd dL_law_549 ?_
  refine r_top (nI (i + 2)) (nI_add _ _) ?_
  refine r_sld (vp_in_nI (by omega) (by omega)) dL_law_550 ?_
  refine r_callV ca_yX8_move ml_L_79 im_yX8_move se_yX8_move (by decide) rfl (lay_ok hL rfl) (k_X8_move hL hA hI (by omega) ) ⟨by decide, by decide⟩ (by first | decide | omega) (by first | decide | omega) rfl (Nat.le_of_ble_eq_true rfl) dL_law_551 (fun v0 M1 hp1 => ?_)
  obtain ⟨rfl, hA1, hL1, hg1⟩ := hp1
  have hM1 := hM_gr hL hg1 hM
  have hL := hL1
  refine r_aload_n dL_law_554 rfl ?_
  refine r_aload_n dL_law_555 rfl ?_
  refine r_iload_n dL_law_556 rfl ?_
  refine r_iconst (nI 1) dL_law_557 (by decide) ?_
  refine r_iadd dL_law_558 ?_
  refine r_top (nI (i + 1)) (nI_add _ _) ?_
  refine r_sld (vp_in_nI (by omega) (by omega)) dL_law_559 ?_
  refine r_aload_n dL_law_560 rfl ?_
  refine r_iload_n dL_law_561 rfl ?_
  refine r_iconst (nI 2) dL_law_562 (by decide) ?_
  refine r_iadd dL_law_563 ?_
  refine r_top (nI (i + 2)) (nI_add _ _) ?_
  refine r_sld (vp_in_nI (by omega) (by omega)) dL_law_564 ?_
  refine r_callV ca_yX9_move ml_L_82 im_yX9_move se_yX9_move (by decide) rfl (lay_ok hL rfl) (k_X9_move hL1 hM1 hI (by omega) ) ⟨by decide, by decide⟩ (by first | decide | omega) (by first | decide | omega) rfl (Nat.le_of_ble_eq_true rfl) dL_law_565 (fun v1 M2 hp1 => ?_)
  obtain ⟨rfl, hM2, hL2, hf2⟩ := hp1
  have hA2 := absX_rS hf2 hL1 hA1
  refine r_icmp_eq 707 dL_law_568 (by decide) (fun _ => ?_) (fun hq => absurd rfl hq)
  refine r_iinc (nI (i + 4)) _ dL_law_707 (by decide) rfl (nI_add i 4) rfl ?_
  refine r_goto 18 dL_law_710 (by decide) ?_
  refine r_room (bc' := 774034 - 80 * (c + 1)) (bs' := 6757417 - 2560 * (c + 1)) (by omega) (by omega) ?_
  exact kc _ _ hL2 hA2 hM2 (i_move hI (by omega) (X.2 (nI (i + 1)).toNatClampNeg) (X.2 (nI (i + 2)).toNatClampNeg))
set_option maxHeartbeats 4000000 in
set_option maxRecDepth 100000 in
theorem law_of {l : Launch} {X : Nat × (Nat → Int32)} {M : am_M} {g : tG} {c i : Nat} (hX : X.1 ≤ 2048) (hi : i = 4 * c) (hlen : i + 4 ≤ X.1) (hL : Lay M) (hA : absX M g) (hM : absM M g) (hI : gI c g) (kc : ∀ M' g', Lay M' → absX M' g' → absM M' g' → gI (c + 1) g' → am_V l yL_law code 4 ret room_1 774159 6779771 X (fun v _ => v = some (.int 1)) (774034 - 80 * (c + 1)) (6757417 - 2560 * (c + 1)) 18 [some (.ref 0), some (.ref 1), some (.ref 93), some (.int (nI (i + 4)))] [] M') : am_V l yL_law code 4 ret room_1 774159 6779771 X (fun v _ => v = some (.int 1)) (774034 - 80 * c) (6757417 - 2560 * c) 573 [some (.ref 0), some (.ref 1), some (.ref 93), some (.int (nI i))] [] M := by
  refine r_aload_n dL_law_573 rfl ?_
  refine r_aload_n dL_law_574 rfl ?_
  refine r_iload_n dL_law_575 rfl ?_
  refine r_iconst (nI 1) dL_law_576 (by decide) ?_
  refine r_iadd dL_law_577 ?_
  refine r_top (nI (i + 1)) (nI_add _ _) ?_
  refine r_sld (vp_in_nI (by omega) (by omega)) dL_law_578 ?_
  refine r_aload_n dL_law_579 rfl ?_
  refine r_iload_n dL_law_580 rfl ?_
  refine r_iconst (nI 2) dL_law_581 (by decide) ?_
  refine r_iadd dL_law_582 ?_
  refine r_top (nI (i + 2)) (nI_add _ _) ?_
  refine r_sld (vp_in_nI (by omega) (by omega)) dL_law_583 ?_
  refine r_cV ca_yX8_of ml_L_83 im_yX8_of se_yX8_of (by decide) rfl (lay_ok hL rfl) (k_X8_of hL hA hI) ⟨by decide, by decide⟩ (by first | decide | omega) (by first | decide | omega) rfl (Nat.le_of_ble_eq_true rfl) dL_law_584 ?_
  refine r_aload_n dL_law_587 rfl ?_
  refine r_aload_n dL_law_588 rfl ?_
  refine r_iload_n dL_law_589 rfl ?_
  refine r_iconst (nI 1) dL_law_590 (by decide) ?_
  refine r_iadd dL_law_591 ?_
  refine r_top (nI (i + 1)) (nI_add _ _) ?_
  refine r_sld (vp_in_nI (by omega) (by omega)) dL_law_592 ?_
  refine r_aload_n dL_law_593 rfl ?_
  refine r_iload_n dL_law_594 rfl ?_
  refine r_iconst (nI 2) dL_law_595 (by decide) ?_
  refine r_iadd dL_law_596 ?_
  refine r_top (nI (i + 2)) (nI_add _ _) ?_
  refine r_sld (vp_in_nI (by omega) (by omega)) dL_law_597 ?_
  refine r_cV ca_yX9_of ml_L_87 im_yX9_of se_yX9_of (by decide) rfl (lay_ok hL rfl) (k_X9_of hL hM hI) ⟨by decide, by decide⟩ (by first | decide | omega) (by first | decide | omega) rfl (Nat.le_of_ble_eq_true rfl) dL_law_598 ?_
  refine r_lcmp dL_law_601 ?_
  refine r_top (0) (lg_self _) ?_
  refine r_if_eq 707 dL_law_602 (by decide) (fun _ => ?_) (fun hq => absurd rfl hq)
  refine r_iinc (nI (i + 4)) _ dL_law_707 (by decide) rfl (nI_add i 4) rfl ?_
  refine r_goto 18 dL_law_710 (by decide) ?_
  refine r_room (bc' := 774034 - 80 * (c + 1)) (bs' := 6757417 - 2560 * (c + 1)) (by omega) (by omega) ?_
  exact kc M g hL hA hM (gI_mono hI)
set_option maxHeartbeats 4000000 in
set_option maxRecDepth 100000 in
theorem law_alone {l : Launch} {X : Nat × (Nat → Int32)} {M : am_M} {g : tG} {c i : Nat} (hX : X.1 ≤ 2048) (hi : i = 4 * c) (hlen : i + 4 ≤ X.1) (hL : Lay M) (hA : absX M g) (hM : absM M g) (hI : gI c g) (kc : ∀ M' g', Lay M' → absX M' g' → absM M' g' → gI (c + 1) g' → am_V l yL_law code 4 ret room_1 774159 6779771 X (fun v _ => v = some (.int 1)) (774034 - 80 * (c + 1)) (6757417 - 2560 * (c + 1)) 18 [some (.ref 0), some (.ref 1), some (.ref 93), some (.int (nI (i + 4)))] [] M') : am_V l yL_law code 4 ret room_1 774159 6779771 X (fun v _ => v = some (.int 1)) (774034 - 80 * c) (6757417 - 2560 * c) 607 [some (.ref 0), some (.ref 1), some (.ref 93), some (.int (nI i))] [] M := by
  refine r_aload_n dL_law_607 rfl ?_
  refine r_aload_n dL_law_608 rfl ?_
  refine r_iload_n dL_law_609 rfl ?_
  refine r_iconst (nI 1) dL_law_610 (by decide) ?_
  refine r_iadd dL_law_611 ?_
  refine r_top (nI (i + 1)) (nI_add _ _) ?_
  refine r_sld (vp_in_nI (by omega) (by omega)) dL_law_612 ?_
  refine r_aload_n dL_law_613 rfl ?_
  refine r_iload_n dL_law_614 rfl ?_
  refine r_iconst (nI 2) dL_law_615 (by decide) ?_
  refine r_iadd dL_law_616 ?_
  refine r_top (nI (i + 2)) (nI_add _ _) ?_
  refine r_sld (vp_in_nI (by omega) (by omega)) dL_law_617 ?_
  refine r_aload_n dL_law_618 rfl ?_
  refine r_iload_n dL_law_619 rfl ?_
  refine r_iconst (nI 3) dL_law_620 (by decide) ?_
  refine r_iadd dL_law_621 ?_
  refine r_top (nI (i + 3)) (nI_add _ _) ?_
  refine r_sld (vp_in_nI (by omega) (by omega)) dL_law_622 ?_
  refine r_callV ca_yX8_alone ml_L_88 im_yX8_alone se_yX8_alone (by decide) rfl (lay_ok hL rfl) (k_X8_alone hL hA hI) ⟨by decide, by decide⟩ (by first | decide | omega) (by first | decide | omega) rfl (Nat.le_of_ble_eq_true rfl) dL_law_623 (fun v0 M1 hp1 => ?_)
  obtain ⟨rfl, hA1, hL1, hg1⟩ := hp1
  have hM1 := hM_gr hL hg1 hM
  have hL := hL1
  refine r_aload_n dL_law_626 rfl ?_
  refine r_aload_n dL_law_627 rfl ?_
  refine r_iload_n dL_law_628 rfl ?_
  refine r_iconst (nI 1) dL_law_629 (by decide) ?_
  refine r_iadd dL_law_630 ?_
  refine r_top (nI (i + 1)) (nI_add _ _) ?_
  refine r_sld (vp_in_nI (by omega) (by omega)) dL_law_631 ?_
  refine r_aload_n dL_law_632 rfl ?_
  refine r_iload_n dL_law_633 rfl ?_
  refine r_iconst (nI 2) dL_law_634 (by decide) ?_
  refine r_iadd dL_law_635 ?_
  refine r_top (nI (i + 2)) (nI_add _ _) ?_
  refine r_sld (vp_in_nI (by omega) (by omega)) dL_law_636 ?_
  refine r_aload_n dL_law_637 rfl ?_
  refine r_iload_n dL_law_638 rfl ?_
  refine r_iconst (nI 3) dL_law_639 (by decide) ?_
  refine r_iadd dL_law_640 ?_
  refine r_top (nI (i + 3)) (nI_add _ _) ?_
  refine r_sld (vp_in_nI (by omega) (by omega)) dL_law_641 ?_
  refine r_callV ca_yX9_alone ml_L_91 im_yX9_alone se_yX9_alone (by decide) rfl (lay_ok hL rfl) (k_X9_alone hL1 hM1 hI) ⟨by decide, by decide⟩ (by first | decide | omega) (by first | decide | omega) rfl (Nat.le_of_ble_eq_true rfl) dL_law_642 (fun v1 M2 hp1 => ?_)
  obtain ⟨rfl, hM2, hL2, hf2⟩ := hp1
  have hA2 := absX_rS hf2 hL1 hA1
  refine r_lcmp dL_law_645 ?_
  refine r_top (0) (lg_self _) ?_
  refine r_if_eq 707 dL_law_646 (by decide) (fun _ => ?_) (fun hq => absurd rfl hq)
  refine r_iinc (nI (i + 4)) _ dL_law_707 (by decide) rfl (nI_add i 4) rfl ?_
  refine r_goto 18 dL_law_710 (by decide) ?_
  refine r_room (bc' := 774034 - 80 * (c + 1)) (bs' := 6757417 - 2560 * (c + 1)) (by omega) (by omega) ?_
  exact kc _ g hL2 hA2 hM2 (gI_mono hI)
set_option maxHeartbeats 4000000 in
set_option maxRecDepth 100000 in
theorem law_node {l : Launch} {X : Nat × (Nat → Int32)} {M : am_M} {g : tG} {c i : Nat} (hX : X.1 ≤ 2048) (hi : i = 4 * c) (hlen : i + 4 ≤ X.1) (hL : Lay M) (hA : absX M g) (hM : absM M g) (hI : gI c g) (kc : ∀ M' g', Lay M' → absX M' g' → absM M' g' → gI (c + 1) g' → am_V l yL_law code 4 ret room_1 774159 6779771 X (fun v _ => v = some (.int 1)) (774034 - 80 * (c + 1)) (6757417 - 2560 * (c + 1)) 18 [some (.ref 0), some (.ref 1), some (.ref 93), some (.int (nI (i + 4)))] [] M') : am_V l yL_law code 4 ret room_1 774159 6779771 X (fun v _ => v = some (.int 1)) (774034 - 80 * c) (6757417 - 2560 * c) 651 [some (.ref 0), some (.ref 1), some (.ref 93), some (.int (nI i))] [] M := by
  refine r_aload_n dL_law_651 rfl ?_
  refine r_aload_n dL_law_652 rfl ?_
  refine r_iload_n dL_law_653 rfl ?_
  refine r_iconst (nI 1) dL_law_654 (by decide) ?_
  refine r_iadd dL_law_655 ?_
  refine r_top (nI (i + 1)) (nI_add _ _) ?_
  refine r_sld (vp_in_nI (by omega) (by omega)) dL_law_656 ?_
  refine r_aload_n dL_law_657 rfl ?_
  refine r_iload_n dL_law_658 rfl ?_
  refine r_iconst (nI 2) dL_law_659 (by decide) ?_
  refine r_iadd dL_law_660 ?_
  refine r_top (nI (i + 2)) (nI_add _ _) ?_
  refine r_sld (vp_in_nI (by omega) (by omega)) dL_law_661 ?_
  refine r_cV ca_yX8_node ml_L_92 im_yX8_node se_yX8_node (by decide) rfl (lay_ok hL rfl) (k_X8_node hL hA hI) ⟨by decide, by decide⟩ (by first | decide | omega) (by first | decide | omega) rfl (Nat.le_of_ble_eq_true rfl) dL_law_662 ?_
  refine r_aload_n dL_law_665 rfl ?_
  refine r_aload_n dL_law_666 rfl ?_
  refine r_iload_n dL_law_667 rfl ?_
  refine r_iconst (nI 1) dL_law_668 (by decide) ?_
  refine r_iadd dL_law_669 ?_
  refine r_top (nI (i + 1)) (nI_add _ _) ?_
  refine r_sld (vp_in_nI (by omega) (by omega)) dL_law_670 ?_
  refine r_aload_n dL_law_671 rfl ?_
  refine r_iload_n dL_law_672 rfl ?_
  refine r_iconst (nI 2) dL_law_673 (by decide) ?_
  refine r_iadd dL_law_674 ?_
  refine r_top (nI (i + 2)) (nI_add _ _) ?_
  refine r_sld (vp_in_nI (by omega) (by omega)) dL_law_675 ?_
  refine r_cV ca_yX9_node ml_L_95 im_yX9_node se_yX9_node (by decide) rfl (lay_ok hL rfl) (k_X9_node hL hM hI) ⟨by decide, by decide⟩ (by first | decide | omega) (by first | decide | omega) rfl (Nat.le_of_ble_eq_true rfl) dL_law_676 ?_
  refine r_icmp_eq 707 dL_law_679 (by decide) (fun _ => ?_) (fun hq => absurd rfl hq)
  refine r_iinc (nI (i + 4)) _ dL_law_707 (by decide) rfl (nI_add i 4) rfl ?_
  refine r_goto 18 dL_law_710 (by decide) ?_
  refine r_room (bc' := 774034 - 80 * (c + 1)) (bs' := 6757417 - 2560 * (c + 1)) (by omega) (by omega) ?_
  exact kc M g hL hA hM (gI_mono hI)
set_option maxHeartbeats 4000000 in
set_option maxRecDepth 100000 in
theorem law_told {l : Launch} {X : Nat × (Nat → Int32)} {M : am_M} {g : tG} {c i : Nat} (hX : X.1 ≤ 2048) (hi : i = 4 * c) (hlen : i + 4 ≤ X.1) (hL : Lay M) (hA : absX M g) (hM : absM M g) (hI : gI c g) (kc : ∀ M' g', Lay M' → absX M' g' → absM M' g' → gI (c + 1) g' → am_V l yL_law code 4 ret room_1 774159 6779771 X (fun v _ => v = some (.int 1)) (774034 - 80 * (c + 1)) (6757417 - 2560 * (c + 1)) 18 [some (.ref 0), some (.ref 1), some (.ref 93), some (.int (nI (i + 4)))] [] M') : am_V l yL_law code 4 ret room_1 774159 6779771 X (fun v _ => v = some (.int 1)) (774034 - 80 * c) (6757417 - 2560 * c) 684 [some (.ref 0), some (.ref 1), some (.ref 93), some (.int (nI i))] [] M := by
  refine r_aload_n dL_law_684 rfl ?_
  refine r_aload_n dL_law_685 rfl ?_
  refine r_iload_n dL_law_686 rfl ?_
  refine r_iconst (nI 1) dL_law_687 (by decide) ?_
  refine r_iadd dL_law_688 ?_
  refine r_top (nI (i + 1)) (nI_add _ _) ?_
  refine r_sld (vp_in_nI (by omega) (by omega)) dL_law_689 ?_
  refine r_cV ca_yX8_told ml_L_96 im_yX8_told se_yX8_told (by decide) rfl (lay_ok hL rfl) (k_X8_told hL hA hI) ⟨by decide, by decide⟩ (by first | decide | omega) (by first | decide | omega) rfl (Nat.le_of_ble_eq_true rfl) dL_law_690 ?_
  refine r_aload_n dL_law_693 rfl ?_
  refine r_aload_n dL_law_694 rfl ?_
  refine r_iload_n dL_law_695 rfl ?_
  refine r_iconst (nI 1) dL_law_696 (by decide) ?_
  refine r_iadd dL_law_697 ?_
  refine r_top (nI (i + 1)) (nI_add _ _) ?_
  refine r_sld (vp_in_nI (by omega) (by omega)) dL_law_698 ?_
  refine r_cV ca_yX9_told ml_L_99 im_yX9_told se_yX9_told (by decide) rfl (lay_ok hL rfl) (k_X9_told hL hM hI) ⟨by decide, by decide⟩ (by first | decide | omega) (by first | decide | omega) rfl (Nat.le_of_ble_eq_true rfl) dL_law_699 ?_
  refine r_icmp_eq 707 dL_law_702 (by decide) (fun _ => ?_) (fun hq => absurd rfl hq)
  refine r_iinc (nI (i + 4)) _ dL_law_707 (by decide) rfl (nI_add i 4) rfl ?_
  refine r_goto 18 dL_law_710 (by decide) ?_
  refine r_room (bc' := 774034 - 80 * (c + 1)) (bs' := 6757417 - 2560 * (c + 1)) (by omega) (by omega) ?_
  exact kc M g hL hA hM (gI_mono hI)
set_option maxHeartbeats 4000000 in
set_option maxRecDepth 100000 in
theorem law_loop {l : Launch} {X : Nat × (Nat → Int32)} (hX : X.1 ≤ 2048) : ∀ (k c i : Nat) (M : am_M) (g : tG), X.1 ≤ 4 * c + k → i = 4 * c → i ≤ X.1 → Lay M → absX M g → absM M g → gI c g → am_V l yL_law code 4 ret room_1 774159 6779771 X (fun v _ => v = some (.int 1)) (774034 - 80 * c) (6757417 - 2560 * c) 18 [some (.ref 0), some (.ref 1), some (.ref 93), some (.int (nI i))] [] M := by
  intro k
  induction k with
  | zero =>
    intro c i M g hk hi hle hL hA hM hI
    have hno : ¬ i + 4 ≤ X.1 := by omega
    by_cases h4 : X.1 < 4
    · skip
      refine r_iload_n dL_law_18 rfl ?_
      refine r_aload_n dL_law_19 rfl ?_
      refine r_slen dL_law_20 ?_
      refine r_iconst (nI 4) dL_law_21 (by decide) ?_
      refine r_isub dL_law_22 ?_
      refine r_icmp_gt 713 dL_law_23 (by decide) (fun _ => ?_) (fun hq => absurd (neg4 h4 (by omega)) hq)
      refine r_iconst (1) dL_law_713 (by decide) ?_
      exact r_iret (Or.inr ⟨rfl, Or.inr rfl⟩) dL_law_714 rfl
    · skip
      refine r_iload_n dL_law_18 rfl ?_
      refine r_aload_n dL_law_19 rfl ?_
      refine r_slen dL_law_20 ?_
      refine r_iconst (nI 4) dL_law_21 (by decide) ?_
      refine r_isub dL_law_22 ?_
      refine r_top (nI (X.1 - 4)) (nI_subN (b := 4) (by omega)) ?_
      refine r_icmp_gt 713 dL_law_23 (by decide) (fun _ => ?_) (fun hq => absurd (nI_lt (by omega) (by omega)) hq)
      refine r_iconst (1) dL_law_713 (by decide) ?_
      exact r_iret (Or.inr ⟨rfl, Or.inr rfl⟩) dL_law_714 rfl
  | succ k ih =>
    intro c i M g hk hi hle hL hA hM hI
    by_cases hlen : i + 4 ≤ X.1
    · have kc := fun M' g' h1 h2 h3 h4 => ih (c + 1) (i + 4) M' g' (by omega) (by omega) hlen h1 h2 h3 h4
      refine r_iload_n dL_law_18 rfl ?_
      refine r_aload_n dL_law_19 rfl ?_
      refine r_slen dL_law_20 ?_
      refine r_iconst (nI 4) dL_law_21 (by decide) ?_
      refine r_isub dL_law_22 ?_
      refine r_top (nI (X.1 - 4)) (nI_subN (b := 4) (by omega)) ?_
      refine r_icmp_gt 713 dL_law_23 (by decide) (fun hq => absurd hq (nI_nlt (by omega) (by omega))) (fun _ => ?_)
      refine r_aload_n dL_law_26 rfl ?_
      refine r_iload_n dL_law_27 rfl ?_
      refine r_sld (vp_in_nI (by omega) (by omega)) dL_law_28 ?_
      refine r_bipush (31) dL_law_29 (by decide) ?_
      refine r_iand dL_law_31 ?_
      generalize X.2 (nI i).toNatClampNeg &&& 31 = sw
      by_cases w0 : sw = 0
      · subst w0
        refine r_tableIn 128 dL_law_32 (by decide) (by decide) (off := 96) (by decide) (by decide) ?_
        exact law_nodes hX hi hlen hL hA hM hI kc
      by_cases w1 : sw = 1
      · subst w1
        refine r_tableIn 151 dL_law_32 (by decide) (by decide) (off := 119) (by decide) (by decide) ?_
        exact law_vertex hX hi hlen hL hA hM hI kc
      by_cases w2 : sw = 2
      · subst w2
        refine r_tableIn 184 dL_law_32 (by decide) (by decide) (off := 152) (by decide) (by decide) ?_
        exact law_arc hX hi hlen hL hA hM hI kc
      by_cases w3 : sw = 3
      · subst w3
        refine r_tableIn 227 dL_law_32 (by decide) (by decide) (off := 195) (by decide) (by decide) ?_
        exact law_kind hX hi hlen hL hA hM hI kc
      by_cases w4 : sw = 4
      · subst w4
        refine r_tableIn 250 dL_law_32 (by decide) (by decide) (off := 218) (by decide) (by decide) ?_
        exact law_joined hX hi hlen hL hA hM hI kc
      by_cases w5 : sw = 5
      · subst w5
        refine r_tableIn 289 dL_law_32 (by decide) (by decide) (off := 257) (by decide) (by decide) ?_
        exact law_every hX hi hlen hL hA hM hI kc
      by_cases w6 : sw = 6
      · subst w6
        refine r_tableIn 312 dL_law_32 (by decide) (by decide) (off := 280) (by decide) (by decide) ?_
        exact law_start hX hi hlen hL hA hM hI kc
      by_cases w7 : sw = 7
      · subst w7
        refine r_tableIn 325 dL_law_32 (by decide) (by decide) (off := 293) (by decide) (by decide) ?_
        exact law_letter hX hi hlen hL hA hM hI kc
      by_cases w8 : sw = 8
      · subst w8
        refine r_tableIn 358 dL_law_32 (by decide) (by decide) (off := 326) (by decide) (by decide) ?_
        exact law_entry hX hi hlen hL hA hM hI kc
      by_cases w9 : sw = 9
      · subst w9
        refine r_tableIn 402 dL_law_32 (by decide) (by decide) (off := 370) (by decide) (by decide) ?_
        exact law_deliver hX hi hlen hL hA hM hI kc
      by_cases w10 : sw = 10
      · subst w10
        refine r_tableIn 425 dL_law_32 (by decide) (by decide) (off := 393) (by decide) (by decide) ?_
        exact law_lose hX hi hlen hL hA hM hI kc
      by_cases w11 : sw = 11
      · subst w11
        refine r_tableIn 448 dL_law_32 (by decide) (by decide) (off := 416) (by decide) (by decide) ?_
        exact law_copy hX hi hlen hL hA hM hI kc
      by_cases w12 : sw = 12
      · subst w12
        refine r_tableIn 471 dL_law_32 (by decide) (by decide) (off := 439) (by decide) (by decide) ?_
        exact law_resend hX hi hlen hL hA hM hI kc
      by_cases w13 : sw = 13
      · subst w13
        refine r_tableIn 504 dL_law_32 (by decide) (by decide) (off := 472) (by decide) (by decide) ?_
        exact law_crash hX hi hlen hL hA hM hI kc
      by_cases w14 : sw = 14
      · subst w14
        refine r_tableIn 527 dL_law_32 (by decide) (by decide) (off := 495) (by decide) (by decide) ?_
        exact law_back hX hi hlen hL hA hM hI kc
      by_cases w15 : sw = 15
      · subst w15
        refine r_tableIn 540 dL_law_32 (by decide) (by decide) (off := 508) (by decide) (by decide) ?_
        exact law_move hX hi hlen hL hA hM hI kc
      by_cases w16 : sw = 16
      · subst w16
        refine r_tableIn 573 dL_law_32 (by decide) (by decide) (off := 541) (by decide) (by decide) ?_
        exact law_of hX hi hlen hL hA hM hI kc
      by_cases w17 : sw = 17
      · subst w17
        refine r_tableIn 607 dL_law_32 (by decide) (by decide) (off := 575) (by decide) (by decide) ?_
        exact law_alone hX hi hlen hL hA hM hI kc
      by_cases w18 : sw = 18
      · subst w18
        refine r_tableIn 651 dL_law_32 (by decide) (by decide) (off := 619) (by decide) (by decide) ?_
        exact law_node hX hi hlen hL hA hM hI kc
      by_cases w19 : sw = 19
      · subst w19
        refine r_tableIn 684 dL_law_32 (by decide) (by decide) (off := 652) (by decide) (by decide) ?_
        exact law_told hX hi hlen hL hA hM hI kc
      refine r_tableOut 707 dL_law_32 (by have t0 := lv_neT (a := 0) w0 rfl; have t1 := lv_neT (a := 1) w1 rfl; have t2 := lv_neT (a := 2) w2 rfl; have t3 := lv_neT (a := 3) w3 rfl; have t4 := lv_neT (a := 4) w4 rfl; have t5 := lv_neT (a := 5) w5 rfl; have t6 := lv_neT (a := 6) w6 rfl; have t7 := lv_neT (a := 7) w7 rfl; have t8 := lv_neT (a := 8) w8 rfl; have t9 := lv_neT (a := 9) w9 rfl; have t10 := lv_neT (a := 10) w10 rfl; have t11 := lv_neT (a := 11) w11 rfl; have t12 := lv_neT (a := 12) w12 rfl; have t13 := lv_neT (a := 13) w13 rfl; have t14 := lv_neT (a := 14) w14 rfl; have t15 := lv_neT (a := 15) w15 rfl; have t16 := lv_neT (a := 16) w16 rfl; have t17 := lv_neT (a := 17) w17 rfl; have t18 := lv_neT (a := 18) w18 rfl; have t19 := lv_neT (a := 19) w19 rfl; omega) (by decide) ?_
      refine r_iinc (nI (i + 4)) _ dL_law_707 (by decide) rfl (nI_add i 4) rfl ?_
      refine r_goto 18 dL_law_710 (by decide) ?_
      refine r_room (bc' := 774034 - 80 * (c + 1)) (bs' := 6757417 - 2560 * (c + 1)) (by omega) (by omega) ?_
      exact kc M g hL hA hM (gI_mono hI)
    · by_cases h4 : X.1 < 4
      · skip
        refine r_iload_n dL_law_18 rfl ?_
        refine r_aload_n dL_law_19 rfl ?_
        refine r_slen dL_law_20 ?_
        refine r_iconst (nI 4) dL_law_21 (by decide) ?_
        refine r_isub dL_law_22 ?_
        refine r_icmp_gt 713 dL_law_23 (by decide) (fun _ => ?_) (fun hq => absurd (neg4 h4 (by omega)) hq)
        refine r_iconst (1) dL_law_713 (by decide) ?_
        exact r_iret (Or.inr ⟨rfl, Or.inr rfl⟩) dL_law_714 rfl
      · skip
        refine r_iload_n dL_law_18 rfl ?_
        refine r_aload_n dL_law_19 rfl ?_
        refine r_slen dL_law_20 ?_
        refine r_iconst (nI 4) dL_law_21 (by decide) ?_
        refine r_isub dL_law_22 ?_
        refine r_top (nI (X.1 - 4)) (nI_subN (b := 4) (by omega)) ?_
        refine r_icmp_gt 713 dL_law_23 (by decide) (fun _ => ?_) (fun hq => absurd (nI_lt (by omega) (by omega)) hq)
        refine r_iconst (1) dL_law_713 (by decide) ?_
        exact r_iret (Or.inr ⟨rfl, Or.inr rfl⟩) dL_law_714 rfl
set_option maxHeartbeats 4000000 in
set_option maxRecDepth 100000 in
theorem law_V {l : Launch} {X : Nat × (Nat → Int32)} (hX : X.1 ≤ 2048) : am_V l yL_law code 4 ret room_1 774159 6779771 X (fun v _ => v = some (.int 1)) 774159 6779771 0 [some (.ref 0)] [] am_M0 := by
  refine r_nO 1 rfl kX8 cl_L_7 ins_X8 ini_X8 (by omega) (by omega) dL_law_0 ?_
  refine r_dup dL_law_3 rfl ?_
  refine r_cI ca_yX8_init ml_L_9 im_yX8_init rfl (c_X8_init (a := 1) (okN 8 0 rfl) rfl) ⟨by decide, by decide⟩ (by omega) (by omega) rfl (Nat.le_of_ble_eq_true rfl) dL_law_4 ?_
  refine r_astore_n _ dL_law_7 (by decide) rfl ?_
  have n92 : mN (w8 (wN am_M0 8 0) 1) = 92 := mN_w8 _ _
  refine r_nO 93 (by rw [n92]) kX9 cl_L_10 ins_X9 ini_X9 (by omega) (by omega) dL_law_8 ?_
  refine r_dup dL_law_11 rfl ?_
  refine r_callI ca_yX9_init ml_L_12 im_yX9_init rfl (c_X9_init (a := 93) (okN 9 0 (by rw [n92])) (by show mN (w8 (wN am_M0 8 0) 1) + 1 = 93; rw [n92]) rfl born_L born_z) ⟨by decide, by decide⟩ (by omega) (by omega) rfl (Nat.le_of_ble_eq_true rfl) dL_law_12 (fun v0 M1 hp1 => ?_)
  obtain ⟨rfl, hM, hL, hf⟩ := hp1
  have hA := absX_rS hf born_L born_X
  refine r_astore_n _ dL_law_15 (by decide) rfl ?_
  refine r_iconst (nI 0) dL_law_16 (by decide) ?_
  refine r_istore_n _ dL_law_17 (by decide) rfl ?_
  exact law_loop hX X.1 0 0 M1 (g_new 2) (by omega) (by omega) (Nat.zero_le _) hL hA hM (gI_new 2 (by decide) (by decide) 0)
theorem whole_start {p : Program} {e : Env} {s : State} {m : MethodId} {below : List Frame} {meth : Method} {c : Code} (l : Launch) {b L : Nat} {xs : Nat → Int32} (hL : L ≤ 2048) (C0 : lw_At p s m meth c b L xs) : W p l e room_1 s m #[Value.ref b] below meth c s.heap [] 0 0 (lw_Z below #[Value.ref b] s) (entryFrame m ([Value.ref b] : List Value).toArray 4) := am_top l C0 (law_V hL)
