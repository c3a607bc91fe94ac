/-! ===== the law's loop ===== -/
theorem nI_2 (a : Nat) : nI a + 2 = nI (a + 2) := nI_add a 2
theorem nI_3 (a : Nat) : nI a + 3 = nI (a + 3) := nI_add a 3
theorem nI_4 (a : Nat) : nI a + 4 = nI (a + 4) := nI_add a 4
def e00 : gE := fun _ => none

set_option maxHeartbeats 4000000 in
set_option maxRecDepth 100000 in
theorem lc_0 {l : Launch} {X : gX} {b0 : Nat} {Z : gZ} {b N : Nat} {xs : Nat → Int32} (hC : MC X Z room_1 cL_law 4 "MouldMatcherLaw" ret) (hX : va_X b N xs (zs Z) (zs Z).heap) (hbl : b < (zs Z).heap.size) (hb0 : ¬ b0 ≤ b) (hN : N ≤ 2048) {i : Nat} (hi : i + 4 ≤ N) (lo : gL) (L : Nat → Nat → Nat) (K C : rM3) (M T : rM2) (hM : Iv M) (hs : Sm L K M) (hc : Sc C M) (back : ∀ (lo : gL) (L : Nat → Nat → Nat) (K C : rM3) (M T : rM2), Iv M → Sm L K M → Sc C M → GO l X b0 Z (30 + 13 * i + 13) (1000 + 97 * i + 97) lo (enC X lo L K C (enR X lo M T e00)) 765 [(0, .ref b), (1, .ref (lo 0)), (2, .ref (lo 1000)), (3, .int (nI (i)))] []) : GO l X b0 Z (30 + 13 * i) (1000 + 97 * i) lo (enC X lo L K C (enR X lo M T e00)) 132 [(0, .ref b), (1, .ref (lo 0)), (2, .ref (lo 1000)), (3, .int (nI (i)))] [] := by
  refine g_aload_n hC dL_law_132 rfl ?_
  refine g_callV hC v_X4_clearRow km_L_13 (c_X4_clearRow l X b0 lo L K C (enR X lo M T e00) M hM hs hc ) rfl cO rfl rfl rfl rfl (Nat.le_of_ble_eq_true rfl) ⟨by decide, by decide⟩ ⟨by show 30 + 13 * i + 0 ≤ 600000; omega, by show 1000 + 97 * i + 0 ≤ 7302250; omega⟩ dL_law_133 (fun v lo1 en1 hp => ?_)
  obtain ⟨hk, h0, r, hv, hr, L1, K1, C1, hen, hs1, hc1⟩ := hp
  subst hv
  rw [hen, enR_lo hk, en_swap, ← h0, ← hk 1000 (Nat.le_refl _)]
  refine g_aload_n hC dL_law_136 rfl ?_
  refine g_callV hC v_X5_clearRow km_L_17 (c_X5_clearRow l X b0 lo1 M T (enC X lo1 L1 K1 C1 e00) ) rfl rO rfl rfl rfl rfl (Nat.le_of_ble_eq_true rfl) ⟨by decide, by decide⟩ ⟨by show 30 + 13 * i + 0 + 0 ≤ 600000; omega, by show 1000 + 97 * i + 0 + 0 ≤ 7302250; omega⟩ dL_law_137 (fun v2 lo2 en2 hp2 => ?_)
  obtain ⟨hl2, r2, hv2, hr2, T2, he2⟩ := hp2
  subst hv2
  rw [he2, hl2, ← en_swap]
  refine g_icmp_eq (tgt := 765) hC dL_law_140 (by decide) (fun _ => ?_) (fun z => absurd (hr.trans hr2.symm) z)
  exact g_widen (k := 30 + 13 * i + 13) (n := 1000 + 97 * i + 97) (by show 30 + 13 * i + 0 + 0 ≤ _; omega) (by show 1000 + 97 * i + 0 + 0 ≤ _; omega) (back lo1 L1 K1 C1 _ T2 (Iv_clearRow hM) hs1 hc1)
set_option maxHeartbeats 4000000 in
set_option maxRecDepth 100000 in
theorem lc_1 {l : Launch} {X : gX} {b0 : Nat} {Z : gZ} {b N : Nat} {xs : Nat → Int32} (hC : MC X Z room_1 cL_law 4 "MouldMatcherLaw" ret) (hX : va_X b N xs (zs Z) (zs Z).heap) (hbl : b < (zs Z).heap.size) (hb0 : ¬ b0 ≤ b) (hN : N ≤ 2048) {i : Nat} (hi : i + 4 ≤ N) (lo : gL) (L : Nat → Nat → Nat) (K C : rM3) (M T : rM2) (hM : Iv M) (hs : Sm L K M) (hc : Sc C M) (back : ∀ (lo : gL) (L : Nat → Nat → Nat) (K C : rM3) (M T : rM2), Iv M → Sm L K M → Sc C M → GO l X b0 Z (30 + 13 * i + 13) (1000 + 97 * i + 97) lo (enC X lo L K C (enR X lo M T e00)) 765 [(0, .ref b), (1, .ref (lo 0)), (2, .ref (lo 1000)), (3, .int (nI (i)))] []) : GO l X b0 Z (30 + 13 * i) (1000 + 97 * i) lo (enC X lo L K C (enR X lo M T e00)) 145 [(0, .ref b), (1, .ref (lo 0)), (2, .ref (lo 1000)), (3, .int (nI (i)))] [] := by
  refine g_aload_n hC dL_law_145 rfl ?_
  refine g_aload_n hC dL_law_146 rfl ?_
  refine g_iload_n hC dL_law_147 rfl ?_
  refine g_iconst (v := 1) hC dL_law_148 (by decide) ?_
  refine g_iadd hC dL_law_149 ?_
  refine g_sld hC hX hbl hb0 (i + 1) (nI_1 i) (by omega) (by omega) dL_law_150 ?_
  refine g_callV hC v_X4_addToRow km_L_18 (c_X4_addToRow l X b0 lo L K C (enR X lo M T e00) M hM hs hc (xs (i + 1))) rfl cO rfl rfl rfl rfl (Nat.le_of_ble_eq_true rfl) ⟨by decide, by decide⟩ ⟨by show 30 + 13 * i + 0 ≤ 600000; omega, by show 1000 + 97 * i + 0 ≤ 7302250; omega⟩ dL_law_151 (fun v lo1 en1 hp => ?_)
  obtain ⟨hk, h0, r, hv, hr, L1, K1, C1, hen, hs1, hc1⟩ := hp
  subst hv
  rw [hen, enR_lo hk, en_swap, ← h0, ← hk 1000 (Nat.le_refl _)]
  refine g_aload_n hC dL_law_154 rfl ?_
  refine g_aload_n hC dL_law_155 rfl ?_
  refine g_iload_n hC dL_law_156 rfl ?_
  refine g_iconst (v := 1) hC dL_law_157 (by decide) ?_
  refine g_iadd hC dL_law_158 ?_
  refine g_sld hC hX hbl hb0 (i + 1) (nI_1 i) (by omega) (by omega) dL_law_159 ?_
  refine g_callV hC v_X5_addToRow km_L_22 (c_X5_addToRow l X b0 lo1 M T (enC X lo1 L1 K1 C1 e00) hM (xs (i + 1))) rfl rO rfl rfl rfl rfl (Nat.le_of_ble_eq_true rfl) ⟨by decide, by decide⟩ ⟨by show 30 + 13 * i + 0 + 0 ≤ 600000; omega, by show 1000 + 97 * i + 0 + 0 ≤ 7302250; omega⟩ dL_law_160 (fun v2 lo2 en2 hp2 => ?_)
  obtain ⟨hl2, r2, hv2, hr2, T2, he2⟩ := hp2
  subst hv2
  rw [he2, hl2, ← en_swap]
  refine g_icmp_eq (tgt := 765) hC dL_law_163 (by decide) (fun _ => ?_) (fun z => absurd (hr.trans hr2.symm) z)
  exact g_widen (k := 30 + 13 * i + 13) (n := 1000 + 97 * i + 97) (by show 30 + 13 * i + 0 + 0 ≤ _; omega) (by show 1000 + 97 * i + 0 + 0 ≤ _; omega) (back lo1 L1 K1 C1 _ T2 (Iv_addToRow hM) hs1 hc1)
set_option maxHeartbeats 4000000 in
set_option maxRecDepth 100000 in
theorem lc_2 {l : Launch} {X : gX} {b0 : Nat} {Z : gZ} {b N : Nat} {xs : Nat → Int32} (hC : MC X Z room_1 cL_law 4 "MouldMatcherLaw" ret) (hX : va_X b N xs (zs Z) (zs Z).heap) (hbl : b < (zs Z).heap.size) (hb0 : ¬ b0 ≤ b) (hN : N ≤ 2048) {i : Nat} (hi : i + 4 ≤ N) (lo : gL) (L : Nat → Nat → Nat) (K C : rM3) (M T : rM2) (hM : Iv M) (hs : Sm L K M) (hc : Sc C M) (back : ∀ (lo : gL) (L : Nat → Nat → Nat) (K C : rM3) (M T : rM2), Iv M → Sm L K M → Sc C M → GO l X b0 Z (30 + 13 * i + 13) (1000 + 97 * i + 97) lo (enC X lo L K C (enR X lo M T e00)) 765 [(0, .ref b), (1, .ref (lo 0)), (2, .ref (lo 1000)), (3, .int (nI (i)))] []) : GO l X b0 Z (30 + 13 * i) (1000 + 97 * i) lo (enC X lo L K C (enR X lo M T e00)) 168 [(0, .ref b), (1, .ref (lo 0)), (2, .ref (lo 1000)), (3, .int (nI (i)))] [] := by
  refine g_aload_n hC dL_law_168 rfl ?_
  refine g_aload_n hC dL_law_169 rfl ?_
  refine g_iload_n hC dL_law_170 rfl ?_
  refine g_iconst (v := 1) hC dL_law_171 (by decide) ?_
  refine g_iadd hC dL_law_172 ?_
  refine g_sld hC hX hbl hb0 (i + 1) (nI_1 i) (by omega) (by omega) dL_law_173 ?_
  refine g_aload_n hC dL_law_174 rfl ?_
  refine g_iload_n hC dL_law_175 rfl ?_
  refine g_iconst (v := 2) hC dL_law_176 (by decide) ?_
  refine g_iadd hC dL_law_177 ?_
  refine g_sld hC hX hbl hb0 (i + 2) (nI_2 i) (by omega) (by omega) dL_law_178 ?_
  refine g_callV hC v_X4_setTolerances km_L_23 (c_X4_setTolerances l X b0 lo L K C (enR X lo M T e00) M hM hs hc (xs (i + 1)) (xs (i + 2))) rfl cO rfl rfl rfl rfl (Nat.le_of_ble_eq_true rfl) ⟨by decide, by decide⟩ ⟨by show 30 + 13 * i + 0 ≤ 600000; omega, by show 1000 + 97 * i + 0 ≤ 7302250; omega⟩ dL_law_179 (fun v lo1 en1 hp => ?_)
  obtain ⟨hk, h0, r, hv, hr, L1, K1, C1, hen, hs1, hc1⟩ := hp
  subst hv
  rw [hen, enR_lo hk, en_swap, ← h0, ← hk 1000 (Nat.le_refl _)]
  refine g_aload_n hC dL_law_182 rfl ?_
  refine g_aload_n hC dL_law_183 rfl ?_
  refine g_iload_n hC dL_law_184 rfl ?_
  refine g_iconst (v := 1) hC dL_law_185 (by decide) ?_
  refine g_iadd hC dL_law_186 ?_
  refine g_sld hC hX hbl hb0 (i + 1) (nI_1 i) (by omega) (by omega) dL_law_187 ?_
  refine g_aload_n hC dL_law_188 rfl ?_
  refine g_iload_n hC dL_law_189 rfl ?_
  refine g_iconst (v := 2) hC dL_law_190 (by decide) ?_
  refine g_iadd hC dL_law_191 ?_
  refine g_sld hC hX hbl hb0 (i + 2) (nI_2 i) (by omega) (by omega) dL_law_192 ?_
  refine g_callV hC v_X5_setTolerances km_L_27 (c_X5_setTolerances l X b0 lo1 M T (enC X lo1 L1 K1 C1 e00) (xs (i + 1)) (xs (i + 2))) rfl rO rfl rfl rfl rfl (Nat.le_of_ble_eq_true rfl) ⟨by decide, by decide⟩ ⟨by show 30 + 13 * i + 0 + 0 ≤ 600000; omega, by show 1000 + 97 * i + 0 + 0 ≤ 7302250; omega⟩ dL_law_193 (fun v2 lo2 en2 hp2 => ?_)
  obtain ⟨hl2, r2, hv2, hr2, T2, he2⟩ := hp2
  subst hv2
  rw [he2, hl2, ← en_swap]
  refine g_icmp_eq (tgt := 765) hC dL_law_196 (by decide) (fun _ => ?_) (fun z => absurd (hr.trans hr2.symm) z)
  exact g_widen (k := 30 + 13 * i + 13) (n := 1000 + 97 * i + 97) (by show 30 + 13 * i + 0 + 0 ≤ _; omega) (by show 1000 + 97 * i + 0 + 0 ≤ _; omega) (back lo1 L1 K1 C1 _ T2 (Iv_setTolerances hM) hs1 hc1)
set_option maxHeartbeats 4000000 in
set_option maxRecDepth 100000 in
theorem lc_3 {l : Launch} {X : gX} {b0 : Nat} {Z : gZ} {b N : Nat} {xs : Nat → Int32} (hC : MC X Z room_1 cL_law 4 "MouldMatcherLaw" ret) (hX : va_X b N xs (zs Z) (zs Z).heap) (hbl : b < (zs Z).heap.size) (hb0 : ¬ b0 ≤ b) (hN : N ≤ 2048) {i : Nat} (hi : i + 4 ≤ N) (lo : gL) (L : Nat → Nat → Nat) (K C : rM3) (M T : rM2) (hM : Iv M) (hs : Sm L K M) (hc : Sc C M) (back : ∀ (lo : gL) (L : Nat → Nat → Nat) (K C : rM3) (M T : rM2), Iv M → Sm L K M → Sc C M → GO l X b0 Z (30 + 13 * i + 13) (1000 + 97 * i + 97) lo (enC X lo L K C (enR X lo M T e00)) 765 [(0, .ref b), (1, .ref (lo 0)), (2, .ref (lo 1000)), (3, .int (nI (i)))] []) : GO l X b0 Z (30 + 13 * i) (1000 + 97 * i) lo (enC X lo L K C (enR X lo M T e00)) 201 [(0, .ref b), (1, .ref (lo 0)), (2, .ref (lo 1000)), (3, .int (nI (i)))] [] := by
  refine g_aload_n hC dL_law_201 rfl ?_
  refine g_aload_n hC dL_law_202 rfl ?_
  refine g_iload_n hC dL_law_203 rfl ?_
  refine g_iconst (v := 1) hC dL_law_204 (by decide) ?_
  refine g_iadd hC dL_law_205 ?_
  refine g_sld hC hX hbl hb0 (i + 1) (nI_1 i) (by omega) (by omega) dL_law_206 ?_
  refine g_aload_n hC dL_law_207 rfl ?_
  refine g_iload_n hC dL_law_208 rfl ?_
  refine g_iconst (v := 2) hC dL_law_209 (by decide) ?_
  refine g_iadd hC dL_law_210 ?_
  refine g_sld hC hX hbl hb0 (i + 2) (nI_2 i) (by omega) (by omega) dL_law_211 ?_
  refine g_aload_n hC dL_law_212 rfl ?_
  refine g_iload_n hC dL_law_213 rfl ?_
  refine g_iconst (v := 3) hC dL_law_214 (by decide) ?_
  refine g_iadd hC dL_law_215 ?_
  refine g_sld hC hX hbl hb0 (i + 3) (nI_3 i) (by omega) (by omega) dL_law_216 ?_
  refine g_callV hC v_X4_addMould km_L_28 (c_X4_addMould l X b0 lo L K C (enR X lo M T e00) M hM hs hc (xs (i + 1)) (xs (i + 2)) (xs (i + 3))) rfl cO rfl rfl rfl rfl (Nat.le_of_ble_eq_true rfl) ⟨by decide, by decide⟩ ⟨by show 30 + 13 * i + 4 ≤ 600000; omega, by show 1000 + 97 * i + 28 ≤ 7302250; omega⟩ dL_law_217 (fun v lo1 en1 hp => ?_)
  obtain ⟨hk, h0, r, hv, hr, L1, K1, C1, hen, hs1, hc1⟩ := hp
  subst hv
  rw [hen, enR_lo hk, en_swap, ← h0, ← hk 1000 (Nat.le_refl _)]
  refine g_aload_n hC dL_law_220 rfl ?_
  refine g_aload_n hC dL_law_221 rfl ?_
  refine g_iload_n hC dL_law_222 rfl ?_
  refine g_iconst (v := 1) hC dL_law_223 (by decide) ?_
  refine g_iadd hC dL_law_224 ?_
  refine g_sld hC hX hbl hb0 (i + 1) (nI_1 i) (by omega) (by omega) dL_law_225 ?_
  refine g_aload_n hC dL_law_226 rfl ?_
  refine g_iload_n hC dL_law_227 rfl ?_
  refine g_iconst (v := 2) hC dL_law_228 (by decide) ?_
  refine g_iadd hC dL_law_229 ?_
  refine g_sld hC hX hbl hb0 (i + 2) (nI_2 i) (by omega) (by omega) dL_law_230 ?_
  refine g_aload_n hC dL_law_231 rfl ?_
  refine g_iload_n hC dL_law_232 rfl ?_
  refine g_iconst (v := 3) hC dL_law_233 (by decide) ?_
  refine g_iadd hC dL_law_234 ?_
  refine g_sld hC hX hbl hb0 (i + 3) (nI_3 i) (by omega) (by omega) dL_law_235 ?_
  refine g_callV hC v_X5_addMould km_L_32 (c_X5_addMould l X b0 lo1 M T (enC X lo1 L1 K1 C1 e00) hM (xs (i + 1)) (xs (i + 2)) (xs (i + 3))) rfl rO rfl rfl rfl rfl (Nat.le_of_ble_eq_true rfl) ⟨by decide, by decide⟩ ⟨by show 30 + 13 * i + 4 + 0 ≤ 600000; omega, by show 1000 + 97 * i + 28 + 0 ≤ 7302250; omega⟩ dL_law_236 (fun v2 lo2 en2 hp2 => ?_)
  obtain ⟨hl2, r2, hv2, hr2, T2, he2⟩ := hp2
  subst hv2
  rw [he2, hl2, ← en_swap]
  refine g_icmp_eq (tgt := 765) hC dL_law_239 (by decide) (fun _ => ?_) (fun z => absurd (hr.trans hr2.symm) z)
  exact g_widen (k := 30 + 13 * i + 13) (n := 1000 + 97 * i + 97) (by show 30 + 13 * i + 4 + 0 ≤ _; omega) (by show 1000 + 97 * i + 28 + 0 ≤ _; omega) (back lo1 L1 K1 C1 _ T2 (Iv_addMould hM) hs1 hc1)
set_option maxHeartbeats 4000000 in
set_option maxRecDepth 100000 in
theorem lc_4 {l : Launch} {X : gX} {b0 : Nat} {Z : gZ} {b N : Nat} {xs : Nat → Int32} (hC : MC X Z room_1 cL_law 4 "MouldMatcherLaw" ret) (hX : va_X b N xs (zs Z) (zs Z).heap) (hbl : b < (zs Z).heap.size) (hb0 : ¬ b0 ≤ b) (hN : N ≤ 2048) {i : Nat} (hi : i + 4 ≤ N) (lo : gL) (L : Nat → Nat → Nat) (K C : rM3) (M T : rM2) (hM : Iv M) (hs : Sm L K M) (hc : Sc C M) (back : ∀ (lo : gL) (L : Nat → Nat → Nat) (K C : rM3) (M T : rM2), Iv M → Sm L K M → Sc C M → GO l X b0 Z (30 + 13 * i + 13) (1000 + 97 * i + 97) lo (enC X lo L K C (enR X lo M T e00)) 765 [(0, .ref b), (1, .ref (lo 0)), (2, .ref (lo 1000)), (3, .int (nI (i)))] []) : GO l X b0 Z (30 + 13 * i) (1000 + 97 * i) lo (enC X lo L K C (enR X lo M T e00)) 244 [(0, .ref b), (1, .ref (lo 0)), (2, .ref (lo 1000)), (3, .int (nI (i)))] [] := by
  refine g_aload_n hC dL_law_244 rfl ?_
  refine g_aload_n hC dL_law_245 rfl ?_
  refine g_iload_n hC dL_law_246 rfl ?_
  refine g_iconst (v := 1) hC dL_law_247 (by decide) ?_
  refine g_iadd hC dL_law_248 ?_
  refine g_sld hC hX hbl hb0 (i + 1) (nI_1 i) (by omega) (by omega) dL_law_249 ?_
  refine g_aload_n hC dL_law_250 rfl ?_
  refine g_iload_n hC dL_law_251 rfl ?_
  refine g_iconst (v := 2) hC dL_law_252 (by decide) ?_
  refine g_iadd hC dL_law_253 ?_
  refine g_sld hC hX hbl hb0 (i + 2) (nI_2 i) (by omega) (by omega) dL_law_254 ?_
  refine g_aload_n hC dL_law_255 rfl ?_
  refine g_iload_n hC dL_law_256 rfl ?_
  refine g_iconst (v := 3) hC dL_law_257 (by decide) ?_
  refine g_iadd hC dL_law_258 ?_
  refine g_sld hC hX hbl hb0 (i + 3) (nI_3 i) (by omega) (by omega) dL_law_259 ?_
  refine g_callV hC v_X4_addState km_L_33 (c_X4_addState l X b0 lo L K C (enR X lo M T e00) M hM hs hc (xs (i + 1)) (xs (i + 2)) (xs (i + 3))) rfl cO rfl rfl rfl rfl (Nat.le_of_ble_eq_true rfl) ⟨by decide, by decide⟩ ⟨by show 30 + 13 * i + 0 ≤ 600000; omega, by show 1000 + 97 * i + 0 ≤ 7302250; omega⟩ dL_law_260 (fun v lo1 en1 hp => ?_)
  obtain ⟨hk, h0, r, hv, hr, L1, K1, C1, hen, hs1, hc1⟩ := hp
  subst hv
  rw [hen, enR_lo hk, en_swap, ← h0, ← hk 1000 (Nat.le_refl _)]
  refine g_aload_n hC dL_law_263 rfl ?_
  refine g_aload_n hC dL_law_264 rfl ?_
  refine g_iload_n hC dL_law_265 rfl ?_
  refine g_iconst (v := 1) hC dL_law_266 (by decide) ?_
  refine g_iadd hC dL_law_267 ?_
  refine g_sld hC hX hbl hb0 (i + 1) (nI_1 i) (by omega) (by omega) dL_law_268 ?_
  refine g_aload_n hC dL_law_269 rfl ?_
  refine g_iload_n hC dL_law_270 rfl ?_
  refine g_iconst (v := 2) hC dL_law_271 (by decide) ?_
  refine g_iadd hC dL_law_272 ?_
  refine g_sld hC hX hbl hb0 (i + 2) (nI_2 i) (by omega) (by omega) dL_law_273 ?_
  refine g_aload_n hC dL_law_274 rfl ?_
  refine g_iload_n hC dL_law_275 rfl ?_
  refine g_iconst (v := 3) hC dL_law_276 (by decide) ?_
  refine g_iadd hC dL_law_277 ?_
  refine g_sld hC hX hbl hb0 (i + 3) (nI_3 i) (by omega) (by omega) dL_law_278 ?_
  refine g_callV hC v_X5_addState km_L_36 (c_X5_addState l X b0 lo1 M T (enC X lo1 L1 K1 C1 e00) hM (xs (i + 1)) (xs (i + 2)) (xs (i + 3))) rfl rO rfl rfl rfl rfl (Nat.le_of_ble_eq_true rfl) ⟨by decide, by decide⟩ ⟨by show 30 + 13 * i + 0 + 0 ≤ 600000; omega, by show 1000 + 97 * i + 0 + 0 ≤ 7302250; omega⟩ dL_law_279 (fun v2 lo2 en2 hp2 => ?_)
  obtain ⟨hl2, r2, hv2, hr2, T2, he2⟩ := hp2
  subst hv2
  rw [he2, hl2, ← en_swap]
  refine g_icmp_eq (tgt := 765) hC dL_law_282 (by decide) (fun _ => ?_) (fun z => absurd (hr.trans hr2.symm) z)
  exact g_widen (k := 30 + 13 * i + 13) (n := 1000 + 97 * i + 97) (by show 30 + 13 * i + 0 + 0 ≤ _; omega) (by show 1000 + 97 * i + 0 + 0 ≤ _; omega) (back lo1 L1 K1 C1 _ T2 (Iv_addState hM) hs1 hc1)
set_option maxHeartbeats 4000000 in
set_option maxRecDepth 100000 in
theorem lc_5 {l : Launch} {X : gX} {b0 : Nat} {Z : gZ} {b N : Nat} {xs : Nat → Int32} (hC : MC X Z room_1 cL_law 4 "MouldMatcherLaw" ret) (hX : va_X b N xs (zs Z) (zs Z).heap) (hbl : b < (zs Z).heap.size) (hb0 : ¬ b0 ≤ b) (hN : N ≤ 2048) {i : Nat} (hi : i + 4 ≤ N) (lo : gL) (L : Nat → Nat → Nat) (K C : rM3) (M T : rM2) (hM : Iv M) (hs : Sm L K M) (hc : Sc C M) (back : ∀ (lo : gL) (L : Nat → Nat → Nat) (K C : rM3) (M T : rM2), Iv M → Sm L K M → Sc C M → GO l X b0 Z (30 + 13 * i + 13) (1000 + 97 * i + 97) lo (enC X lo L K C (enR X lo M T e00)) 765 [(0, .ref b), (1, .ref (lo 0)), (2, .ref (lo 1000)), (3, .int (nI (i)))] []) : GO l X b0 Z (30 + 13 * i) (1000 + 97 * i) lo (enC X lo L K C (enR X lo M T e00)) 287 [(0, .ref b), (1, .ref (lo 0)), (2, .ref (lo 1000)), (3, .int (nI (i)))] [] := by
  refine g_aload_n hC dL_law_287 rfl ?_
  refine g_aload_n hC dL_law_288 rfl ?_
  refine g_iload_n hC dL_law_289 rfl ?_
  refine g_iconst (v := 1) hC dL_law_290 (by decide) ?_
  refine g_iadd hC dL_law_291 ?_
  refine g_sld hC hX hbl hb0 (i + 1) (nI_1 i) (by omega) (by omega) dL_law_292 ?_
  refine g_callV hC v_X4_removeState km_L_37 (c_X4_removeState l X b0 lo L K C (enR X lo M T e00) M hM hs hc (xs (i + 1))) rfl cO rfl rfl rfl rfl (Nat.le_of_ble_eq_true rfl) ⟨by decide, by decide⟩ ⟨by show 30 + 13 * i + 0 ≤ 600000; omega, by show 1000 + 97 * i + 0 ≤ 7302250; omega⟩ dL_law_293 (fun v lo1 en1 hp => ?_)
  obtain ⟨hk, h0, r, hv, hr, L1, K1, C1, hen, hs1, hc1⟩ := hp
  subst hv
  rw [hen, enR_lo hk, en_swap, ← h0, ← hk 1000 (Nat.le_refl _)]
  refine g_aload_n hC dL_law_296 rfl ?_
  refine g_aload_n hC dL_law_297 rfl ?_
  refine g_iload_n hC dL_law_298 rfl ?_
  refine g_iconst (v := 1) hC dL_law_299 (by decide) ?_
  refine g_iadd hC dL_law_300 ?_
  refine g_sld hC hX hbl hb0 (i + 1) (nI_1 i) (by omega) (by omega) dL_law_301 ?_
  refine g_callV hC v_X5_removeState km_L_40 (c_X5_removeState l X b0 lo1 M T (enC X lo1 L1 K1 C1 e00) hM (xs (i + 1))) rfl rO rfl rfl rfl rfl (Nat.le_of_ble_eq_true rfl) ⟨by decide, by decide⟩ ⟨by show 30 + 13 * i + 0 + 0 ≤ 600000; omega, by show 1000 + 97 * i + 0 + 0 ≤ 7302250; omega⟩ dL_law_302 (fun v2 lo2 en2 hp2 => ?_)
  obtain ⟨hl2, r2, hv2, hr2, T2, he2⟩ := hp2
  subst hv2
  rw [he2, hl2, ← en_swap]
  refine g_icmp_eq (tgt := 765) hC dL_law_305 (by decide) (fun _ => ?_) (fun z => absurd (hr.trans hr2.symm) z)
  exact g_widen (k := 30 + 13 * i + 13) (n := 1000 + 97 * i + 97) (by show 30 + 13 * i + 0 + 0 ≤ _; omega) (by show 1000 + 97 * i + 0 + 0 ≤ _; omega) (back lo1 L1 K1 C1 _ T2 (Iv_removeState hM) hs1 hc1)
set_option maxHeartbeats 4000000 in
set_option maxRecDepth 100000 in
theorem lc_6 {l : Launch} {X : gX} {b0 : Nat} {Z : gZ} {b N : Nat} {xs : Nat → Int32} (hC : MC X Z room_1 cL_law 4 "MouldMatcherLaw" ret) (hX : va_X b N xs (zs Z) (zs Z).heap) (hbl : b < (zs Z).heap.size) (hb0 : ¬ b0 ≤ b) (hN : N ≤ 2048) {i : Nat} (hi : i + 4 ≤ N) (lo : gL) (L : Nat → Nat → Nat) (K C : rM3) (M T : rM2) (hM : Iv M) (hs : Sm L K M) (hc : Sc C M) (back : ∀ (lo : gL) (L : Nat → Nat → Nat) (K C : rM3) (M T : rM2), Iv M → Sm L K M → Sc C M → GO l X b0 Z (30 + 13 * i + 13) (1000 + 97 * i + 97) lo (enC X lo L K C (enR X lo M T e00)) 765 [(0, .ref b), (1, .ref (lo 0)), (2, .ref (lo 1000)), (3, .int (nI (i)))] []) : GO l X b0 Z (30 + 13 * i) (1000 + 97 * i) lo (enC X lo L K C (enR X lo M T e00)) 310 [(0, .ref b), (1, .ref (lo 0)), (2, .ref (lo 1000)), (3, .int (nI (i)))] [] := by
  refine g_aload_n hC dL_law_310 rfl ?_
  refine g_aload_n hC dL_law_311 rfl ?_
  refine g_iload_n hC dL_law_312 rfl ?_
  refine g_iconst (v := 1) hC dL_law_313 (by decide) ?_
  refine g_iadd hC dL_law_314 ?_
  refine g_sld hC hX hbl hb0 (i + 1) (nI_1 i) (by omega) (by omega) dL_law_315 ?_
  refine g_callV hC v_X4_stateCount km_L_41 (c_X4_stateCount l X b0 lo L K C (enR X lo M T e00) M hM hs hc (xs (i + 1))) rfl cO rfl rfl rfl rfl (Nat.le_of_ble_eq_true rfl) ⟨by decide, by decide⟩ ⟨by show 30 + 13 * i + 0 ≤ 600000; omega, by show 1000 + 97 * i + 0 ≤ 7302250; omega⟩ dL_law_316 (fun v lo1 en1 hp => ?_)
  obtain ⟨hk, h0, r, hv, hr, L1, K1, C1, hen, hs1, hc1⟩ := hp
  subst hv
  rw [hen, enR_lo hk, en_swap, ← h0, ← hk 1000 (Nat.le_refl _)]
  refine g_aload_n hC dL_law_319 rfl ?_
  refine g_aload_n hC dL_law_320 rfl ?_
  refine g_iload_n hC dL_law_321 rfl ?_
  refine g_iconst (v := 1) hC dL_law_322 (by decide) ?_
  refine g_iadd hC dL_law_323 ?_
  refine g_sld hC hX hbl hb0 (i + 1) (nI_1 i) (by omega) (by omega) dL_law_324 ?_
  refine g_callV hC v_X5_stateCount km_L_44 (c_X5_stateCount l X b0 lo1 M T (enC X lo1 L1 K1 C1 e00) hM (xs (i + 1))) rfl rO rfl rfl rfl rfl (Nat.le_of_ble_eq_true rfl) ⟨by decide, by decide⟩ ⟨by show 30 + 13 * i + 0 + 0 ≤ 600000; omega, by show 1000 + 97 * i + 0 + 0 ≤ 7302250; omega⟩ dL_law_325 (fun v2 lo2 en2 hp2 => ?_)
  obtain ⟨hl2, r2, hv2, hr2, T2, he2⟩ := hp2
  subst hv2
  rw [he2, hl2, ← en_swap]
  refine g_icmp_eq (tgt := 765) hC dL_law_328 (by decide) (fun _ => ?_) (fun z => absurd (hr.trans hr2.symm) z)
  exact g_widen (k := 30 + 13 * i + 13) (n := 1000 + 97 * i + 97) (by show 30 + 13 * i + 0 + 0 ≤ _; omega) (by show 1000 + 97 * i + 0 + 0 ≤ _; omega) (back lo1 L1 K1 C1 _ T2 (Iv_stateCount hM) hs1 hc1)
set_option maxHeartbeats 4000000 in
set_option maxRecDepth 100000 in
theorem lc_7 {l : Launch} {X : gX} {b0 : Nat} {Z : gZ} {b N : Nat} {xs : Nat → Int32} (hC : MC X Z room_1 cL_law 4 "MouldMatcherLaw" ret) (hX : va_X b N xs (zs Z) (zs Z).heap) (hbl : b < (zs Z).heap.size) (hb0 : ¬ b0 ≤ b) (hN : N ≤ 2048) {i : Nat} (hi : i + 4 ≤ N) (lo : gL) (L : Nat → Nat → Nat) (K C : rM3) (M T : rM2) (hM : Iv M) (hs : Sm L K M) (hc : Sc C M) (back : ∀ (lo : gL) (L : Nat → Nat → Nat) (K C : rM3) (M T : rM2), Iv M → Sm L K M → Sc C M → GO l X b0 Z (30 + 13 * i + 13) (1000 + 97 * i + 97) lo (enC X lo L K C (enR X lo M T e00)) 765 [(0, .ref b), (1, .ref (lo 0)), (2, .ref (lo 1000)), (3, .int (nI (i)))] []) : GO l X b0 Z (30 + 13 * i) (1000 + 97 * i) lo (enC X lo L K C (enR X lo M T e00)) 333 [(0, .ref b), (1, .ref (lo 0)), (2, .ref (lo 1000)), (3, .int (nI (i)))] [] := by
  refine g_aload_n hC dL_law_333 rfl ?_
  refine g_aload_n hC dL_law_334 rfl ?_
  refine g_iload_n hC dL_law_335 rfl ?_
  refine g_iconst (v := 1) hC dL_law_336 (by decide) ?_
  refine g_iadd hC dL_law_337 ?_
  refine g_sld hC hX hbl hb0 (i + 1) (nI_1 i) (by omega) (by omega) dL_law_338 ?_
  refine g_aload_n hC dL_law_339 rfl ?_
  refine g_iload_n hC dL_law_340 rfl ?_
  refine g_iconst (v := 2) hC dL_law_341 (by decide) ?_
  refine g_iadd hC dL_law_342 ?_
  refine g_sld hC hX hbl hb0 (i + 2) (nI_2 i) (by omega) (by omega) dL_law_343 ?_
  refine g_callV hC v_X4_areTwins km_L_45 (c_X4_areTwins l X b0 lo L K C (enR X lo M T e00) M hM hs hc (xs (i + 1)) (xs (i + 2))) rfl cO rfl rfl rfl rfl (Nat.le_of_ble_eq_true rfl) ⟨by decide, by decide⟩ ⟨by show 30 + 13 * i + 0 ≤ 600000; omega, by show 1000 + 97 * i + 0 ≤ 7302250; omega⟩ dL_law_344 (fun v lo1 en1 hp => ?_)
  obtain ⟨hk, h0, r, hv, hr, L1, K1, C1, hen, hs1, hc1⟩ := hp
  subst hv
  rw [hen, enR_lo hk, en_swap, ← h0, ← hk 1000 (Nat.le_refl _)]
  refine g_aload_n hC dL_law_347 rfl ?_
  refine g_aload_n hC dL_law_348 rfl ?_
  refine g_iload_n hC dL_law_349 rfl ?_
  refine g_iconst (v := 1) hC dL_law_350 (by decide) ?_
  refine g_iadd hC dL_law_351 ?_
  refine g_sld hC hX hbl hb0 (i + 1) (nI_1 i) (by omega) (by omega) dL_law_352 ?_
  refine g_aload_n hC dL_law_353 rfl ?_
  refine g_iload_n hC dL_law_354 rfl ?_
  refine g_iconst (v := 2) hC dL_law_355 (by decide) ?_
  refine g_iadd hC dL_law_356 ?_
  refine g_sld hC hX hbl hb0 (i + 2) (nI_2 i) (by omega) (by omega) dL_law_357 ?_
  refine g_callV hC v_X5_areTwins km_L_48 (c_X5_areTwins l X b0 lo1 M T (enC X lo1 L1 K1 C1 e00) hM (xs (i + 1)) (xs (i + 2))) rfl rO rfl rfl rfl rfl (Nat.le_of_ble_eq_true rfl) ⟨by decide, by decide⟩ ⟨by show 30 + 13 * i + 0 + 0 ≤ 600000; omega, by show 1000 + 97 * i + 0 + 0 ≤ 7302250; omega⟩ dL_law_358 (fun v2 lo2 en2 hp2 => ?_)
  obtain ⟨hl2, r2, hv2, hr2, T2, he2⟩ := hp2
  subst hv2
  rw [he2, hl2, ← en_swap]
  refine g_icmp_eq (tgt := 765) hC dL_law_361 (by decide) (fun _ => ?_) (fun z => absurd (hr.trans hr2.symm) z)
  exact g_widen (k := 30 + 13 * i + 13) (n := 1000 + 97 * i + 97) (by show 30 + 13 * i + 0 + 0 ≤ _; omega) (by show 1000 + 97 * i + 0 + 0 ≤ _; omega) (back lo1 L1 K1 C1 _ T2 hM hs1 hc1)
set_option maxHeartbeats 4000000 in
set_option maxRecDepth 100000 in
theorem lc_8 {l : Launch} {X : gX} {b0 : Nat} {Z : gZ} {b N : Nat} {xs : Nat → Int32} (hC : MC X Z room_1 cL_law 4 "MouldMatcherLaw" ret) (hX : va_X b N xs (zs Z) (zs Z).heap) (hbl : b < (zs Z).heap.size) (hb0 : ¬ b0 ≤ b) (hN : N ≤ 2048) {i : Nat} (hi : i + 4 ≤ N) (lo : gL) (L : Nat → Nat → Nat) (K C : rM3) (M T : rM2) (hM : Iv M) (hs : Sm L K M) (hc : Sc C M) (back : ∀ (lo : gL) (L : Nat → Nat → Nat) (K C : rM3) (M T : rM2), Iv M → Sm L K M → Sc C M → GO l X b0 Z (30 + 13 * i + 13) (1000 + 97 * i + 97) lo (enC X lo L K C (enR X lo M T e00)) 765 [(0, .ref b), (1, .ref (lo 0)), (2, .ref (lo 1000)), (3, .int (nI (i)))] []) : GO l X b0 Z (30 + 13 * i) (1000 + 97 * i) lo (enC X lo L K C (enR X lo M T e00)) 366 [(0, .ref b), (1, .ref (lo 0)), (2, .ref (lo 1000)), (3, .int (nI (i)))] [] := by
  refine g_aload_n hC dL_law_366 rfl ?_
  refine g_aload_n hC dL_law_367 rfl ?_
  refine g_iload_n hC dL_law_368 rfl ?_
  refine g_iconst (v := 1) hC dL_law_369 (by decide) ?_
  refine g_iadd hC dL_law_370 ?_
  refine g_sld hC hX hbl hb0 (i + 1) (nI_1 i) (by omega) (by omega) dL_law_371 ?_
  refine g_aload_n hC dL_law_372 rfl ?_
  refine g_iload_n hC dL_law_373 rfl ?_
  refine g_iconst (v := 2) hC dL_law_374 (by decide) ?_
  refine g_iadd hC dL_law_375 ?_
  refine g_sld hC hX hbl hb0 (i + 2) (nI_2 i) (by omega) (by omega) dL_law_376 ?_
  refine g_callV hC v_X4_twinDifference km_L_49 (c_X4_twinDifference l X b0 lo L K C (enR X lo M T e00) M hM hs hc (xs (i + 1)) (xs (i + 2))) rfl cO rfl rfl rfl rfl (Nat.le_of_ble_eq_true rfl) ⟨by decide, by decide⟩ ⟨by show 30 + 13 * i + 0 ≤ 600000; omega, by show 1000 + 97 * i + 0 ≤ 7302250; omega⟩ dL_law_377 (fun v lo1 en1 hp => ?_)
  obtain ⟨hk, h0, r, hv, hr, L1, K1, C1, hen, hs1, hc1⟩ := hp
  subst hv
  rw [hen, enR_lo hk, en_swap, ← h0, ← hk 1000 (Nat.le_refl _)]
  refine g_aload_n hC dL_law_380 rfl ?_
  refine g_aload_n hC dL_law_381 rfl ?_
  refine g_iload_n hC dL_law_382 rfl ?_
  refine g_iconst (v := 1) hC dL_law_383 (by decide) ?_
  refine g_iadd hC dL_law_384 ?_
  refine g_sld hC hX hbl hb0 (i + 1) (nI_1 i) (by omega) (by omega) dL_law_385 ?_
  refine g_aload_n hC dL_law_386 rfl ?_
  refine g_iload_n hC dL_law_387 rfl ?_
  refine g_iconst (v := 2) hC dL_law_388 (by decide) ?_
  refine g_iadd hC dL_law_389 ?_
  refine g_sld hC hX hbl hb0 (i + 2) (nI_2 i) (by omega) (by omega) dL_law_390 ?_
  refine g_callV hC v_X5_twinDifference km_L_52 (c_X5_twinDifference l X b0 lo1 M T (enC X lo1 L1 K1 C1 e00) hM (xs (i + 1)) (xs (i + 2))) rfl rO rfl rfl rfl rfl (Nat.le_of_ble_eq_true rfl) ⟨by decide, by decide⟩ ⟨by show 30 + 13 * i + 0 + 0 ≤ 600000; omega, by show 1000 + 97 * i + 0 + 0 ≤ 7302250; omega⟩ dL_law_391 (fun v2 lo2 en2 hp2 => ?_)
  obtain ⟨hl2, r2, hv2, hr2, T2, he2⟩ := hp2
  subst hv2
  rw [he2, hl2, ← en_swap]
  refine g_icmp_eq (tgt := 765) hC dL_law_394 (by decide) (fun _ => ?_) (fun z => absurd (hr.trans hr2.symm) z)
  exact g_widen (k := 30 + 13 * i + 13) (n := 1000 + 97 * i + 97) (by show 30 + 13 * i + 0 + 0 ≤ _; omega) (by show 1000 + 97 * i + 0 + 0 ≤ _; omega) (back lo1 L1 K1 C1 _ T2 hM hs1 hc1)
set_option maxHeartbeats 4000000 in
set_option maxRecDepth 100000 in
theorem lc_9 {l : Launch} {X : gX} {b0 : Nat} {Z : gZ} {b N : Nat} {xs : Nat → Int32} (hC : MC X Z room_1 cL_law 4 "MouldMatcherLaw" ret) (hX : va_X b N xs (zs Z) (zs Z).heap) (hbl : b < (zs Z).heap.size) (hb0 : ¬ b0 ≤ b) (hN : N ≤ 2048) {i : Nat} (hi : i + 4 ≤ N) (lo : gL) (L : Nat → Nat → Nat) (K C : rM3) (M T : rM2) (hM : Iv M) (hs : Sm L K M) (hc : Sc C M) (back : ∀ (lo : gL) (L : Nat → Nat → Nat) (K C : rM3) (M T : rM2), Iv M → Sm L K M → Sc C M → GO l X b0 Z (30 + 13 * i + 13) (1000 + 97 * i + 97) lo (enC X lo L K C (enR X lo M T e00)) 765 [(0, .ref b), (1, .ref (lo 0)), (2, .ref (lo 1000)), (3, .int (nI (i)))] []) : GO l X b0 Z (30 + 13 * i) (1000 + 97 * i) lo (enC X lo L K C (enR X lo M T e00)) 399 [(0, .ref b), (1, .ref (lo 0)), (2, .ref (lo 1000)), (3, .int (nI (i)))] [] := by
  refine g_aload_n hC dL_law_399 rfl ?_
  refine g_aload_n hC dL_law_400 rfl ?_
  refine g_iload_n hC dL_law_401 rfl ?_
  refine g_iconst (v := 1) hC dL_law_402 (by decide) ?_
  refine g_iadd hC dL_law_403 ?_
  refine g_sld hC hX hbl hb0 (i + 1) (nI_1 i) (by omega) (by omega) dL_law_404 ?_
  refine g_aload_n hC dL_law_405 rfl ?_
  refine g_iload_n hC dL_law_406 rfl ?_
  refine g_iconst (v := 2) hC dL_law_407 (by decide) ?_
  refine g_iadd hC dL_law_408 ?_
  refine g_sld hC hX hbl hb0 (i + 2) (nI_2 i) (by omega) (by omega) dL_law_409 ?_
  refine g_aload_n hC dL_law_410 rfl ?_
  refine g_iload_n hC dL_law_411 rfl ?_
  refine g_iconst (v := 3) hC dL_law_412 (by decide) ?_
  refine g_iadd hC dL_law_413 ?_
  refine g_sld hC hX hbl hb0 (i + 3) (nI_3 i) (by omega) (by omega) dL_law_414 ?_
  refine g_callV hC v_X4_addSheet km_L_53 (c_X4_addSheet l X b0 lo L K C (enR X lo M T e00) M hM hs hc (xs (i + 1)) (xs (i + 2)) (xs (i + 3))) rfl cO rfl rfl rfl rfl (Nat.le_of_ble_eq_true rfl) ⟨by decide, by decide⟩ ⟨by show 30 + 13 * i + 13 ≤ 600000; omega, by show 1000 + 97 * i + 97 ≤ 7302250; omega⟩ dL_law_415 (fun v lo1 en1 hp => ?_)
  obtain ⟨hk, h0, r, hv, hr, L1, K1, C1, hen, hs1, hc1⟩ := hp
  subst hv
  rw [hen, enR_lo hk, en_swap, ← h0, ← hk 1000 (Nat.le_refl _)]
  refine g_aload_n hC dL_law_418 rfl ?_
  refine g_aload_n hC dL_law_419 rfl ?_
  refine g_iload_n hC dL_law_420 rfl ?_
  refine g_iconst (v := 1) hC dL_law_421 (by decide) ?_
  refine g_iadd hC dL_law_422 ?_
  refine g_sld hC hX hbl hb0 (i + 1) (nI_1 i) (by omega) (by omega) dL_law_423 ?_
  refine g_aload_n hC dL_law_424 rfl ?_
  refine g_iload_n hC dL_law_425 rfl ?_
  refine g_iconst (v := 2) hC dL_law_426 (by decide) ?_
  refine g_iadd hC dL_law_427 ?_
  refine g_sld hC hX hbl hb0 (i + 2) (nI_2 i) (by omega) (by omega) dL_law_428 ?_
  refine g_aload_n hC dL_law_429 rfl ?_
  refine g_iload_n hC dL_law_430 rfl ?_
  refine g_iconst (v := 3) hC dL_law_431 (by decide) ?_
  refine g_iadd hC dL_law_432 ?_
  refine g_sld hC hX hbl hb0 (i + 3) (nI_3 i) (by omega) (by omega) dL_law_433 ?_
  refine g_callV hC v_X5_addSheet km_L_56 (c_X5_addSheet l X b0 lo1 M T (enC X lo1 L1 K1 C1 e00) hM (xs (i + 1)) (xs (i + 2)) (xs (i + 3))) rfl rO rfl rfl rfl rfl (Nat.le_of_ble_eq_true rfl) ⟨by decide, by decide⟩ ⟨by show 30 + 13 * i + 13 + 0 ≤ 600000; omega, by show 1000 + 97 * i + 97 + 0 ≤ 7302250; omega⟩ dL_law_434 (fun v2 lo2 en2 hp2 => ?_)
  obtain ⟨hl2, r2, hv2, hr2, T2, he2⟩ := hp2
  subst hv2
  rw [he2, hl2, ← en_swap]
  refine g_icmp_eq (tgt := 765) hC dL_law_437 (by decide) (fun _ => ?_) (fun z => absurd (hr.trans hr2.symm) z)
  exact g_widen (k := 30 + 13 * i + 13) (n := 1000 + 97 * i + 97) (by show 30 + 13 * i + 13 + 0 ≤ _; omega) (by show 1000 + 97 * i + 97 + 0 ≤ _; omega) (back lo1 L1 K1 C1 _ T2 (Iv_addSheet hM) hs1 hc1)
set_option maxHeartbeats 4000000 in
set_option maxRecDepth 100000 in
theorem lc_10 {l : Launch} {X : gX} {b0 : Nat} {Z : gZ} {b N : Nat} {xs : Nat → Int32} (hC : MC X Z room_1 cL_law 4 "MouldMatcherLaw" ret) (hX : va_X b N xs (zs Z) (zs Z).heap) (hbl : b < (zs Z).heap.size) (hb0 : ¬ b0 ≤ b) (hN : N ≤ 2048) {i : Nat} (hi : i + 4 ≤ N) (lo : gL) (L : Nat → Nat → Nat) (K C : rM3) (M T : rM2) (hM : Iv M) (hs : Sm L K M) (hc : Sc C M) (back : ∀ (lo : gL) (L : Nat → Nat → Nat) (K C : rM3) (M T : rM2), Iv M → Sm L K M → Sc C M → GO l X b0 Z (30 + 13 * i + 13) (1000 + 97 * i + 97) lo (enC X lo L K C (enR X lo M T e00)) 765 [(0, .ref b), (1, .ref (lo 0)), (2, .ref (lo 1000)), (3, .int (nI (i)))] []) : GO l X b0 Z (30 + 13 * i) (1000 + 97 * i) lo (enC X lo L K C (enR X lo M T e00)) 442 [(0, .ref b), (1, .ref (lo 0)), (2, .ref (lo 1000)), (3, .int (nI (i)))] [] := by
  refine g_aload_n hC dL_law_442 rfl ?_
  refine g_aload_n hC dL_law_443 rfl ?_
  refine g_iload_n hC dL_law_444 rfl ?_
  refine g_iconst (v := 1) hC dL_law_445 (by decide) ?_
  refine g_iadd hC dL_law_446 ?_
  refine g_sld hC hX hbl hb0 (i + 1) (nI_1 i) (by omega) (by omega) dL_law_447 ?_
  refine g_aload_n hC dL_law_448 rfl ?_
  refine g_iload_n hC dL_law_449 rfl ?_
  refine g_iconst (v := 2) hC dL_law_450 (by decide) ?_
  refine g_iadd hC dL_law_451 ?_
  refine g_sld hC hX hbl hb0 (i + 2) (nI_2 i) (by omega) (by omega) dL_law_452 ?_
  refine g_aload_n hC dL_law_453 rfl ?_
  refine g_iload_n hC dL_law_454 rfl ?_
  refine g_iconst (v := 3) hC dL_law_455 (by decide) ?_
  refine g_iadd hC dL_law_456 ?_
  refine g_sld hC hX hbl hb0 (i + 3) (nI_3 i) (by omega) (by omega) dL_law_457 ?_
  refine g_callV hC v_X4_setDates km_L_57 (c_X4_setDates l X b0 lo L K C (enR X lo M T e00) M hM hs hc (xs (i + 1)) (xs (i + 2)) (xs (i + 3))) rfl cO rfl rfl rfl rfl (Nat.le_of_ble_eq_true rfl) ⟨by decide, by decide⟩ ⟨by show 30 + 13 * i + 0 ≤ 600000; omega, by show 1000 + 97 * i + 0 ≤ 7302250; omega⟩ dL_law_458 (fun v lo1 en1 hp => ?_)
  obtain ⟨hk, h0, r, hv, hr, L1, K1, C1, hen, hs1, hc1⟩ := hp
  subst hv
  rw [hen, enR_lo hk, en_swap, ← h0, ← hk 1000 (Nat.le_refl _)]
  refine g_aload_n hC dL_law_461 rfl ?_
  refine g_aload_n hC dL_law_462 rfl ?_
  refine g_iload_n hC dL_law_463 rfl ?_
  refine g_iconst (v := 1) hC dL_law_464 (by decide) ?_
  refine g_iadd hC dL_law_465 ?_
  refine g_sld hC hX hbl hb0 (i + 1) (nI_1 i) (by omega) (by omega) dL_law_466 ?_
  refine g_aload_n hC dL_law_467 rfl ?_
  refine g_iload_n hC dL_law_468 rfl ?_
  refine g_iconst (v := 2) hC dL_law_469 (by decide) ?_
  refine g_iadd hC dL_law_470 ?_
  refine g_sld hC hX hbl hb0 (i + 2) (nI_2 i) (by omega) (by omega) dL_law_471 ?_
  refine g_aload_n hC dL_law_472 rfl ?_
  refine g_iload_n hC dL_law_473 rfl ?_
  refine g_iconst (v := 3) hC dL_law_474 (by decide) ?_
  refine g_iadd hC dL_law_475 ?_
  refine g_sld hC hX hbl hb0 (i + 3) (nI_3 i) (by omega) (by omega) dL_law_476 ?_
  refine g_callV hC v_X5_setDates km_L_60 (c_X5_setDates l X b0 lo1 M T (enC X lo1 L1 K1 C1 e00) hM (xs (i + 1)) (xs (i + 2)) (xs (i + 3))) rfl rO rfl rfl rfl rfl (Nat.le_of_ble_eq_true rfl) ⟨by decide, by decide⟩ ⟨by show 30 + 13 * i + 0 + 0 ≤ 600000; omega, by show 1000 + 97 * i + 0 + 0 ≤ 7302250; omega⟩ dL_law_477 (fun v2 lo2 en2 hp2 => ?_)
  obtain ⟨hl2, r2, hv2, hr2, T2, he2⟩ := hp2
  subst hv2
  rw [he2, hl2, ← en_swap]
  refine g_icmp_eq (tgt := 765) hC dL_law_480 (by decide) (fun _ => ?_) (fun z => absurd (hr.trans hr2.symm) z)
  exact g_widen (k := 30 + 13 * i + 13) (n := 1000 + 97 * i + 97) (by show 30 + 13 * i + 0 + 0 ≤ _; omega) (by show 1000 + 97 * i + 0 + 0 ≤ _; omega) (back lo1 L1 K1 C1 _ T2 (Iv_setDates hM) hs1 hc1)
set_option maxHeartbeats 4000000 in
set_option maxRecDepth 100000 in
theorem lc_11 {l : Launch} {X : gX} {b0 : Nat} {Z : gZ} {b N : Nat} {xs : Nat → Int32} (hC : MC X Z room_1 cL_law 4 "MouldMatcherLaw" ret) (hX : va_X b N xs (zs Z) (zs Z).heap) (hbl : b < (zs Z).heap.size) (hb0 : ¬ b0 ≤ b) (hN : N ≤ 2048) {i : Nat} (hi : i + 4 ≤ N) (lo : gL) (L : Nat → Nat → Nat) (K C : rM3) (M T : rM2) (hM : Iv M) (hs : Sm L K M) (hc : Sc C M) (back : ∀ (lo : gL) (L : Nat → Nat → Nat) (K C : rM3) (M T : rM2), Iv M → Sm L K M → Sc C M → GO l X b0 Z (30 + 13 * i + 13) (1000 + 97 * i + 97) lo (enC X lo L K C (enR X lo M T e00)) 765 [(0, .ref b), (1, .ref (lo 0)), (2, .ref (lo 1000)), (3, .int (nI (i)))] []) : GO l X b0 Z (30 + 13 * i) (1000 + 97 * i) lo (enC X lo L K C (enR X lo M T e00)) 485 [(0, .ref b), (1, .ref (lo 0)), (2, .ref (lo 1000)), (3, .int (nI (i)))] [] := by
  refine g_aload_n hC dL_law_485 rfl ?_
  refine g_aload_n hC dL_law_486 rfl ?_
  refine g_iload_n hC dL_law_487 rfl ?_
  refine g_iconst (v := 1) hC dL_law_488 (by decide) ?_
  refine g_iadd hC dL_law_489 ?_
  refine g_sld hC hX hbl hb0 (i + 1) (nI_1 i) (by omega) (by omega) dL_law_490 ?_
  refine g_callV hC v_X4_count km_L_61 (c_X4_count l X b0 lo L K C (enR X lo M T e00) M hM hs hc (xs (i + 1))) rfl cO rfl rfl rfl rfl (Nat.le_of_ble_eq_true rfl) ⟨by decide, by decide⟩ ⟨by show 30 + 13 * i + 0 ≤ 600000; omega, by show 1000 + 97 * i + 0 ≤ 7302250; omega⟩ dL_law_491 (fun v lo1 en1 hp => ?_)
  obtain ⟨hk, h0, r, hv, hr, L1, K1, C1, hen, hs1, hc1⟩ := hp
  subst hv
  rw [hen, enR_lo hk, en_swap, ← h0, ← hk 1000 (Nat.le_refl _)]
  refine g_aload_n hC dL_law_494 rfl ?_
  refine g_aload_n hC dL_law_495 rfl ?_
  refine g_iload_n hC dL_law_496 rfl ?_
  refine g_iconst (v := 1) hC dL_law_497 (by decide) ?_
  refine g_iadd hC dL_law_498 ?_
  refine g_sld hC hX hbl hb0 (i + 1) (nI_1 i) (by omega) (by omega) dL_law_499 ?_
  refine g_callV hC v_X5_count km_L_64 (c_X5_count l X b0 lo1 M T (enC X lo1 L1 K1 C1 e00) (xs (i + 1))) rfl rO rfl rfl rfl rfl (Nat.le_of_ble_eq_true rfl) ⟨by decide, by decide⟩ ⟨by show 30 + 13 * i + 0 + 0 ≤ 600000; omega, by show 1000 + 97 * i + 0 + 0 ≤ 7302250; omega⟩ dL_law_500 (fun v2 lo2 en2 hp2 => ?_)
  obtain ⟨hl2, r2, hv2, hr2, T2, he2⟩ := hp2
  subst hv2
  rw [he2, hl2, ← en_swap]
  refine g_icmp_eq (tgt := 765) hC dL_law_503 (by decide) (fun _ => ?_) (fun z => absurd (hr.trans hr2.symm) z)
  exact g_widen (k := 30 + 13 * i + 13) (n := 1000 + 97 * i + 97) (by show 30 + 13 * i + 0 + 0 ≤ _; omega) (by show 1000 + 97 * i + 0 + 0 ≤ _; omega) (back lo1 L1 K1 C1 _ T2 hM hs1 hc1)
set_option maxHeartbeats 4000000 in
set_option maxRecDepth 100000 in
theorem lc_12 {l : Launch} {X : gX} {b0 : Nat} {Z : gZ} {b N : Nat} {xs : Nat → Int32} (hC : MC X Z room_1 cL_law 4 "MouldMatcherLaw" ret) (hX : va_X b N xs (zs Z) (zs Z).heap) (hbl : b < (zs Z).heap.size) (hb0 : ¬ b0 ≤ b) (hN : N ≤ 2048) {i : Nat} (hi : i + 4 ≤ N) (lo : gL) (L : Nat → Nat → Nat) (K C : rM3) (M T : rM2) (hM : Iv M) (hs : Sm L K M) (hc : Sc C M) (back : ∀ (lo : gL) (L : Nat → Nat → Nat) (K C : rM3) (M T : rM2), Iv M → Sm L K M → Sc C M → GO l X b0 Z (30 + 13 * i + 13) (1000 + 97 * i + 97) lo (enC X lo L K C (enR X lo M T e00)) 765 [(0, .ref b), (1, .ref (lo 0)), (2, .ref (lo 1000)), (3, .int (nI (i)))] []) : GO l X b0 Z (30 + 13 * i) (1000 + 97 * i) lo (enC X lo L K C (enR X lo M T e00)) 508 [(0, .ref b), (1, .ref (lo 0)), (2, .ref (lo 1000)), (3, .int (nI (i)))] [] := by
  refine g_aload_n hC dL_law_508 rfl ?_
  refine g_aload_n hC dL_law_509 rfl ?_
  refine g_iload_n hC dL_law_510 rfl ?_
  refine g_iconst (v := 1) hC dL_law_511 (by decide) ?_
  refine g_iadd hC dL_law_512 ?_
  refine g_sld hC hX hbl hb0 (i + 1) (nI_1 i) (by omega) (by omega) dL_law_513 ?_
  refine g_aload_n hC dL_law_514 rfl ?_
  refine g_iload_n hC dL_law_515 rfl ?_
  refine g_iconst (v := 2) hC dL_law_516 (by decide) ?_
  refine g_iadd hC dL_law_517 ?_
  refine g_sld hC hX hbl hb0 (i + 2) (nI_2 i) (by omega) (by omega) dL_law_518 ?_
  refine g_callV hC v_X4_score km_L_65 (c_X4_score l X b0 lo L K C (enR X lo M T e00) M hM hs hc (xs (i + 1)) (xs (i + 2))) rfl cO rfl rfl rfl rfl (Nat.le_of_ble_eq_true rfl) ⟨by decide, by decide⟩ ⟨by show 30 + 13 * i + 0 ≤ 600000; omega, by show 1000 + 97 * i + 0 ≤ 7302250; omega⟩ dL_law_519 (fun v lo1 en1 hp => ?_)
  obtain ⟨hk, h0, r, hv, hr, L1, K1, C1, hen, hs1, hc1⟩ := hp
  subst hv
  rw [hen, enR_lo hk, en_swap, ← h0, ← hk 1000 (Nat.le_refl _)]
  refine g_aload_n hC dL_law_522 rfl ?_
  refine g_aload_n hC dL_law_523 rfl ?_
  refine g_iload_n hC dL_law_524 rfl ?_
  refine g_iconst (v := 1) hC dL_law_525 (by decide) ?_
  refine g_iadd hC dL_law_526 ?_
  refine g_sld hC hX hbl hb0 (i + 1) (nI_1 i) (by omega) (by omega) dL_law_527 ?_
  refine g_aload_n hC dL_law_528 rfl ?_
  refine g_iload_n hC dL_law_529 rfl ?_
  refine g_iconst (v := 2) hC dL_law_530 (by decide) ?_
  refine g_iadd hC dL_law_531 ?_
  refine g_sld hC hX hbl hb0 (i + 2) (nI_2 i) (by omega) (by omega) dL_law_532 ?_
  refine g_callV hC v_X5_score km_L_68 (c_X5_score l X b0 lo1 M T (enC X lo1 L1 K1 C1 e00) hM (xs (i + 1)) (xs (i + 2))) rfl rO rfl rfl rfl rfl (Nat.le_of_ble_eq_true rfl) ⟨by decide, by decide⟩ ⟨by show 30 + 13 * i + 0 + 0 ≤ 600000; omega, by show 1000 + 97 * i + 0 + 0 ≤ 7302250; omega⟩ dL_law_533 (fun v2 lo2 en2 hp2 => ?_)
  obtain ⟨hl2, r2, hv2, hr2, T2, he2⟩ := hp2
  subst hv2
  rw [he2, hl2, ← en_swap]
  refine g_icmp_eq (tgt := 765) hC dL_law_536 (by decide) (fun _ => ?_) (fun z => absurd (hr.trans hr2.symm) z)
  exact g_widen (k := 30 + 13 * i + 13) (n := 1000 + 97 * i + 97) (by show 30 + 13 * i + 0 + 0 ≤ _; omega) (by show 1000 + 97 * i + 0 + 0 ≤ _; omega) (back lo1 L1 K1 C1 _ T2 hM hs1 hc1)
set_option maxHeartbeats 4000000 in
set_option maxRecDepth 100000 in
theorem lc_13 {l : Launch} {X : gX} {b0 : Nat} {Z : gZ} {b N : Nat} {xs : Nat → Int32} (hC : MC X Z room_1 cL_law 4 "MouldMatcherLaw" ret) (hX : va_X b N xs (zs Z) (zs Z).heap) (hbl : b < (zs Z).heap.size) (hb0 : ¬ b0 ≤ b) (hN : N ≤ 2048) {i : Nat} (hi : i + 4 ≤ N) (lo : gL) (L : Nat → Nat → Nat) (K C : rM3) (M T : rM2) (hM : Iv M) (hs : Sm L K M) (hc : Sc C M) (back : ∀ (lo : gL) (L : Nat → Nat → Nat) (K C : rM3) (M T : rM2), Iv M → Sm L K M → Sc C M → GO l X b0 Z (30 + 13 * i + 13) (1000 + 97 * i + 97) lo (enC X lo L K C (enR X lo M T e00)) 765 [(0, .ref b), (1, .ref (lo 0)), (2, .ref (lo 1000)), (3, .int (nI (i)))] []) : GO l X b0 Z (30 + 13 * i) (1000 + 97 * i) lo (enC X lo L K C (enR X lo M T e00)) 541 [(0, .ref b), (1, .ref (lo 0)), (2, .ref (lo 1000)), (3, .int (nI (i)))] [] := by
  refine g_aload_n hC dL_law_541 rfl ?_
  refine g_aload_n hC dL_law_542 rfl ?_
  refine g_iload_n hC dL_law_543 rfl ?_
  refine g_iconst (v := 1) hC dL_law_544 (by decide) ?_
  refine g_iadd hC dL_law_545 ?_
  refine g_sld hC hX hbl hb0 (i + 1) (nI_1 i) (by omega) (by omega) dL_law_546 ?_
  refine g_aload_n hC dL_law_547 rfl ?_
  refine g_iload_n hC dL_law_548 rfl ?_
  refine g_iconst (v := 2) hC dL_law_549 (by decide) ?_
  refine g_iadd hC dL_law_550 ?_
  refine g_sld hC hX hbl hb0 (i + 2) (nI_2 i) (by omega) (by omega) dL_law_551 ?_
  refine g_aload_n hC dL_law_552 rfl ?_
  refine g_iload_n hC dL_law_553 rfl ?_
  refine g_iconst (v := 3) hC dL_law_554 (by decide) ?_
  refine g_iadd hC dL_law_555 ?_
  refine g_sld hC hX hbl hb0 (i + 3) (nI_3 i) (by omega) (by omega) dL_law_556 ?_
  refine g_callV hC v_X4_placement km_L_69 (c_X4_placement l X b0 lo L K C (enR X lo M T e00) M hM hs hc (xs (i + 1)) (xs (i + 2)) (xs (i + 3))) rfl cO rfl rfl rfl rfl (Nat.le_of_ble_eq_true rfl) ⟨by decide, by decide⟩ ⟨by show 30 + 13 * i + 0 ≤ 600000; omega, by show 1000 + 97 * i + 0 ≤ 7302250; omega⟩ dL_law_557 (fun v lo1 en1 hp => ?_)
  obtain ⟨hk, h0, r, hv, hr, L1, K1, C1, hen, hs1, hc1⟩ := hp
  subst hv
  rw [hen, enR_lo hk, en_swap, ← h0, ← hk 1000 (Nat.le_refl _)]
  refine g_aload_n hC dL_law_560 rfl ?_
  refine g_aload_n hC dL_law_561 rfl ?_
  refine g_iload_n hC dL_law_562 rfl ?_
  refine g_iconst (v := 1) hC dL_law_563 (by decide) ?_
  refine g_iadd hC dL_law_564 ?_
  refine g_sld hC hX hbl hb0 (i + 1) (nI_1 i) (by omega) (by omega) dL_law_565 ?_
  refine g_aload_n hC dL_law_566 rfl ?_
  refine g_iload_n hC dL_law_567 rfl ?_
  refine g_iconst (v := 2) hC dL_law_568 (by decide) ?_
  refine g_iadd hC dL_law_569 ?_
  refine g_sld hC hX hbl hb0 (i + 2) (nI_2 i) (by omega) (by omega) dL_law_570 ?_
  refine g_aload_n hC dL_law_571 rfl ?_
  refine g_iload_n hC dL_law_572 rfl ?_
  refine g_iconst (v := 3) hC dL_law_573 (by decide) ?_
  refine g_iadd hC dL_law_574 ?_
  refine g_sld hC hX hbl hb0 (i + 3) (nI_3 i) (by omega) (by omega) dL_law_575 ?_
  refine g_callV hC v_X5_placement km_L_72 (c_X5_placement l X b0 lo1 M T (enC X lo1 L1 K1 C1 e00) hM (xs (i + 1)) (xs (i + 2)) (xs (i + 3))) rfl rO rfl rfl rfl rfl (Nat.le_of_ble_eq_true rfl) ⟨by decide, by decide⟩ ⟨by show 30 + 13 * i + 0 + 0 ≤ 600000; omega, by show 1000 + 97 * i + 0 + 0 ≤ 7302250; omega⟩ dL_law_576 (fun v2 lo2 en2 hp2 => ?_)
  obtain ⟨hl2, r2, hv2, hr2, T2, he2⟩ := hp2
  subst hv2
  rw [he2, hl2, ← en_swap]
  refine g_icmp_eq (tgt := 765) hC dL_law_579 (by decide) (fun _ => ?_) (fun z => absurd (hr.trans hr2.symm) z)
  exact g_widen (k := 30 + 13 * i + 13) (n := 1000 + 97 * i + 97) (by show 30 + 13 * i + 0 + 0 ≤ _; omega) (by show 1000 + 97 * i + 0 + 0 ≤ _; omega) (back lo1 L1 K1 C1 _ T2 hM hs1 hc1)
set_option maxHeartbeats 4000000 in
set_option maxRecDepth 100000 in
theorem lc_14 {l : Launch} {X : gX} {b0 : Nat} {Z : gZ} {b N : Nat} {xs : Nat → Int32} (hC : MC X Z room_1 cL_law 4 "MouldMatcherLaw" ret) (hX : va_X b N xs (zs Z) (zs Z).heap) (hbl : b < (zs Z).heap.size) (hb0 : ¬ b0 ≤ b) (hN : N ≤ 2048) {i : Nat} (hi : i + 4 ≤ N) (lo : gL) (L : Nat → Nat → Nat) (K C : rM3) (M T : rM2) (hM : Iv M) (hs : Sm L K M) (hc : Sc C M) (back : ∀ (lo : gL) (L : Nat → Nat → Nat) (K C : rM3) (M T : rM2), Iv M → Sm L K M → Sc C M → GO l X b0 Z (30 + 13 * i + 13) (1000 + 97 * i + 97) lo (enC X lo L K C (enR X lo M T e00)) 765 [(0, .ref b), (1, .ref (lo 0)), (2, .ref (lo 1000)), (3, .int (nI (i)))] []) : GO l X b0 Z (30 + 13 * i) (1000 + 97 * i) lo (enC X lo L K C (enR X lo M T e00)) 584 [(0, .ref b), (1, .ref (lo 0)), (2, .ref (lo 1000)), (3, .int (nI (i)))] [] := by
  refine g_aload_n hC dL_law_584 rfl ?_
  refine g_aload_n hC dL_law_585 rfl ?_
  refine g_iload_n hC dL_law_586 rfl ?_
  refine g_iconst (v := 1) hC dL_law_587 (by decide) ?_
  refine g_iadd hC dL_law_588 ?_
  refine g_sld hC hX hbl hb0 (i + 1) (nI_1 i) (by omega) (by omega) dL_law_589 ?_
  refine g_callV hC v_X4_assignedMould km_L_73 (c_X4_assignedMould l X b0 lo L K C (enR X lo M T e00) M hM hs hc (xs (i + 1))) rfl cO rfl rfl rfl rfl (Nat.le_of_ble_eq_true rfl) ⟨by decide, by decide⟩ ⟨by show 30 + 13 * i + 0 ≤ 600000; omega, by show 1000 + 97 * i + 0 ≤ 7302250; omega⟩ dL_law_590 (fun v lo1 en1 hp => ?_)
  obtain ⟨hk, h0, r, hv, hr, L1, K1, C1, hen, hs1, hc1⟩ := hp
  subst hv
  rw [hen, enR_lo hk, en_swap, ← h0, ← hk 1000 (Nat.le_refl _)]
  refine g_aload_n hC dL_law_593 rfl ?_
  refine g_aload_n hC dL_law_594 rfl ?_
  refine g_iload_n hC dL_law_595 rfl ?_
  refine g_iconst (v := 1) hC dL_law_596 (by decide) ?_
  refine g_iadd hC dL_law_597 ?_
  refine g_sld hC hX hbl hb0 (i + 1) (nI_1 i) (by omega) (by omega) dL_law_598 ?_
  refine g_callV hC v_X5_assignedMould km_L_76 (c_X5_assignedMould l X b0 lo1 M T (enC X lo1 L1 K1 C1 e00) hM (xs (i + 1))) rfl rO rfl rfl rfl rfl (Nat.le_of_ble_eq_true rfl) ⟨by decide, by decide⟩ ⟨by show 30 + 13 * i + 0 + 0 ≤ 600000; omega, by show 1000 + 97 * i + 0 + 0 ≤ 7302250; omega⟩ dL_law_599 (fun v2 lo2 en2 hp2 => ?_)
  obtain ⟨hl2, r2, hv2, hr2, T2, he2⟩ := hp2
  subst hv2
  rw [he2, hl2, ← en_swap]
  refine g_icmp_eq (tgt := 765) hC dL_law_602 (by decide) (fun _ => ?_) (fun z => absurd (hr.trans hr2.symm) z)
  exact g_widen (k := 30 + 13 * i + 13) (n := 1000 + 97 * i + 97) (by show 30 + 13 * i + 0 + 0 ≤ _; omega) (by show 1000 + 97 * i + 0 + 0 ≤ _; omega) (back lo1 L1 K1 C1 _ T2 hM hs1 hc1)
set_option maxHeartbeats 4000000 in
set_option maxRecDepth 100000 in
theorem lc_15 {l : Launch} {X : gX} {b0 : Nat} {Z : gZ} {b N : Nat} {xs : Nat → Int32} (hC : MC X Z room_1 cL_law 4 "MouldMatcherLaw" ret) (hX : va_X b N xs (zs Z) (zs Z).heap) (hbl : b < (zs Z).heap.size) (hb0 : ¬ b0 ≤ b) (hN : N ≤ 2048) {i : Nat} (hi : i + 4 ≤ N) (lo : gL) (L : Nat → Nat → Nat) (K C : rM3) (M T : rM2) (hM : Iv M) (hs : Sm L K M) (hc : Sc C M) (back : ∀ (lo : gL) (L : Nat → Nat → Nat) (K C : rM3) (M T : rM2), Iv M → Sm L K M → Sc C M → GO l X b0 Z (30 + 13 * i + 13) (1000 + 97 * i + 97) lo (enC X lo L K C (enR X lo M T e00)) 765 [(0, .ref b), (1, .ref (lo 0)), (2, .ref (lo 1000)), (3, .int (nI (i)))] []) : GO l X b0 Z (30 + 13 * i) (1000 + 97 * i) lo (enC X lo L K C (enR X lo M T e00)) 607 [(0, .ref b), (1, .ref (lo 0)), (2, .ref (lo 1000)), (3, .int (nI (i)))] [] := by
  refine g_aload_n hC dL_law_607 rfl ?_
  refine g_aload_n hC dL_law_608 rfl ?_
  refine g_iload_n hC dL_law_609 rfl ?_
  refine g_iconst (v := 1) hC dL_law_610 (by decide) ?_
  refine g_iadd hC dL_law_611 ?_
  refine g_sld hC hX hbl hb0 (i + 1) (nI_1 i) (by omega) (by omega) dL_law_612 ?_
  refine g_aload_n hC dL_law_613 rfl ?_
  refine g_iload_n hC dL_law_614 rfl ?_
  refine g_iconst (v := 2) hC dL_law_615 (by decide) ?_
  refine g_iadd hC dL_law_616 ?_
  refine g_sld hC hX hbl hb0 (i + 2) (nI_2 i) (by omega) (by omega) dL_law_617 ?_
  refine g_callV hC v_X4_rivalCount km_L_77 (c_X4_rivalCount l X b0 lo L K C (enR X lo M T e00) M hM hs hc (xs (i + 1)) (xs (i + 2))) rfl cO rfl rfl rfl rfl (Nat.le_of_ble_eq_true rfl) ⟨by decide, by decide⟩ ⟨by show 30 + 13 * i + 0 ≤ 600000; omega, by show 1000 + 97 * i + 0 ≤ 7302250; omega⟩ dL_law_618 (fun v lo1 en1 hp => ?_)
  obtain ⟨hk, h0, r, hv, hr, L1, K1, C1, hen, hs1, hc1⟩ := hp
  subst hv
  rw [hen, enR_lo hk, en_swap, ← h0, ← hk 1000 (Nat.le_refl _)]
  refine g_aload_n hC dL_law_621 rfl ?_
  refine g_aload_n hC dL_law_622 rfl ?_
  refine g_iload_n hC dL_law_623 rfl ?_
  refine g_iconst (v := 1) hC dL_law_624 (by decide) ?_
  refine g_iadd hC dL_law_625 ?_
  refine g_sld hC hX hbl hb0 (i + 1) (nI_1 i) (by omega) (by omega) dL_law_626 ?_
  refine g_aload_n hC dL_law_627 rfl ?_
  refine g_iload_n hC dL_law_628 rfl ?_
  refine g_iconst (v := 2) hC dL_law_629 (by decide) ?_
  refine g_iadd hC dL_law_630 ?_
  refine g_sld hC hX hbl hb0 (i + 2) (nI_2 i) (by omega) (by omega) dL_law_631 ?_
  refine g_callV hC v_X5_rivalCount km_L_80 (c_X5_rivalCount l X b0 lo1 M T (enC X lo1 L1 K1 C1 e00) hM (xs (i + 1)) (xs (i + 2))) rfl rO rfl rfl rfl rfl (Nat.le_of_ble_eq_true rfl) ⟨by decide, by decide⟩ ⟨by show 30 + 13 * i + 0 + 0 ≤ 600000; omega, by show 1000 + 97 * i + 0 + 0 ≤ 7302250; omega⟩ dL_law_632 (fun v2 lo2 en2 hp2 => ?_)
  obtain ⟨hl2, r2, hv2, hr2, T2, he2⟩ := hp2
  subst hv2
  rw [he2, hl2, ← en_swap]
  refine g_icmp_eq (tgt := 765) hC dL_law_635 (by decide) (fun _ => ?_) (fun z => absurd (hr.trans hr2.symm) z)
  exact g_widen (k := 30 + 13 * i + 13) (n := 1000 + 97 * i + 97) (by show 30 + 13 * i + 0 + 0 ≤ _; omega) (by show 1000 + 97 * i + 0 + 0 ≤ _; omega) (back lo1 L1 K1 C1 _ T2 hM hs1 hc1)
set_option maxHeartbeats 4000000 in
set_option maxRecDepth 100000 in
theorem lc_16 {l : Launch} {X : gX} {b0 : Nat} {Z : gZ} {b N : Nat} {xs : Nat → Int32} (hC : MC X Z room_1 cL_law 4 "MouldMatcherLaw" ret) (hX : va_X b N xs (zs Z) (zs Z).heap) (hbl : b < (zs Z).heap.size) (hb0 : ¬ b0 ≤ b) (hN : N ≤ 2048) {i : Nat} (hi : i + 4 ≤ N) (lo : gL) (L : Nat → Nat → Nat) (K C : rM3) (M T : rM2) (hM : Iv M) (hs : Sm L K M) (hc : Sc C M) (back : ∀ (lo : gL) (L : Nat → Nat → Nat) (K C : rM3) (M T : rM2), Iv M → Sm L K M → Sc C M → GO l X b0 Z (30 + 13 * i + 13) (1000 + 97 * i + 97) lo (enC X lo L K C (enR X lo M T e00)) 765 [(0, .ref b), (1, .ref (lo 0)), (2, .ref (lo 1000)), (3, .int (nI (i)))] []) : GO l X b0 Z (30 + 13 * i) (1000 + 97 * i) lo (enC X lo L K C (enR X lo M T e00)) 640 [(0, .ref b), (1, .ref (lo 0)), (2, .ref (lo 1000)), (3, .int (nI (i)))] [] := by
  refine g_aload_n hC dL_law_640 rfl ?_
  refine g_aload_n hC dL_law_641 rfl ?_
  refine g_iload_n hC dL_law_642 rfl ?_
  refine g_iconst (v := 1) hC dL_law_643 (by decide) ?_
  refine g_iadd hC dL_law_644 ?_
  refine g_sld hC hX hbl hb0 (i + 1) (nI_1 i) (by omega) (by omega) dL_law_645 ?_
  refine g_callV hC v_X4_sheetsOf km_L_81 (c_X4_sheetsOf l X b0 lo L K C (enR X lo M T e00) M hM hs hc (xs (i + 1))) rfl cO rfl rfl rfl rfl (Nat.le_of_ble_eq_true rfl) ⟨by decide, by decide⟩ ⟨by show 30 + 13 * i + 0 ≤ 600000; omega, by show 1000 + 97 * i + 0 ≤ 7302250; omega⟩ dL_law_646 (fun v lo1 en1 hp => ?_)
  obtain ⟨hk, h0, r, hv, hr, L1, K1, C1, hen, hs1, hc1⟩ := hp
  subst hv
  rw [hen, enR_lo hk, en_swap, ← h0, ← hk 1000 (Nat.le_refl _)]
  refine g_aload_n hC dL_law_649 rfl ?_
  refine g_aload_n hC dL_law_650 rfl ?_
  refine g_iload_n hC dL_law_651 rfl ?_
  refine g_iconst (v := 1) hC dL_law_652 (by decide) ?_
  refine g_iadd hC dL_law_653 ?_
  refine g_sld hC hX hbl hb0 (i + 1) (nI_1 i) (by omega) (by omega) dL_law_654 ?_
  refine g_callV hC v_X5_sheetsOf km_L_84 (c_X5_sheetsOf l X b0 lo1 M T (enC X lo1 L1 K1 C1 e00) hM (xs (i + 1))) rfl rO rfl rfl rfl rfl (Nat.le_of_ble_eq_true rfl) ⟨by decide, by decide⟩ ⟨by show 30 + 13 * i + 0 + 0 ≤ 600000; omega, by show 1000 + 97 * i + 0 + 0 ≤ 7302250; omega⟩ dL_law_655 (fun v2 lo2 en2 hp2 => ?_)
  obtain ⟨hl2, r2, hv2, hr2, T2, he2⟩ := hp2
  subst hv2
  rw [he2, hl2, ← en_swap]
  refine g_icmp_eq (tgt := 765) hC dL_law_658 (by decide) (fun _ => ?_) (fun z => absurd (hr.trans hr2.symm) z)
  exact g_widen (k := 30 + 13 * i + 13) (n := 1000 + 97 * i + 97) (by show 30 + 13 * i + 0 + 0 ≤ _; omega) (by show 1000 + 97 * i + 0 + 0 ≤ _; omega) (back lo1 L1 K1 C1 _ T2 hM hs1 hc1)
set_option maxHeartbeats 4000000 in
set_option maxRecDepth 100000 in
theorem lc_17 {l : Launch} {X : gX} {b0 : Nat} {Z : gZ} {b N : Nat} {xs : Nat → Int32} (hC : MC X Z room_1 cL_law 4 "MouldMatcherLaw" ret) (hX : va_X b N xs (zs Z) (zs Z).heap) (hbl : b < (zs Z).heap.size) (hb0 : ¬ b0 ≤ b) (hN : N ≤ 2048) {i : Nat} (hi : i + 4 ≤ N) (lo : gL) (L : Nat → Nat → Nat) (K C : rM3) (M T : rM2) (hM : Iv M) (hs : Sm L K M) (hc : Sc C M) (back : ∀ (lo : gL) (L : Nat → Nat → Nat) (K C : rM3) (M T : rM2), Iv M → Sm L K M → Sc C M → GO l X b0 Z (30 + 13 * i + 13) (1000 + 97 * i + 97) lo (enC X lo L K C (enR X lo M T e00)) 765 [(0, .ref b), (1, .ref (lo 0)), (2, .ref (lo 1000)), (3, .int (nI (i)))] []) : GO l X b0 Z (30 + 13 * i) (1000 + 97 * i) lo (enC X lo L K C (enR X lo M T e00)) 663 [(0, .ref b), (1, .ref (lo 0)), (2, .ref (lo 1000)), (3, .int (nI (i)))] [] := by
  refine g_aload_n hC dL_law_663 rfl ?_
  refine g_aload_n hC dL_law_664 rfl ?_
  refine g_iload_n hC dL_law_665 rfl ?_
  refine g_iconst (v := 1) hC dL_law_666 (by decide) ?_
  refine g_iadd hC dL_law_667 ?_
  refine g_sld hC hX hbl hb0 (i + 1) (nI_1 i) (by omega) (by omega) dL_law_668 ?_
  refine g_aload_n hC dL_law_669 rfl ?_
  refine g_iload_n hC dL_law_670 rfl ?_
  refine g_iconst (v := 2) hC dL_law_671 (by decide) ?_
  refine g_iadd hC dL_law_672 ?_
  refine g_sld hC hX hbl hb0 (i + 2) (nI_2 i) (by omega) (by omega) dL_law_673 ?_
  refine g_callV hC v_X4_sheetAt km_L_85 (c_X4_sheetAt l X b0 lo L K C (enR X lo M T e00) M hM hs hc (xs (i + 1)) (xs (i + 2))) rfl cO rfl rfl rfl rfl (Nat.le_of_ble_eq_true rfl) ⟨by decide, by decide⟩ ⟨by show 30 + 13 * i + 0 ≤ 600000; omega, by show 1000 + 97 * i + 0 ≤ 7302250; omega⟩ dL_law_674 (fun v lo1 en1 hp => ?_)
  obtain ⟨hk, h0, r, hv, hr, L1, K1, C1, hen, hs1, hc1⟩ := hp
  subst hv
  rw [hen, enR_lo hk, en_swap, ← h0, ← hk 1000 (Nat.le_refl _)]
  refine g_aload_n hC dL_law_677 rfl ?_
  refine g_aload_n hC dL_law_678 rfl ?_
  refine g_iload_n hC dL_law_679 rfl ?_
  refine g_iconst (v := 1) hC dL_law_680 (by decide) ?_
  refine g_iadd hC dL_law_681 ?_
  refine g_sld hC hX hbl hb0 (i + 1) (nI_1 i) (by omega) (by omega) dL_law_682 ?_
  refine g_aload_n hC dL_law_683 rfl ?_
  refine g_iload_n hC dL_law_684 rfl ?_
  refine g_iconst (v := 2) hC dL_law_685 (by decide) ?_
  refine g_iadd hC dL_law_686 ?_
  refine g_sld hC hX hbl hb0 (i + 2) (nI_2 i) (by omega) (by omega) dL_law_687 ?_
  refine g_callV hC v_X5_sheetAt km_L_88 (c_X5_sheetAt l X b0 lo1 M T (enC X lo1 L1 K1 C1 e00) hM (xs (i + 1)) (xs (i + 2))) rfl rO rfl rfl rfl rfl (Nat.le_of_ble_eq_true rfl) ⟨by decide, by decide⟩ ⟨by show 30 + 13 * i + 0 + 0 ≤ 600000; omega, by show 1000 + 97 * i + 0 + 0 ≤ 7302250; omega⟩ dL_law_688 (fun v2 lo2 en2 hp2 => ?_)
  obtain ⟨hl2, r2, hv2, hr2, T2, he2⟩ := hp2
  subst hv2
  rw [he2, hl2, ← en_swap]
  refine g_icmp_eq (tgt := 765) hC dL_law_691 (by decide) (fun _ => ?_) (fun z => absurd (hr.trans hr2.symm) z)
  exact g_widen (k := 30 + 13 * i + 13) (n := 1000 + 97 * i + 97) (by show 30 + 13 * i + 0 + 0 ≤ _; omega) (by show 1000 + 97 * i + 0 + 0 ≤ _; omega) (back lo1 L1 K1 C1 _ T2 hM hs1 hc1)
set_option maxHeartbeats 4000000 in
set_option maxRecDepth 100000 in
theorem lc_18 {l : Launch} {X : gX} {b0 : Nat} {Z : gZ} {b N : Nat} {xs : Nat → Int32} (hC : MC X Z room_1 cL_law 4 "MouldMatcherLaw" ret) (hX : va_X b N xs (zs Z) (zs Z).heap) (hbl : b < (zs Z).heap.size) (hb0 : ¬ b0 ≤ b) (hN : N ≤ 2048) {i : Nat} (hi : i + 4 ≤ N) (lo : gL) (L : Nat → Nat → Nat) (K C : rM3) (M T : rM2) (hM : Iv M) (hs : Sm L K M) (hc : Sc C M) (back : ∀ (lo : gL) (L : Nat → Nat → Nat) (K C : rM3) (M T : rM2), Iv M → Sm L K M → Sc C M → GO l X b0 Z (30 + 13 * i + 13) (1000 + 97 * i + 97) lo (enC X lo L K C (enR X lo M T e00)) 765 [(0, .ref b), (1, .ref (lo 0)), (2, .ref (lo 1000)), (3, .int (nI (i)))] []) : GO l X b0 Z (30 + 13 * i) (1000 + 97 * i) lo (enC X lo L K C (enR X lo M T e00)) 696 [(0, .ref b), (1, .ref (lo 0)), (2, .ref (lo 1000)), (3, .int (nI (i)))] [] := by
  refine g_aload_n hC dL_law_696 rfl ?_
  refine g_aload_n hC dL_law_697 rfl ?_
  refine g_iload_n hC dL_law_698 rfl ?_
  refine g_iconst (v := 1) hC dL_law_699 (by decide) ?_
  refine g_iadd hC dL_law_700 ?_
  refine g_sld hC hX hbl hb0 (i + 1) (nI_1 i) (by omega) (by omega) dL_law_701 ?_
  refine g_callV hC v_X4_earliest km_L_89 (c_X4_earliest l X b0 lo L K C (enR X lo M T e00) M hM hs hc (xs (i + 1))) rfl cO rfl rfl rfl rfl (Nat.le_of_ble_eq_true rfl) ⟨by decide, by decide⟩ ⟨by show 30 + 13 * i + 0 ≤ 600000; omega, by show 1000 + 97 * i + 0 ≤ 7302250; omega⟩ dL_law_702 (fun v lo1 en1 hp => ?_)
  obtain ⟨hk, h0, r, hv, hr, L1, K1, C1, hen, hs1, hc1⟩ := hp
  subst hv
  rw [hen, enR_lo hk, en_swap, ← h0, ← hk 1000 (Nat.le_refl _)]
  refine g_aload_n hC dL_law_705 rfl ?_
  refine g_aload_n hC dL_law_706 rfl ?_
  refine g_iload_n hC dL_law_707 rfl ?_
  refine g_iconst (v := 1) hC dL_law_708 (by decide) ?_
  refine g_iadd hC dL_law_709 ?_
  refine g_sld hC hX hbl hb0 (i + 1) (nI_1 i) (by omega) (by omega) dL_law_710 ?_
  refine g_callV hC v_X5_earliest km_L_92 (c_X5_earliest l X b0 lo1 M T (enC X lo1 L1 K1 C1 e00) hM (xs (i + 1))) rfl rO rfl rfl rfl rfl (Nat.le_of_ble_eq_true rfl) ⟨by decide, by decide⟩ ⟨by show 30 + 13 * i + 0 + 0 ≤ 600000; omega, by show 1000 + 97 * i + 0 + 0 ≤ 7302250; omega⟩ dL_law_711 (fun v2 lo2 en2 hp2 => ?_)
  obtain ⟨hl2, r2, hv2, hr2, T2, he2⟩ := hp2
  subst hv2
  rw [he2, hl2, ← en_swap]
  refine g_icmp_eq (tgt := 765) hC dL_law_714 (by decide) (fun _ => ?_) (fun z => absurd (hr.trans hr2.symm) z)
  exact g_widen (k := 30 + 13 * i + 13) (n := 1000 + 97 * i + 97) (by show 30 + 13 * i + 0 + 0 ≤ _; omega) (by show 1000 + 97 * i + 0 + 0 ≤ _; omega) (back lo1 L1 K1 C1 _ T2 hM hs1 hc1)
set_option maxHeartbeats 4000000 in
set_option maxRecDepth 100000 in
theorem lc_19 {l : Launch} {X : gX} {b0 : Nat} {Z : gZ} {b N : Nat} {xs : Nat → Int32} (hC : MC X Z room_1 cL_law 4 "MouldMatcherLaw" ret) (hX : va_X b N xs (zs Z) (zs Z).heap) (hbl : b < (zs Z).heap.size) (hb0 : ¬ b0 ≤ b) (hN : N ≤ 2048) {i : Nat} (hi : i + 4 ≤ N) (lo : gL) (L : Nat → Nat → Nat) (K C : rM3) (M T : rM2) (hM : Iv M) (hs : Sm L K M) (hc : Sc C M) (back : ∀ (lo : gL) (L : Nat → Nat → Nat) (K C : rM3) (M T : rM2), Iv M → Sm L K M → Sc C M → GO l X b0 Z (30 + 13 * i + 13) (1000 + 97 * i + 97) lo (enC X lo L K C (enR X lo M T e00)) 765 [(0, .ref b), (1, .ref (lo 0)), (2, .ref (lo 1000)), (3, .int (nI (i)))] []) : GO l X b0 Z (30 + 13 * i) (1000 + 97 * i) lo (enC X lo L K C (enR X lo M T e00)) 719 [(0, .ref b), (1, .ref (lo 0)), (2, .ref (lo 1000)), (3, .int (nI (i)))] [] := by
  refine g_aload_n hC dL_law_719 rfl ?_
  refine g_aload_n hC dL_law_720 rfl ?_
  refine g_iload_n hC dL_law_721 rfl ?_
  refine g_iconst (v := 1) hC dL_law_722 (by decide) ?_
  refine g_iadd hC dL_law_723 ?_
  refine g_sld hC hX hbl hb0 (i + 1) (nI_1 i) (by omega) (by omega) dL_law_724 ?_
  refine g_callV hC v_X4_latest km_L_93 (c_X4_latest l X b0 lo L K C (enR X lo M T e00) M hM hs hc (xs (i + 1))) rfl cO rfl rfl rfl rfl (Nat.le_of_ble_eq_true rfl) ⟨by decide, by decide⟩ ⟨by show 30 + 13 * i + 0 ≤ 600000; omega, by show 1000 + 97 * i + 0 ≤ 7302250; omega⟩ dL_law_725 (fun v lo1 en1 hp => ?_)
  obtain ⟨hk, h0, r, hv, hr, L1, K1, C1, hen, hs1, hc1⟩ := hp
  subst hv
  rw [hen, enR_lo hk, en_swap, ← h0, ← hk 1000 (Nat.le_refl _)]
  refine g_aload_n hC dL_law_728 rfl ?_
  refine g_aload_n hC dL_law_729 rfl ?_
  refine g_iload_n hC dL_law_730 rfl ?_
  refine g_iconst (v := 1) hC dL_law_731 (by decide) ?_
  refine g_iadd hC dL_law_732 ?_
  refine g_sld hC hX hbl hb0 (i + 1) (nI_1 i) (by omega) (by omega) dL_law_733 ?_
  refine g_callV hC v_X5_latest km_L_96 (c_X5_latest l X b0 lo1 M T (enC X lo1 L1 K1 C1 e00) hM (xs (i + 1))) rfl rO rfl rfl rfl rfl (Nat.le_of_ble_eq_true rfl) ⟨by decide, by decide⟩ ⟨by show 30 + 13 * i + 0 + 0 ≤ 600000; omega, by show 1000 + 97 * i + 0 + 0 ≤ 7302250; omega⟩ dL_law_734 (fun v2 lo2 en2 hp2 => ?_)
  obtain ⟨hl2, r2, hv2, hr2, T2, he2⟩ := hp2
  subst hv2
  rw [he2, hl2, ← en_swap]
  refine g_icmp_eq (tgt := 765) hC dL_law_737 (by decide) (fun _ => ?_) (fun z => absurd (hr.trans hr2.symm) z)
  exact g_widen (k := 30 + 13 * i + 13) (n := 1000 + 97 * i + 97) (by show 30 + 13 * i + 0 + 0 ≤ _; omega) (by show 1000 + 97 * i + 0 + 0 ≤ _; omega) (back lo1 L1 K1 C1 _ T2 hM hs1 hc1)
set_option maxHeartbeats 4000000 in
set_option maxRecDepth 100000 in
theorem lc_20 {l : Launch} {X : gX} {b0 : Nat} {Z : gZ} {b N : Nat} {xs : Nat → Int32} (hC : MC X Z room_1 cL_law 4 "MouldMatcherLaw" ret) (hX : va_X b N xs (zs Z) (zs Z).heap) (hbl : b < (zs Z).heap.size) (hb0 : ¬ b0 ≤ b) (hN : N ≤ 2048) {i : Nat} (hi : i + 4 ≤ N) (lo : gL) (L : Nat → Nat → Nat) (K C : rM3) (M T : rM2) (hM : Iv M) (hs : Sm L K M) (hc : Sc C M) (back : ∀ (lo : gL) (L : Nat → Nat → Nat) (K C : rM3) (M T : rM2), Iv M → Sm L K M → Sc C M → GO l X b0 Z (30 + 13 * i + 13) (1000 + 97 * i + 97) lo (enC X lo L K C (enR X lo M T e00)) 765 [(0, .ref b), (1, .ref (lo 0)), (2, .ref (lo 1000)), (3, .int (nI (i)))] []) : GO l X b0 Z (30 + 13 * i) (1000 + 97 * i) lo (enC X lo L K C (enR X lo M T e00)) 742 [(0, .ref b), (1, .ref (lo 0)), (2, .ref (lo 1000)), (3, .int (nI (i)))] [] := by
  refine g_aload_n hC dL_law_742 rfl ?_
  refine g_aload_n hC dL_law_743 rfl ?_
  refine g_iload_n hC dL_law_744 rfl ?_
  refine g_iconst (v := 1) hC dL_law_745 (by decide) ?_
  refine g_iadd hC dL_law_746 ?_
  refine g_sld hC hX hbl hb0 (i + 1) (nI_1 i) (by omega) (by omega) dL_law_747 ?_
  refine g_callV hC v_X4_contradictionCount km_L_97 (c_X4_contradictionCount l X b0 lo L K C (enR X lo M T e00) M hM hs hc (xs (i + 1))) rfl cO rfl rfl rfl rfl (Nat.le_of_ble_eq_true rfl) ⟨by decide, by decide⟩ ⟨by show 30 + 13 * i + 0 ≤ 600000; omega, by show 1000 + 97 * i + 0 ≤ 7302250; omega⟩ dL_law_748 (fun v lo1 en1 hp => ?_)
  obtain ⟨hk, h0, r, hv, hr, L1, K1, C1, hen, hs1, hc1⟩ := hp
  subst hv
  rw [hen, enR_lo hk, en_swap, ← h0, ← hk 1000 (Nat.le_refl _)]
  refine g_aload_n hC dL_law_751 rfl ?_
  refine g_aload_n hC dL_law_752 rfl ?_
  refine g_iload_n hC dL_law_753 rfl ?_
  refine g_iconst (v := 1) hC dL_law_754 (by decide) ?_
  refine g_iadd hC dL_law_755 ?_
  refine g_sld hC hX hbl hb0 (i + 1) (nI_1 i) (by omega) (by omega) dL_law_756 ?_
  refine g_callV hC v_X5_contradictionCount km_L_100 (c_X5_contradictionCount l X b0 lo1 M T (enC X lo1 L1 K1 C1 e00) hM (xs (i + 1))) rfl rO rfl rfl rfl rfl (Nat.le_of_ble_eq_true rfl) ⟨by decide, by decide⟩ ⟨by show 30 + 13 * i + 0 + 0 ≤ 600000; omega, by show 1000 + 97 * i + 0 + 0 ≤ 7302250; omega⟩ dL_law_757 (fun v2 lo2 en2 hp2 => ?_)
  obtain ⟨hl2, r2, hv2, hr2, T2, he2⟩ := hp2
  subst hv2
  rw [he2, hl2, ← en_swap]
  refine g_icmp_eq (tgt := 765) hC dL_law_760 (by decide) (fun _ => ?_) (fun z => absurd (hr.trans hr2.symm) z)
  exact g_widen (k := 30 + 13 * i + 13) (n := 1000 + 97 * i + 97) (by show 30 + 13 * i + 0 + 0 ≤ _; omega) (by show 1000 + 97 * i + 0 + 0 ≤ _; omega) (back lo1 L1 K1 C1 _ T2 hM hs1 hc1)
set_option maxHeartbeats 4000000 in
set_option maxRecDepth 100000 in
theorem law_step {l : Launch} {X : gX} {b0 : Nat} {Z : gZ} {b N : Nat} {xs : Nat → Int32} (hC : MC X Z room_1 cL_law 4 "MouldMatcherLaw" ret) (hX : va_X b N xs (zs Z) (zs Z).heap) (hbl : b < (zs Z).heap.size) (hb0 : ¬ b0 ≤ b) (hN : N ≤ 2048) (hEnd : ∀ (lo : gL) (en : gE) (lv : List (Nat × Value)), GO l X b0 Z 600000 7302250 lo en 772 lv [.int 1]) {i : Nat} (hi : i ≤ 2052) (ih : i + 4 ≤ N → ∀ (lo : gL) (L : Nat → Nat → Nat) (K C : rM3) (M T : rM2), Iv M → Sm L K M → Sc C M → GO l X b0 Z (30 + 13 * (i + 4)) (1000 + 97 * (i + 4)) lo (enC X lo L K C (enR X lo M T e00)) 18 [(0, .ref b), (1, .ref (lo 0)), (2, .ref (lo 1000)), (3, .int (nI (i + 4)))] []) (lo : gL) (L : Nat → Nat → Nat) (K C : rM3) (M T : rM2) (hM : Iv M) (hs : Sm L K M) (hc : Sc C M) : GO l X b0 Z (30 + 13 * i) (1000 + 97 * i) lo (enC X lo L K C (enR X lo M T e00)) 18 [(0, .ref b), (1, .ref (lo 0)), (2, .ref (lo 1000)), (3, .int (nI (i)))] [] := by
  have b1 : nI N ≤ 2048 := nI_le (a := N) (b := 2048) hN (by decide)
  have b2 : (0 : Int32) ≤ nI N := nI_le (a := 0) (b := N) (by omega) (by omega)
  have b3 : nI i ≤ 2052 := nI_le (a := i) (b := 2052) hi (by decide)
  have b4 : (0 : Int32) ≤ nI i := nI_le (a := 0) (b := i) (by omega) (by omega)
  refine g_iload_n hC dL_law_18 rfl ?_
  refine g_aload_n hC dL_law_19 rfl ?_
  refine g_slen hC hX hbl hb0 dL_law_20 ?_
  refine g_iconst (v := 4) hC dL_law_21 (by decide) ?_
  refine g_isub hC dL_law_22 ?_
  refine g_icmp_gt (tgt := 771) hC dL_law_23 (by decide) (fun c23 => ?_) (fun c23 => ?_)
  · refine g_iconst (v := 1) hC dL_law_771 (by decide) ?_
    exact g_widen (k := 600000) (n := 7302250) (by omega) (by omega) (hEnd _ _ _)
  have hi4 : i + 4 ≤ N := by
    rcases Nat.lt_or_ge N (i + 4) with z | z
    · exfalso
      have h1 : nI N < nI (i + 4) := nI_lt z (by omega)
      rw [← nI_4] at h1
      exact c23 (by grind)
    · exact z
  have back : ∀ (lo : gL) (L : Nat → Nat → Nat) (K C : rM3) (M T : rM2), Iv M → Sm L K M → Sc C M → GO l X b0 Z (30 + 13 * i + 13) (1000 + 97 * i + 97) lo (enC X lo L K C (enR X lo M T e00)) 765 [(0, .ref b), (1, .ref (lo 0)), (2, .ref (lo 1000)), (3, .int (nI (i)))] [] := by
    intro lo L K C M T hM hs hc
    refine g_iinc (v := nI (i + 4)) hC dL_law_765 rfl (nI_4 i) (by decide) ?_
    refine g_goto (tgt := 18) hC dL_law_768 (by decide) ?_
    exact g_widen (k := 30 + 13 * (i + 4)) (n := 1000 + 97 * (i + 4)) (by omega) (by omega) (g_lv (lv' := [(0, .ref b), (1, .ref (lo 0)), (2, .ref (lo 1000)), (3, .int (nI (i + 4)))]) ⟨rfl, rfl, rfl, rfl, trivial⟩ (ih hi4 lo L K C M T hM hs hc))
  refine g_aload_n hC dL_law_26 rfl ?_
  refine g_iload_n hC dL_law_27 rfl ?_
  refine g_sld hC hX hbl hb0 i rfl (by omega) (by omega) dL_law_28 ?_
  refine g_bipush (v := 31) hC dL_law_29 (by decide) ?_
  refine g_iand hC dL_law_31 ?_
  generalize (xs i &&& 31) = w
  rcases sw21 w with ⟨k, hk, hw⟩ | hw
  · subst hw
    rcases (show k = 0 ∨ k = 1 ∨ k = 2 ∨ k = 3 ∨ k = 4 ∨ k = 5 ∨ k = 6 ∨ k = 7 ∨ k = 8 ∨ k = 9 ∨ k = 10 ∨ k = 11 ∨ k = 12 ∨ k = 13 ∨ k = 14 ∨ k = 15 ∨ k = 16 ∨ k = 17 ∨ k = 18 ∨ k = 19 ∨ k = 20 by omega) with rfl | rfl | rfl | rfl | rfl | rfl | rfl | rfl | rfl | rfl | rfl | rfl | rfl | rfl | rfl | rfl | rfl | rfl | rfl | rfl | rfl
    · refine g_tableIn (off := 100) (tgt := 132) hC dL_law_32 (by decide) (by decide) rfl (by decide) ?_
      exact lc_0 hC hX hbl hb0 hN hi4 lo L K C M T hM hs hc back
    · refine g_tableIn (off := 113) (tgt := 145) hC dL_law_32 (by decide) (by decide) rfl (by decide) ?_
      exact lc_1 hC hX hbl hb0 hN hi4 lo L K C M T hM hs hc back
    · refine g_tableIn (off := 136) (tgt := 168) hC dL_law_32 (by decide) (by decide) rfl (by decide) ?_
      exact lc_2 hC hX hbl hb0 hN hi4 lo L K C M T hM hs hc back
    · refine g_tableIn (off := 169) (tgt := 201) hC dL_law_32 (by decide) (by decide) rfl (by decide) ?_
      exact lc_3 hC hX hbl hb0 hN hi4 lo L K C M T hM hs hc back
    · refine g_tableIn (off := 212) (tgt := 244) hC dL_law_32 (by decide) (by decide) rfl (by decide) ?_
      exact lc_4 hC hX hbl hb0 hN hi4 lo L K C M T hM hs hc back
    · refine g_tableIn (off := 255) (tgt := 287) hC dL_law_32 (by decide) (by decide) rfl (by decide) ?_
      exact lc_5 hC hX hbl hb0 hN hi4 lo L K C M T hM hs hc back
    · refine g_tableIn (off := 278) (tgt := 310) hC dL_law_32 (by decide) (by decide) rfl (by decide) ?_
      exact lc_6 hC hX hbl hb0 hN hi4 lo L K C M T hM hs hc back
    · refine g_tableIn (off := 301) (tgt := 333) hC dL_law_32 (by decide) (by decide) rfl (by decide) ?_
      exact lc_7 hC hX hbl hb0 hN hi4 lo L K C M T hM hs hc back
    · refine g_tableIn (off := 334) (tgt := 366) hC dL_law_32 (by decide) (by decide) rfl (by decide) ?_
      exact lc_8 hC hX hbl hb0 hN hi4 lo L K C M T hM hs hc back
    · refine g_tableIn (off := 367) (tgt := 399) hC dL_law_32 (by decide) (by decide) rfl (by decide) ?_
      exact lc_9 hC hX hbl hb0 hN hi4 lo L K C M T hM hs hc back
    · refine g_tableIn (off := 410) (tgt := 442) hC dL_law_32 (by decide) (by decide) rfl (by decide) ?_
      exact lc_10 hC hX hbl hb0 hN hi4 lo L K C M T hM hs hc back
    · refine g_tableIn (off := 453) (tgt := 485) hC dL_law_32 (by decide) (by decide) rfl (by decide) ?_
      exact lc_11 hC hX hbl hb0 hN hi4 lo L K C M T hM hs hc back
    · refine g_tableIn (off := 476) (tgt := 508) hC dL_law_32 (by decide) (by decide) rfl (by decide) ?_
      exact lc_12 hC hX hbl hb0 hN hi4 lo L K C M T hM hs hc back
    · refine g_tableIn (off := 509) (tgt := 541) hC dL_law_32 (by decide) (by decide) rfl (by decide) ?_
      exact lc_13 hC hX hbl hb0 hN hi4 lo L K C M T hM hs hc back
    · refine g_tableIn (off := 552) (tgt := 584) hC dL_law_32 (by decide) (by decide) rfl (by decide) ?_
      exact lc_14 hC hX hbl hb0 hN hi4 lo L K C M T hM hs hc back
    · refine g_tableIn (off := 575) (tgt := 607) hC dL_law_32 (by decide) (by decide) rfl (by decide) ?_
      exact lc_15 hC hX hbl hb0 hN hi4 lo L K C M T hM hs hc back
    · refine g_tableIn (off := 608) (tgt := 640) hC dL_law_32 (by decide) (by decide) rfl (by decide) ?_
      exact lc_16 hC hX hbl hb0 hN hi4 lo L K C M T hM hs hc back
    · refine g_tableIn (off := 631) (tgt := 663) hC dL_law_32 (by decide) (by decide) rfl (by decide) ?_
      exact lc_17 hC hX hbl hb0 hN hi4 lo L K C M T hM hs hc back
    · refine g_tableIn (off := 664) (tgt := 696) hC dL_law_32 (by decide) (by decide) rfl (by decide) ?_
      exact lc_18 hC hX hbl hb0 hN hi4 lo L K C M T hM hs hc back
    · refine g_tableIn (off := 687) (tgt := 719) hC dL_law_32 (by decide) (by decide) rfl (by decide) ?_
      exact lc_19 hC hX hbl hb0 hN hi4 lo L K C M T hM hs hc back
    · refine g_tableIn (off := 710) (tgt := 742) hC dL_law_32 (by decide) (by decide) rfl (by decide) ?_
      exact lc_20 hC hX hbl hb0 hN hi4 lo L K C M T hM hs hc back
  · refine g_tableOut (tgt := 765) hC dL_law_32 hw (by decide) ?_
    exact g_widen (k := 30 + 13 * i + 13) (n := 1000 + 97 * i + 97) (by omega) (by omega) (back lo L K C M T hM hs hc)
theorem law_loop {l : Launch} {X : gX} {b0 : Nat} {Z : gZ} {b N : Nat} {xs : Nat → Int32} (hC : MC X Z room_1 cL_law 4 "MouldMatcherLaw" ret) (hX : va_X b N xs (zs Z) (zs Z).heap) (hbl : b < (zs Z).heap.size) (hb0 : ¬ b0 ≤ b) (hN : N ≤ 2048) (hEnd : ∀ (lo : gL) (en : gE) (lv : List (Nat × Value)), GO l X b0 Z 600000 7302250 lo en 772 lv [.int 1]) : ∀ (d i : Nat), N ≤ d + i → i ≤ 2052 → ∀ (lo : gL) (L : Nat → Nat → Nat) (K C : rM3) (M T : rM2), Iv M → Sm L K M → Sc C M → GO l X b0 Z (30 + 13 * i) (1000 + 97 * i) lo (enC X lo L K C (enR X lo M T e00)) 18 [(0, .ref b), (1, .ref (lo 0)), (2, .ref (lo 1000)), (3, .int (nI (i)))] [] := by
  intro d
  induction d with
  | zero =>
    intro i h1 h2 lo L K C M T hM hs hc
    exact law_step hC hX hbl hb0 hN hEnd h2 (fun z => absurd z (by omega)) lo L K C M T hM hs hc
  | succ d ihd =>
    intro i h1 h2 lo L K C M T hM hs hc
    exact law_step hC hX hbl hb0 hN hEnd h2 (fun z => ihd (i + 4) (by omega) (by omega)) lo L K C M T hM hs hc
