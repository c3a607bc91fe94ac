/-! ===== the class: states, dates ===== -/
theorem up3_tag {K : rM3} {a b x i j : Nat} {v : Int32} (h : b ≠ a) : up3 K a i j v b x = K b x := up3_row (Or.inl h)
set_option maxHeartbeats 4000000 in
set_option maxRecDepth 100000 in
theorem c_X1_append (l : Launch) (X : gX) (b0 : Nat) (lo : gL) (en : gE) (k k2 k3 q : Nat) (v0 v1 v2 : Value) (f2 f3 : Nat → Int32) (h0 : en k = some (.inr (1, [v0, v1, v2, .ref (lo k2), .ref (lo k3), .int (nI q)]))) (h2 : en k2 = some (.inl (X.2 0, 6, .inl f2))) (h3 : en k3 = some (.inl (X.2 0, 6, .inl f3))) (n1 : k ≠ k2) (n2 : k ≠ k3) (n3 : k2 ≠ k3) (hq : q < 6) (x y : Int32) : Ct l X b0 lo (en) yX1_append cX1_append 3 none (rM 0 0) [.ref (lo k), .int x, .int y] (pV lo (fun en' => en' = eup (eup (eup en k2 (.inl (X.2 0, 6, .inl (upd f2 q x)))) k3 (.inl (X.2 0, 6, .inl (upd f3 q y)))) k (.inr (1, [v0, v1, v2, .ref (lo k2), .ref (lo k3), .int (nI q + 1)])))) := by
  refine gMet (by decide) (Nat.le_of_ble_eq_true rfl) rfl ?_
  intro Z hC hI hR
  refine g_aload_n hC dX1_append_0 rfl ?_
  refine g_get hC rfl h0 rfl kl_X1 5 (by decide) kf_X1_18 rfl rfl dX1_append_1 ?_
  refine g_bipush (v := 6) hC dX1_append_4 (by decide) ?_
  refine g_icmp_ge (tgt := 39) hC dX1_append_6 (by decide) (fun c6 => absurd c6 (nI_ge (b := 6) hq (by decide))) (fun c6 => ?_)
  refine g_aload_n hC dX1_append_9 rfl ?_
  refine g_get hC rfl h0 rfl kl_X1 3 (by decide) kf_X1_9 rfl rfl dX1_append_10 ?_
  refine g_aload_n hC dX1_append_13 rfl ?_
  refine g_get hC rfl h0 rfl kl_X1 5 (by decide) kf_X1_18 rfl rfl dX1_append_14 ?_
  refine g_iload_n hC dX1_append_17 rfl ?_
  refine g_iast hC rfl h2 q rfl hq (by decide) dX1_append_18 (fun en9 hen9 => ?_)
  have h0 := (congrFun hen9 (k)).trans ((eup_ne (by omega)).trans h0)
  have h2 := (congrFun hen9 (k2)).trans eup_eq
  have h3 := (congrFun hen9 (k3)).trans ((eup_ne (by omega)).trans h3)
  refine g_aload_n hC dX1_append_19 rfl ?_
  refine g_get hC rfl h0 rfl kl_X1 4 (by decide) kf_X1_15 rfl rfl dX1_append_20 ?_
  refine g_aload_n hC dX1_append_23 rfl ?_
  refine g_get hC rfl h0 rfl kl_X1 5 (by decide) kf_X1_18 rfl rfl dX1_append_24 ?_
  refine g_iload_n hC dX1_append_27 rfl ?_
  refine g_iast hC rfl h3 q rfl hq (by decide) dX1_append_28 (fun en10 hen10 => ?_)
  have h0 := (congrFun hen10 (k)).trans ((eup_ne (by omega)).trans h0)
  have h2 := (congrFun hen10 (k2)).trans ((eup_ne (by omega)).trans h2)
  have h3 := (congrFun hen10 (k3)).trans eup_eq
  refine g_aload_n hC dX1_append_29 rfl ?_
  refine g_dup hC dX1_append_30 rfl ?_
  refine g_get hC rfl h0 rfl kl_X1 5 (by decide) kf_X1_18 rfl rfl dX1_append_31 ?_
  refine g_iconst (v := 1) hC dX1_append_34 (by decide) ?_
  refine g_iadd hC dX1_append_35 ?_
  refine g_put (ty := .int) hC rfl h0 rfl kl_X1 5 (by decide) kf_X1_18 rfl tyX1 tyX1_ok nmX1 rfl (by decide +kernel) rfl rfl (Nat.le_of_ble_eq_true rfl) dX1_append_36 (fun en11 hen11 => ?_)
  have h0 := (congrFun hen11 (k)).trans eup_eq
  have h2 := (congrFun hen11 (k2)).trans ((eup_ne (by omega)).trans h2)
  have h3 := (congrFun hen11 (k3)).trans ((eup_ne (by omega)).trans h3)
  refine g_retv hR dX1_append_39 ?_
  clear hR hC hI
  exact ⟨rfl, rfl, by rw [hen11, hen10, hen9]; rfl⟩

theorem ps_en {X : gX} {lo : gL} {L : Nat → Nat → Nat} {K C : rM3} {e0 en1 : gE} {i q : Nat} {x y v : Int32} (hi : i < L 2 0) (h25 : i < 25) (h : en1 = eup (eup (eup (enC X lo L K C e0) (102 + 4 * i) (.inl (X.2 0, 6, .inl (upd (K 4 i) q x)))) (103 + 4 * i) (.inl (X.2 0, 6, .inl (upd (K 5 i) q y)))) (100 + 4 * i) (.inr (1, [.ref (lo (101 + 4 * i)), .int (K 2 i 1), .int (K 2 i 2), .ref (lo (102 + 4 * i)), .ref (lo (103 + 4 * i)), .int v]))) : en1 = enC X lo L (up3 (up3 (up3 K 4 i q x) 5 i q y) 2 i 5 v) C e0 := by
  obtain ⟨K1, e1, h1⟩ := cQM2 (X := X) (lo := lo) (L := L) (K := K) (C := C) (e0 := e0) (j := q) (v := x) hi h25 rfl
  rw [h1] at h
  have e5 : K1 5 i = K 5 i := by rw [e1]; exact up3_row (Or.inl (by decide))
  rw [← e5] at h
  obtain ⟨K2, e2, h2⟩ := cQM3 (X := X) (lo := lo) (L := L) (K := K1) (C := C) (e0 := e0) (j := q) (v := y) hi h25 rfl
  rw [h2] at h
  have e6 : K2 2 i = K 2 i := by rw [e2, e1]; simp +decide only [up3_tag]
  have e7 : [Value.ref (lo (101 + 4 * i)), .int (K 2 i 1), .int (K 2 i 2), .ref (lo (102 + 4 * i)), .ref (lo (103 + 4 * i)), .int v] = (oM lo K2 i).set 5 (.int v) := by
    unfold oM
    rw [e6]
    rfl
  rw [e7] at h
  obtain ⟨K3, e3, h3⟩ := cPM5 hi h25 h
  rw [h3, e3, e2, e1]
theorem Sm_ps {L : Nat → Nat → Nat} {K : rM3} {M : rM2} {i q : Nat} {x y : Int32} (hM : Iv M) (h : Sm L K M) (hi : i < nMo M) (hq : q < 6) (eq : M 4 i = nI q) : Sm L (up3 (up3 (up3 K 4 i q x) 5 i q y) 2 i 5 (nI q + 1)) (psM M i x y) := by
  have hq2 : nt (M 4 i) = q := by rw [eq]; exact nt_nI (by omega)
  obtain ⟨h1, h2, h3, h4, h5, h6, h7, h8⟩ := h
  have e20 : psM M i x y 20 = M 20 := by unfold psM; simp +decide only [up2_row]
  have er : ∀ b, b ≠ 4 → b ≠ 5 → b ≠ 6 → psM M i x y b = M b := fun b b1 b2 b3 => by unfold psM; rw [up2_row b1, up2_row b3, up2_row b2]
  refine ⟨?_, ?_, ?_, ?_, ?_, ?_, ?_, ?_⟩
  · unfold nMo; rw [e20]; exact h1
  · unfold nSh; rw [e20]; exact h2
  · rw [e20]; simp +decide only [up3_tag]; exact h3
  · rw [e20]; simp +decide only [up3_tag]; exact h4
  · rw [e20]; simp +decide only [up3_tag]; exact h5
  · rw [er 0 (by decide) (by decide) (by decide)]; simp +decide only [up3_tag]; exact h6
  · intro i2 hi2
    have hi3 : i2 < nMo M := by unfold nMo at hi2 ⊢; rw [e20] at hi2; exact hi2
    obtain ⟨g1, g2, g3, g4, g5, g6⟩ := h7 i2 hi3
    obtain ⟨n, hn1, hn6, en, en2⟩ := Iv_st hM hi3
    rw [er 1 (by decide) (by decide) (by decide), er 2 (by decide) (by decide) (by decide), er 3 (by decide) (by decide) (by decide)]
    by_cases hii : i2 = i
    · subst hii
      have e4 : psM M i2 x y 4 i2 = nI (q + 1) := by unfold psM; rw [up2_self, pk_us, eq]; exact nI_1 q
      refine ⟨g1, ?_, ?_, ?_, ?_, ?_⟩
      · rw [show up3 (up3 (up3 K 4 i2 q x) 5 i2 q y) 2 i2 5 (nI q + 1) 2 i2 1 = K 2 i2 1 by simp [up3]]; exact g2
      · rw [show up3 (up3 (up3 K 4 i2 q x) 5 i2 q y) 2 i2 5 (nI q + 1) 2 i2 2 = K 2 i2 2 by simp [up3]]; exact g3
      · rw [e4, up3_self, pk_us, nI_1]
      · simp +decide only [up3_tag]; exact g5
      · intro k hk
        rw [e4, nt_nI (by omega)] at hk
        have e5 : psM M i2 x y 5 (6 * i2 + k) = if k = q then x else M 5 (6 * i2 + k) := by
          unfold psM; rw [hq2]; simp +decide only [up2_row]
          unfold up2
          by_cases hkq : k = q
          · simp [hkq]
          · rw [if_neg (by omega), if_neg hkq]
        have e6 : psM M i2 x y 6 (6 * i2 + k) = if k = q then y else M 6 (6 * i2 + k) := by
          unfold psM; rw [hq2]; simp +decide only [up2_row]
          unfold up2
          by_cases hkq : k = q
          · simp [hkq]
          · rw [if_neg (by omega), if_neg (by omega), if_neg hkq]
        have k4 : up3 (up3 (up3 K 4 i2 q x) 5 i2 q y) 2 i2 5 (nI q + 1) 4 i2 k = if k = q then x else K 4 i2 k := by
          simp +decide only [up3_tag, up3_self]
          by_cases hkq : k = q
          · rw [hkq, pk_us, if_pos rfl]
          · rw [pk_un hkq, if_neg hkq]
        have k5 : up3 (up3 (up3 K 4 i2 q x) 5 i2 q y) 2 i2 5 (nI q + 1) 5 i2 k = if k = q then y else K 5 i2 k := by
          simp +decide only [up3_tag, up3_self]
          by_cases hkq : k = q
          · rw [hkq, pk_us, if_pos rfl]
          · rw [pk_un hkq, if_neg hkq]
        rw [e5, e6, k4, k5]
        by_cases hkq : k = q
        · simp [hkq]
        · rw [if_neg hkq, if_neg hkq, if_neg hkq, if_neg hkq]
          exact g6 k (by omega)
    · have r : ∀ b, up3 (up3 (up3 K 4 i q x) 5 i q y) 2 i 5 (nI q + 1) b i2 = K b i2 := fun b => by rw [up3_row (Or.inr hii), up3_row (Or.inr hii), up3_row (Or.inr hii)]
      have e4 : psM M i x y 4 i2 = M 4 i2 := by unfold psM; rw [up2_self, pk_un hii]; simp +decide only [up2_row]
      rw [r, r, r, r, e4]
      refine ⟨g1, g2, g3, g4, g5, ?_⟩
      intro k hk
      have e5 : psM M i x y 5 (6 * i2 + k) = M 5 (6 * i2 + k) := by
        unfold psM; rw [hq2]; simp +decide only [up2_row]
        unfold up2; rw [if_neg (by omega)]
      have e6 : psM M i x y 6 (6 * i2 + k) = M 6 (6 * i2 + k) := by
        unfold psM; rw [hq2]; simp +decide only [up2_row]
        unfold up2; rw [if_neg (by omega), if_neg (by omega)]
      rw [e5, e6]
      exact g6 k hk
  · intro j hj
    have hj3 : j < nSh M := by unfold nSh at hj ⊢; rw [e20] at hj; exact hj
    rw [er 7 (by decide) (by decide) (by decide), er 8 (by decide) (by decide) (by decide), er 9 (by decide) (by decide) (by decide), er 10 (by decide) (by decide) (by decide), er 11 (by decide) (by decide) (by decide), er 12 (by decide) (by decide) (by decide), er 13 (by decide) (by decide) (by decide)]
    simp +decide only [up3_tag]
    exact h8 j hj3
theorem cg_ps {M : rM2} (hM : Iv M) {i q : Nat} {x y : Int32} (hq : q < 6) (eq : M 4 i = nI q) {j i2 : Nat} (hi2 : i2 < nMo M) (hii : i2 ≠ i) : cg M (psM M i x y) j i2 := by
  have hq2 : nt (M 4 i) = q := by rw [eq]; exact nt_nI (by omega)
  obtain ⟨n, hn1, hn6, en, en2⟩ := Iv_st hM hi2
  have er : ∀ b, b ≠ 4 → b ≠ 5 → b ≠ 6 → psM M i x y b = M b := fun b b1 b2 b3 => by unfold psM; rw [up2_row b1, up2_row b3, up2_row b2]
  unfold cg
  rw [er 7 (by decide) (by decide) (by decide), er 8 (by decide) (by decide) (by decide), er 9 (by decide) (by decide) (by decide), er 10 (by decide) (by decide) (by decide), er 11 (by decide) (by decide) (by decide), er 1 (by decide) (by decide) (by decide), er 2 (by decide) (by decide) (by decide), er 3 (by decide) (by decide) (by decide), er 20 (by decide) (by decide) (by decide)]
  refine ⟨rfl, fun _ _ => rfl, rfl, rfl, rfl, rfl, fun _ _ => rfl, rfl, ?_, ?_, rfl, rfl⟩
  · unfold psM; rw [up2_self, pk_un hii]; simp +decide only [up2_row]
  · intro k hk
    constructor
    · unfold psM; rw [hq2]; simp +decide only [up2_row]
      unfold up2; rw [if_neg (by omega)]
    · unfold psM; rw [hq2]; simp +decide only [up2_row]
      unfold up2; rw [if_neg (by omega), if_neg (by omega)]
/-- behind a change of mould i whose matches were forgotten -/
theorem Sc_fg {C C1 : rM3} {M M' : rM2} {i : Nat} (hM : Iv M) (h : Sc C M) (hf : fgO C C1 i (nSh M)) (hi10 : i < 10) (hn : nMo M' = nMo M) (hs : nSh M' = nSh M) (hc : ∀ j i2, j < nSh M → i2 < nMo M → i2 ≠ i → cg M M' j i2) : Sc C1 M' := by
  intro j i2 hj hi2
  rw [hs] at hj
  by_cases hii : i2 = i
  · rw [hii]; exact Or.inl (hf.1 j hj)
  · have e : ∀ y, C1 8 (16 * j + i2) y = C 8 (16 * j + i2) y := fun y => hf.2 8 _ y (fun z => by obtain ⟨-, -, j2, h1, h2⟩ := z; omega)
    rcases h j i2 hj hi2 with h0 | ⟨h1, h2, h3⟩
    · exact Or.inl ((e 0).trans h0)
    · refine Or.inr ⟨(e 0).trans h1, by rw [hn]; exact h2, ?_⟩
      rw [fb_cg hM hj h2 (hc j i2 hj h2 hii)]
      unfold mtB at h3 ⊢
      rw [e 1, e 2, e 3, e 4, e 5, e 6]
      exact h3

set_option maxHeartbeats 4000000 in
set_option maxRecDepth 100000 in
theorem c_X4_stateCount (l : Launch) (X : gX) (b0 : Nat) (lo : gL) (L : Nat → Nat → Nat) (K C : rM3) (e0 : gE) (M : rM2) (hM : Iv M) (hs : Sm L K M) (hc : Sc C M) (p : Int32) : Ct l X b0 lo (enC X lo L K C e0) yX4_stateCount cX4_stateCount 3 (some FieldType.int) (rM 1 21) [.ref (lo 0), .int p] (pKl X lo e0 (sp_stateCount M p)) := by
  refine gMet (by decide) (Nat.le_of_ble_eq_true rfl) rfl ?_
  intro Z hC hI hR
  rcases Classical.em (isMo M p) with hp | hp
  · obtain ⟨i, hi10, rfl, hin, -⟩ := moOf hM hp
    have ei : nt (nI i) = i := nt_nI (by omega)
    have hi1 : i < L 2 0 := by rw [hs.1]; exact hin
    have h25 : i < 25 := by omega
    have hN : L 2 0 ≤ 10 := by rw [hs.1]; exact (Iv_nM hM).1
    have hSS : L 2 1 ≤ 30 := by rw [hs.2.1]; exact (Iv_nS hM).1
    obtain ⟨g1, g2, g3, g4, g5, g6⟩ := hs.mo hin
    have hMi := hM.2.2.2.2.2.2.1 i hin
    refine g_aload_n hC dX4_stateCount_0 rfl ?_
    refine g_iload_n hC dX4_stateCount_1 rfl ?_
    refine g_callV hC v_X4_mouldOrNull km_X4_78 (c_X4_mouldOrNull_s l X b0 lo L _ _ e0 i hi1 hN) rfl cO rfl rfl rfl rfl (Nat.le_of_ble_eq_true rfl) ⟨by decide, by decide⟩ ⟨by decide, by decide⟩ dX4_stateCount_2 (kX ?_)
    refine g_astore_n hC dX4_stateCount_5 (by decide) ?_
    refine g_aload_n hC dX4_stateCount_6 rfl ?_
    refine g_ifnonnull (tgt := 14) hC dX4_stateCount_7 (by decide) ?_
    refine g_aload_n hC dX4_stateCount_14 rfl ?_
    refine g_get hC rfl (cM hi1 h25) rfl kl_X1 5 (by decide) kf_X4_88 rfl rfl dX4_stateCount_15 ?_
    refine g_ireti hR dX4_stateCount_18 rfl ?_
    clear hR hC hI
    have hsp : sp_stateCount M (nI i) = (M 4 i, M) := by grind [sp_stateCount]
    rw [hsp]
    exact pKl_i g4 hs hc
  · have hpn : ¬ (0 ≤ p ∧ p < nI (L 2 0)) := fun z => hp ⟨z.1, by have h2 := z.2; rw [hs.1, ← (Iv_nM hM).2] at h2; have := hM.2.2.2.1; grind⟩
    refine g_aload_n hC dX4_stateCount_0 rfl ?_
    refine g_iload_n hC dX4_stateCount_1 rfl ?_
    refine g_callV hC v_X4_mouldOrNull km_X4_78 (c_X4_mouldOrNull_n l X b0 lo L _ _ e0 p hpn) rfl cO rfl rfl rfl rfl (Nat.le_of_ble_eq_true rfl) ⟨by decide, by decide⟩ ⟨by decide, by decide⟩ dX4_stateCount_2 (kX ?_)
    refine g_astore_nN hC dX4_stateCount_5 (by decide) ?_
    refine g_aload_nN hC dX4_stateCount_6 rfl ?_
    refine g_ifnonnullN hC dX4_stateCount_7 ?_
    refine g_iconst (v := (-1)) hC dX4_stateCount_10 (by decide) ?_
    refine g_goto (tgt := 18) hC dX4_stateCount_11 (by decide) ?_
    refine g_ireti hR dX4_stateCount_18 rfl ?_
    clear hR hC hI
    have hsp : sp_stateCount M p = (-1, M) := by grind [sp_stateCount]
    rw [hsp]
    exact pKl_i rfl hs hc

set_option maxHeartbeats 4000000 in
set_option maxRecDepth 100000 in
theorem c_X4_addState (l : Launch) (X : gX) (b0 : Nat) (lo : gL) (L : Nat → Nat → Nat) (K C : rM3) (e0 : gE) (M : rM2) (hM : Iv M) (hs : Sm L K M) (hc : Sc C M) (p x y : Int32) : Ct l X b0 lo (enC X lo L K C e0) yX4_addState cX4_addState 5 (some FieldType.int) (rM 2 44) [.ref (lo 0), .int p, .int x, .int y] (pKl X lo e0 (sp_addState M p x y)) := by
  refine gMet (by decide) (Nat.le_of_ble_eq_true rfl) rfl ?_
  intro Z hC hI hR
  rcases Classical.em (isMo M p) with hp | hp
  · obtain ⟨i, hi10, rfl, hin, -⟩ := moOf hM hp
    have ei : nt (nI i) = i := nt_nI (by omega)
    have hi1 : i < L 2 0 := by rw [hs.1]; exact hin
    have h25 : i < 25 := by omega
    have hN : L 2 0 ≤ 10 := by rw [hs.1]; exact (Iv_nM hM).1
    have hSS : L 2 1 ≤ 30 := by rw [hs.2.1]; exact (Iv_nS hM).1
    obtain ⟨g1, g2, g3, g4, g5, g6⟩ := hs.mo hin
    have hMi := hM.2.2.2.2.2.2.1 i hin
    refine g_aload_n hC dX4_addState_0 rfl ?_
    refine g_iload_n hC dX4_addState_1 rfl ?_
    refine g_callV hC v_X4_mouldOrNull km_X4_78 (c_X4_mouldOrNull_s l X b0 lo L _ _ e0 i hi1 hN) rfl cO rfl rfl rfl rfl (Nat.le_of_ble_eq_true rfl) ⟨by decide, by decide⟩ ⟨by decide, by decide⟩ dX4_addState_2 (kX ?_)
    refine g_astore hC dX4_addState_5 (by decide) ?_
    refine g_aload hC dX4_addState_7 rfl ?_
    refine g_ifnonnull (tgt := 14) hC dX4_addState_9 (by decide) ?_
    refine g_aload hC dX4_addState_14 rfl ?_
    refine g_get hC rfl (cM hi1 h25) rfl kl_X1 2 (by decide) kf_X4_82 rfl rfl dX4_addState_16 ?_
    refine g_iload_n hC dX4_addState_19 rfl ?_
    refine g_iload_n hC dX4_addState_20 rfl ?_
    refine g_callS hC v_X4_isPosition km_X4_85 (c_X4_isPosition l X b0 lo _ _ _ _) rfl rfl (Nat.le_of_ble_eq_true rfl) ⟨by decide, by decide⟩ ⟨by decide, by decide⟩ dX4_addState_21 (kX ?_)
    refine g_if_ne (tgt := 30) hC dX4_addState_24 (by decide) (fun c24 => ?_) (fun c24 => ?_)
    · refine g_aload hC dX4_addState_30 rfl ?_
      refine g_get hC rfl (cM hi1 h25) rfl kl_X1 5 (by decide) kf_X4_88 rfl rfl dX4_addState_32 ?_
      refine g_bipush (v := 6) hC dX4_addState_35 (by decide) ?_
      refine g_icmp_lt (tgt := 43) hC dX4_addState_37 (by decide) (fun c37 => ?_) (fun c37 => ?_)
      · obtain ⟨q, hq5, eq⟩ := natOf (n := 5) (b := 5) (x := M 4 i) ⟨by have := hMi.2.2.1.1; grind, by grind⟩ rfl (by decide)
        have hq : q < 6 := by omega
        refine g_aload hC dX4_addState_43 rfl ?_
        refine g_iload_n hC dX4_addState_45 rfl ?_
        refine g_iload_n hC dX4_addState_46 rfl ?_
        refine g_callV hC v_X1_append km_X4_74 (c_X1_append l X b0 lo _ (100 + 4 * i) (102 + 4 * i) (103 + 4 * i) q _ _ _ (K 4 i) (K 5 i) (by rw [cM hi1 h25]; unfold oM; rw [g4, eq]) (cM2 hi1 h25) (cM3 hi1 h25) (by omega) (by omega) (by omega) hq _ _) rfl (cM hi1 h25) rfl rfl rfl rfl (Nat.le_of_ble_eq_true rfl) ⟨by decide, by decide⟩ ⟨by decide, by decide⟩ dX4_addState_47 (kV ?_)
        intro en' hen'
        replace hen' := ps_en hi1 h25 hen'
        subst hen'
        have hq1 : nI q + 1 = nI (q + 1) := nI_1 q
        refine g_aload_n hC dX4_addState_50 rfl ?_
        refine g_iload_n hC dX4_addState_51 rfl ?_
        refine g_callV hC v_X4_forgetMatches km_X4_58 (c_X4_forgetMatches l X b0 lo L _ _ e0 i (by omega) (by omega)) rfl cO rfl rfl rfl rfl (Nat.le_of_ble_eq_true rfl) ⟨by decide, by decide⟩ ⟨by decide, by decide⟩ dX4_addState_52 (kV ?_)
        rintro en' ⟨C9, rfl, hf9⟩
        refine g_aload hC dX4_addState_55 rfl ?_
        refine g_get hC rfl (cM hi1 h25) rfl kl_X1 5 (by decide) kf_X4_88 rfl rfl dX4_addState_57 ?_
        refine g_iconst (v := 1) hC dX4_addState_60 (by decide) ?_
        refine g_isub hC dX4_addState_61 ?_
        refine g_ireti hR dX4_addState_62 rfl ?_
        clear hR hC hI
        have hsp : sp_addState M (nI i) x y = (M 4 i, psM M i x y) := by grind [sp_addState, wi]
        rw [hsp]
        have e20 : psM M i x y 20 = M 20 := by unfold psM; simp +decide only [up2_row]
        refine pKl_i ?_ (Sm_ps hM hs hin hq eq) (Sc_fg hM hc (by rw [← hs.2.1]; exact hf9) hi10 (congrArg nt (congrFun e20 4)) (congrArg nt (congrFun e20 11)) (fun j i2 _ h2 h3 => cg_ps hM hq eq h2 h3))
        show up3 _ 2 i 5 (nI q + 1) 2 i 5 - 1 = M 4 i
        rw [up3_self, pk_us, eq]
        grind
      · refine g_bipush (v := (-5)) hC dX4_addState_40 (by decide) ?_
        refine g_ireti hR dX4_addState_42 rfl ?_
        clear hR hC hI
        have h6 : M 4 i = 6 := by have := hMi.2.2.1.2; grind
        have hsp : sp_addState M (nI i) x y = (-5, M) := by grind [sp_addState, wi]
        rw [hsp]
        exact pKl_i rfl hs hc
    · refine g_bipush (v := (-3)) hC dX4_addState_27 (by decide) ?_
      refine g_ireti hR dX4_addState_29 rfl ?_
      clear hR hC hI
      have hsp : sp_addState M (nI i) x y = (-3, M) := by grind [sp_addState, wi]
      rw [hsp]
      exact pKl_i rfl hs hc
  · have hpn : ¬ (0 ≤ p ∧ p < nI (L 2 0)) := fun z => hp ⟨z.1, by have h2 := z.2; rw [hs.1, ← (Iv_nM hM).2] at h2; have := hM.2.2.2.1; grind⟩
    refine g_aload_n hC dX4_addState_0 rfl ?_
    refine g_iload_n hC dX4_addState_1 rfl ?_
    refine g_callV hC v_X4_mouldOrNull km_X4_78 (c_X4_mouldOrNull_n l X b0 lo L _ _ e0 p hpn) rfl cO rfl rfl rfl rfl (Nat.le_of_ble_eq_true rfl) ⟨by decide, by decide⟩ ⟨by decide, by decide⟩ dX4_addState_2 (kX ?_)
    refine g_astoreN hC dX4_addState_5 (by decide) ?_
    refine g_aloadN hC dX4_addState_7 rfl ?_
    refine g_ifnonnullN hC dX4_addState_9 ?_
    refine g_iconst (v := (-1)) hC dX4_addState_12 (by decide) ?_
    refine g_ireti hR dX4_addState_13 rfl ?_
    clear hR hC hI
    have hsp : sp_addState M p x y = (-1, M) := by grind [sp_addState, wi]
    rw [hsp]
    exact pKl_i rfl hs hc

theorem Sm_rs {L : Nat → Nat → Nat} {K : rM3} {M : rM2} {i q : Nat} (hM : Iv M) (h : Sm L K M) (hi : i < nMo M) (hq : q < 6) (eq : M 4 i = nI (q + 1)) : Sm L (up3 K 2 i 5 (nI q)) (up2 M 4 i (nI q)) := by
  obtain ⟨h1, h2, h3, h4, h5, h6, h7, h8⟩ := h
  refine ⟨h1, h2, h3, h4, h5, ?_, ?_, ?_⟩
  · simp +decide only [up3_tag, up2_row]; exact h6
  · intro i2 hi2
    have hi3 : i2 < nMo M := hi2
    obtain ⟨g1, g2, g3, g4, g5, g6⟩ := h7 i2 hi3
    simp +decide only [up2_row]
    by_cases hii : i2 = i
    · subst hii
      refine ⟨g1, ?_, ?_, ?_, ?_, ?_⟩
      · rw [show up3 K 2 i2 5 (nI q) 2 i2 1 = K 2 i2 1 by simp [up3]]; exact g2
      · rw [show up3 K 2 i2 5 (nI q) 2 i2 2 = K 2 i2 2 by simp [up3]]; exact g3
      · rw [up3_self, pk_us, up2_self, pk_us]
      · simp +decide only [up3_tag]; exact g5
      · intro k hk
        rw [up2_self, pk_us, nt_nI (by omega)] at hk
        simp +decide only [up3_tag]
        exact g6 k (by rw [eq, nt_nI (by omega)]; omega)
    · have r : ∀ b, up3 K 2 i 5 (nI q) b i2 = K b i2 := fun b => up3_row (Or.inr hii)
      rw [r, r, r, r, up2_self, pk_un hii]
      exact ⟨g1, g2, g3, g4, g5, g6⟩
  · intro j hj
    simp +decide only [up3_tag, up2_row]
    exact h8 j hj
theorem cg_rs {M : rM2} {i : Nat} {v : Int32} {j i2 : Nat} (hii : i2 ≠ i) : cg M (up2 M 4 i v) j i2 := by
  have r : ∀ b, b ≠ 4 → up2 M 4 i v b = M b := fun b h => up2_row h
  unfold cg
  rw [r 7 (by decide), r 8 (by decide), r 9 (by decide), r 10 (by decide), r 11 (by decide), r 1 (by decide), r 2 (by decide), r 3 (by decide), r 5 (by decide), r 6 (by decide), r 20 (by decide)]
  exact ⟨rfl, fun _ _ => rfl, rfl, rfl, rfl, rfl, fun _ _ => rfl, rfl, by rw [up2_self, pk_un hii], fun _ _ => ⟨rfl, rfl⟩, rfl, rfl⟩

set_option maxHeartbeats 4000000 in
set_option maxRecDepth 100000 in
theorem c_X4_removeState (l : Launch) (X : gX) (b0 : Nat) (lo : gL) (L : Nat → Nat → Nat) (K C : rM3) (e0 : gE) (M : rM2) (hM : Iv M) (hs : Sm L K M) (hc : Sc C M) (p : Int32) : Ct l X b0 lo (enC X lo L K C e0) yX4_removeState cX4_removeState 3 (some FieldType.int) (rM 1 22) [.ref (lo 0), .int p] (pKl X lo e0 (sp_removeState M p)) := by
  refine gMet (by decide) (Nat.le_of_ble_eq_true rfl) rfl ?_
  intro Z hC hI hR
  rcases Classical.em (isMo M p) with hp | hp
  · obtain ⟨i, hi10, rfl, hin, -⟩ := moOf hM hp
    have ei : nt (nI i) = i := nt_nI (by omega)
    have hi1 : i < L 2 0 := by rw [hs.1]; exact hin
    have h25 : i < 25 := by omega
    have hN : L 2 0 ≤ 10 := by rw [hs.1]; exact (Iv_nM hM).1
    have hSS : L 2 1 ≤ 30 := by rw [hs.2.1]; exact (Iv_nS hM).1
    obtain ⟨g1, g2, g3, g4, g5, g6⟩ := hs.mo hin
    have hMi := hM.2.2.2.2.2.2.1 i hin
    refine g_aload_n hC dX4_removeState_0 rfl ?_
    refine g_iload_n hC dX4_removeState_1 rfl ?_
    refine g_callV hC v_X4_mouldOrNull km_X4_78 (c_X4_mouldOrNull_s l X b0 lo L _ _ e0 i hi1 hN) rfl cO rfl rfl rfl rfl (Nat.le_of_ble_eq_true rfl) ⟨by decide, by decide⟩ ⟨by decide, by decide⟩ dX4_removeState_2 (kX ?_)
    refine g_astore_n hC dX4_removeState_5 (by decide) ?_
    refine g_aload_n hC dX4_removeState_6 rfl ?_
    refine g_ifnonnull (tgt := 12) hC dX4_removeState_7 (by decide) ?_
    refine g_aload_n hC dX4_removeState_12 rfl ?_
    refine g_get hC rfl (cM hi1 h25) rfl kl_X1 5 (by decide) kf_X4_88 rfl rfl dX4_removeState_13 ?_
    refine g_iconst (v := 1) hC dX4_removeState_16 (by decide) ?_
    refine g_icmp_gt (tgt := 23) hC dX4_removeState_17 (by decide) (fun c17 => ?_) (fun c17 => ?_)
    · refine g_aload_n hC dX4_removeState_23 rfl ?_
      refine g_dup hC dX4_removeState_24 rfl ?_
      refine g_get hC rfl (cM hi1 h25) rfl kl_X1 5 (by decide) kf_X4_88 rfl rfl dX4_removeState_25 ?_
      refine g_iconst (v := 1) hC dX4_removeState_28 (by decide) ?_
      refine g_isub hC dX4_removeState_29 ?_
      refine g_put (ty := .int) hC rfl (cM hi1 h25) rfl kl_X1 5 (by decide) kf_X4_88 rfl tyX1 tyX1_ok nmX1 rfl (by decide +kernel) rfl rfl (Nat.le_of_ble_eq_true rfl) dX4_removeState_30 (fun en12 hen12 => ?_)
      replace hen12 := cPM5 hi1 h25 hen12
      obtain ⟨K12, hK12, hen12⟩ := hen12
      subst hen12
      refine g_aload_n hC dX4_removeState_33 rfl ?_
      refine g_iload_n hC dX4_removeState_34 rfl ?_
      refine g_callV hC v_X4_forgetMatches km_X4_58 (c_X4_forgetMatches l X b0 lo L _ _ e0 i (by omega) (by omega)) rfl cO rfl rfl rfl rfl (Nat.le_of_ble_eq_true rfl) ⟨by decide, by decide⟩ ⟨by decide, by decide⟩ dX4_removeState_35 (kV ?_)
      rintro en' ⟨C9, rfl, hf9⟩
      refine g_aload_n hC dX4_removeState_38 rfl ?_
      refine g_get hC rfl (cM hi1 h25) rfl kl_X1 5 (by decide) kf_X4_88 rfl rfl dX4_removeState_39 ?_
      refine g_ireti hR dX4_removeState_42 rfl ?_
      clear hR hC hI
      obtain ⟨q, hq5, eq⟩ := natOf (n := 5) (b := 5) (x := M 4 i - 1) ⟨by grind, by have := hMi.2.2.1.2; grind⟩ rfl (by decide)
      have eq1 : M 4 i = nI (q + 1) := by rw [← nI_1, ← eq]; grind
      have hsp : sp_removeState M (nI i) = (M 4 i - 1, up2 M 4 i (M 4 i - 1)) := by grind [sp_removeState]
      rw [hsp, eq]
      have hkk : K12 = up3 K 2 i 5 (nI q) := by rw [hK12, g4, eq]
      refine pKl_i ?_ (by rw [hkk]; exact Sm_rs hM hs hin (by omega) eq1) (Sc_fg hM hc (by rw [← hs.2.1]; exact hf9) hi10 rfl rfl (fun j i2 _ h2 h3 => cg_rs h3))
      show K12 2 i 5 = nI q
      rw [hkk, up3_self, pk_us]
    · refine g_bipush (v := (-6)) hC dX4_removeState_20 (by decide) ?_
      refine g_ireti hR dX4_removeState_22 rfl ?_
      clear hR hC hI
      have h6 : M 4 i = 1 := by have := hMi.2.2.1.1; grind
      have hsp : sp_removeState M (nI i) = (-6, M) := by grind [sp_removeState]
      rw [hsp]
      exact pKl_i rfl hs hc
  · have hpn : ¬ (0 ≤ p ∧ p < nI (L 2 0)) := fun z => hp ⟨z.1, by have h2 := z.2; rw [hs.1, ← (Iv_nM hM).2] at h2; have := hM.2.2.2.1; grind⟩
    refine g_aload_n hC dX4_removeState_0 rfl ?_
    refine g_iload_n hC dX4_removeState_1 rfl ?_
    refine g_callV hC v_X4_mouldOrNull km_X4_78 (c_X4_mouldOrNull_n l X b0 lo L _ _ e0 p hpn) rfl cO rfl rfl rfl rfl (Nat.le_of_ble_eq_true rfl) ⟨by decide, by decide⟩ ⟨by decide, by decide⟩ dX4_removeState_2 (kX ?_)
    refine g_astore_nN hC dX4_removeState_5 (by decide) ?_
    refine g_aload_nN hC dX4_removeState_6 rfl ?_
    refine g_ifnonnullN hC dX4_removeState_7 ?_
    refine g_iconst (v := (-1)) hC dX4_removeState_10 (by decide) ?_
    refine g_ireti hR dX4_removeState_11 rfl ?_
    clear hR hC hI
    have hsp : sp_removeState M p = (-1, M) := by grind [sp_removeState, wi]
    rw [hsp]
    exact pKl_i rfl hs hc

theorem Sm_dt {L : Nat → Nat → Nat} {K : rM3} {M : rM2} {j : Nat} {a b : Int32} (h : Sm L K M) : Sm L (up3 (up3 K 6 j 4 a) 6 j 5 b) (up2 (up2 M 12 j a) 13 j b) := by
  obtain ⟨h1, h2, h3, h4, h5, h6, h7, h8⟩ := h
  refine ⟨h1, h2, h3, h4, h5, ?_, ?_, ?_⟩
  · simp +decide only [up3_tag, up2_row]; exact h6
  · intro i hi
    simp +decide only [up3_tag, up2_row]
    exact h7 i hi
  · intro j2 hj2
    obtain ⟨s1, s2, s3, s4, s5, s6, s7⟩ := h8 j2 hj2
    simp +decide only [up2_row]
    refine ⟨s1, ?_, ?_, ?_, ?_, ?_, ?_⟩
    · rw [show up3 (up3 K 6 j 4 a) 6 j 5 b 6 j2 1 = K 6 j2 1 by simp [up3]]; exact s2
    · rw [show up3 (up3 K 6 j 4 a) 6 j 5 b 6 j2 2 = K 6 j2 2 by simp [up3]]; exact s3
    · rw [show up3 (up3 K 6 j 4 a) 6 j 5 b 6 j2 3 = K 6 j2 3 by simp [up3]]; exact s4
    · by_cases hjj : j2 = j
      · rw [hjj]; simp [up3, up2]
      · simp [up3, up2, hjj]; exact s5
    · by_cases hjj : j2 = j
      · rw [hjj]; simp [up3, up2]
      · simp [up3, up2, hjj]; exact s6
    · simp +decide only [up3_tag]; exact s7

set_option maxHeartbeats 4000000 in
set_option maxRecDepth 100000 in
theorem c_X4_setDates (l : Launch) (X : gX) (b0 : Nat) (lo : gL) (L : Nat → Nat → Nat) (K C : rM3) (e0 : gE) (M : rM2) (hM : Iv M) (hs : Sm L K M) (hc : Sc C M) (p a b : Int32) : Ct l X b0 lo (enC X lo L K C e0) yX4_setDates cX4_setDates 5 (some FieldType.int) (rM 1 22) [.ref (lo 0), .int p, .int a, .int b] (pKl X lo e0 (sp_setDates M p a b)) := by
  refine gMet (by decide) (Nat.le_of_ble_eq_true rfl) rfl ?_
  intro Z hC hI hR
  rcases Classical.em (isSh M p) with hp | hp
  · obtain ⟨j, hj30, rfl, hjn, -⟩ := shOf hM hp
    have ej : nt (nI j) = j := nt_nI (by omega)
    have hj1 : j < L 2 1 := by rw [hs.2.1]; exact hjn
    have hj50 : j < 50 := by omega
    have hN : L 2 0 ≤ 10 := by rw [hs.1]; exact (Iv_nM hM).1
    have hSS : L 2 1 ≤ 30 := by rw [hs.2.1]; exact (Iv_nS hM).1
    obtain ⟨s1, s2, s3, s4, s5, s6, s7⟩ := hs.sh hjn
    refine g_aload_n hC dX4_setDates_0 rfl ?_
    refine g_iload_n hC dX4_setDates_1 rfl ?_
    refine g_callV hC v_X4_sheetOrNull km_X4_118 (c_X4_sheetOrNull_s l X b0 lo L _ _ e0 j hj1 hSS) rfl cO rfl rfl rfl rfl (Nat.le_of_ble_eq_true rfl) ⟨by decide, by decide⟩ ⟨by decide, by decide⟩ dX4_setDates_2 (kX ?_)
    refine g_astore hC dX4_setDates_5 (by decide) ?_
    refine g_aload hC dX4_setDates_7 rfl ?_
    refine g_ifnonnull (tgt := 15) hC dX4_setDates_9 (by decide) ?_
    refine g_iload_n hC dX4_setDates_15 rfl ?_
    refine g_iconst (v := 0) hC dX4_setDates_16 (by decide) ?_
    refine g_sipush (v := 9999) hC dX4_setDates_17 (by decide) ?_
    refine g_callS hC v_X4_isWithin km_X4_54 (c_X4_isWithin l X b0 lo _ _ _ _) rfl rfl (Nat.le_of_ble_eq_true rfl) ⟨by decide, by decide⟩ ⟨by decide, by decide⟩ dX4_setDates_20 (kX ?_)
    refine g_if_eq (tgt := 37) hC dX4_setDates_23 (by decide) (fun c23 => ?_) (fun c23 => ?_)
    · refine g_bipush (v := (-3)) hC dX4_setDates_37 (by decide) ?_
      refine g_ireti hR dX4_setDates_39 rfl ?_
      clear hR hC hI
      have hsp : sp_setDates M (nI j) a b = (-3, M) := by grind [sp_setDates, wi]
      rw [hsp]
      exact pKl_i rfl hs hc
    · refine g_iload_n hC dX4_setDates_26 rfl ?_
      refine g_iload_n hC dX4_setDates_27 rfl ?_
      refine g_sipush (v := 9999) hC dX4_setDates_28 (by decide) ?_
      refine g_callS hC v_X4_isWithin km_X4_54 (c_X4_isWithin l X b0 lo _ _ _ _) rfl rfl (Nat.le_of_ble_eq_true rfl) ⟨by decide, by decide⟩ ⟨by decide, by decide⟩ dX4_setDates_31 (kX ?_)
      refine g_if_ne (tgt := 40) hC dX4_setDates_34 (by decide) (fun c34 => ?_) (fun c34 => ?_)
      · refine g_aload hC dX4_setDates_40 rfl ?_
        refine g_get hC rfl (cS hj1 hj50) rfl kl_X2 4 (by decide) kf_X4_122 rfl rfl dX4_setDates_42 ?_
        refine g_iload_n hC dX4_setDates_45 rfl ?_
        refine g_icmp_ne (tgt := 60) hC dX4_setDates_46 (by decide) (fun c46 => ?_) (fun c46 => ?_)
        · refine g_aload hC dX4_setDates_60 rfl ?_
          refine g_iload_n hC dX4_setDates_62 rfl ?_
          refine g_put (ty := .int) hC rfl (cS hj1 hj50) rfl kl_X2 4 (by decide) kf_X4_122 rfl tyX2 tyX2_ok nmX2 rfl (by decide +kernel) rfl rfl (Nat.le_of_ble_eq_true rfl) dX4_setDates_63 (fun en13 hen13 => ?_)
          replace hen13 := cPS4 hj1 hj50 hen13
          obtain ⟨K13, hK13, hen13⟩ := hen13
          subst hen13
          refine g_aload hC dX4_setDates_66 rfl ?_
          refine g_iload_n hC dX4_setDates_68 rfl ?_
          refine g_put (ty := .int) hC rfl (cS hj1 hj50) rfl kl_X2 5 (by decide) kf_X4_125 rfl tyX2 tyX2_ok nmX2 rfl (by decide +kernel) rfl rfl (Nat.le_of_ble_eq_true rfl) dX4_setDates_69 (fun en14 hen14 => ?_)
          replace hen14 := cPS5 hj1 hj50 hen14
          obtain ⟨K14, hK14, hen14⟩ := hen14
          subst hen14
          refine g_iconst (v := 1) hC dX4_setDates_72 (by decide) ?_
          refine g_ireti hR dX4_setDates_73 rfl ?_
          clear hR hC hI
          subst hK14
          subst hK13
          have hsp : sp_setDates M (nI j) a b = (1, up2 (up2 M 12 j a) 13 j b) := by grind [sp_setDates, wi]
          rw [hsp]
          exact pKl_i rfl (Sm_dt hs) (hc.keep hM rfl rfl (fun j i _ _ => cg_up (cg_up cg_rf (Or.inr (Or.inl rfl))) (Or.inr (Or.inr (Or.inl rfl)))))
        · refine g_aload hC dX4_setDates_49 rfl ?_
          refine g_get hC rfl (cS hj1 hj50) rfl kl_X2 5 (by decide) kf_X4_125 rfl rfl dX4_setDates_51 ?_
          refine g_iload_n hC dX4_setDates_54 rfl ?_
          refine g_icmp_ne (tgt := 60) hC dX4_setDates_55 (by decide) (fun c55 => ?_) (fun c55 => ?_)
          · refine g_aload hC dX4_setDates_60 rfl ?_
            refine g_iload_n hC dX4_setDates_62 rfl ?_
            refine g_put (ty := .int) hC rfl (cS hj1 hj50) rfl kl_X2 4 (by decide) kf_X4_122 rfl tyX2 tyX2_ok nmX2 rfl (by decide +kernel) rfl rfl (Nat.le_of_ble_eq_true rfl) dX4_setDates_63 (fun en15 hen15 => ?_)
            replace hen15 := cPS4 hj1 hj50 hen15
            obtain ⟨K15, hK15, hen15⟩ := hen15
            subst hen15
            refine g_aload hC dX4_setDates_66 rfl ?_
            refine g_iload_n hC dX4_setDates_68 rfl ?_
            refine g_put (ty := .int) hC rfl (cS hj1 hj50) rfl kl_X2 5 (by decide) kf_X4_125 rfl tyX2 tyX2_ok nmX2 rfl (by decide +kernel) rfl rfl (Nat.le_of_ble_eq_true rfl) dX4_setDates_69 (fun en16 hen16 => ?_)
            replace hen16 := cPS5 hj1 hj50 hen16
            obtain ⟨K16, hK16, hen16⟩ := hen16
            subst hen16
            refine g_iconst (v := 1) hC dX4_setDates_72 (by decide) ?_
            refine g_ireti hR dX4_setDates_73 rfl ?_
            clear hR hC hI
            subst hK16
            subst hK15
            have hsp : sp_setDates M (nI j) a b = (1, up2 (up2 M 12 j a) 13 j b) := by grind [sp_setDates, wi]
            rw [hsp]
            exact pKl_i rfl (Sm_dt hs) (hc.keep hM rfl rfl (fun j i _ _ => cg_up (cg_up cg_rf (Or.inr (Or.inl rfl))) (Or.inr (Or.inr (Or.inl rfl)))))
          · refine g_iconst (v := 0) hC dX4_setDates_58 (by decide) ?_
            refine g_ireti hR dX4_setDates_59 rfl ?_
            clear hR hC hI
            have hab : a = M 12 j ∧ b = M 13 j := by grind
            have hsp : sp_setDates M (nI j) a b = (0, up2 (up2 M 12 j a) 13 j b) := by grind [sp_setDates, wi]
            have hsm : up2 (up2 M 12 j a) 13 j b = M := by
              rw [up2_same (v := a) hab.1, up2_same hab.2]
            rw [hsp, hsm]
            exact pKl_i rfl hs hc
      · refine g_bipush (v := (-3)) hC dX4_setDates_37 (by decide) ?_
        refine g_ireti hR dX4_setDates_39 rfl ?_
        clear hR hC hI
        have hsp : sp_setDates M (nI j) a b = (-3, M) := by grind [sp_setDates, wi]
        rw [hsp]
        exact pKl_i rfl hs hc
  · have hpn : ¬ (0 ≤ p ∧ p < nI (L 2 1)) := fun z => hp ⟨z.1, by have h2 := z.2; rw [hs.2.1, ← (Iv_nS hM).2] at h2; have := hM.2.2.2.2.1; grind⟩
    refine g_aload_n hC dX4_setDates_0 rfl ?_
    refine g_iload_n hC dX4_setDates_1 rfl ?_
    refine g_callV hC v_X4_sheetOrNull km_X4_118 (c_X4_sheetOrNull_n l X b0 lo L _ _ e0 p hpn) rfl cO rfl rfl rfl rfl (Nat.le_of_ble_eq_true rfl) ⟨by decide, by decide⟩ ⟨by decide, by decide⟩ dX4_setDates_2 (kX ?_)
    refine g_astoreN hC dX4_setDates_5 (by decide) ?_
    refine g_aloadN hC dX4_setDates_7 rfl ?_
    refine g_ifnonnullN hC dX4_setDates_9 ?_
    refine g_bipush (v := (-2)) hC dX4_setDates_12 (by decide) ?_
    refine g_ireti hR dX4_setDates_14 rfl ?_
    clear hR hC hI
    have hsp : sp_setDates M p a b = (-2, M) := by grind [sp_setDates, wi]
    rw [hsp]
    exact pKl_i rfl hs hc
