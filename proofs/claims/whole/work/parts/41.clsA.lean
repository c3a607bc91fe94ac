/-! ===== the class: checks, and what changes it ===== -/
theorem pXv {v : Value} {lo : gL} {en : gE} : pX v lo en (some v) lo en := ⟨rfl, rfl, rfl⟩

set_option maxHeartbeats 4000000 in
set_option maxRecDepth 100000 in
theorem c_X4_mouldOrNull_s (l : Launch) (X : gX) (b0 : Nat) (lo : gL) (L : Nat → Nat → Nat) (K C : rM3) (e0 : gE) (i : Nat) (hi : i < L 2 0) (hn : L 2 0 ≤ 10) : Ct l X b0 lo (enC X lo L K C e0) yX4_mouldOrNull cX4_mouldOrNull 2 (some (FieldType.object "MouldMatcher$Mould")) (rM 0 0) [.ref (lo 0), .int (nI i)] (pX (.ref (lo (100 + 4 * i))) lo (enC X lo L K C e0)) := by
  refine gMet (by decide) (Nat.le_of_ble_eq_true rfl) rfl ?_
  intro Z hC hI hR
  refine g_iload_n hC dX4_mouldOrNull_0 rfl ?_
  refine g_if_lt (tgt := 21) hC dX4_mouldOrNull_1 (by decide) (fun c1 => absurd c1 (nI_pos (by omega))) (fun c1 => ?_)
  refine g_iload_n hC dX4_mouldOrNull_4 rfl ?_
  refine g_aload_n hC dX4_mouldOrNull_5 rfl ?_
  refine g_get hC rfl cO rfl kl_X4 5 (by decide) kf_X4_29 rfl rfl dX4_mouldOrNull_6 ?_
  refine g_icmp_ge (tgt := 21) hC dX4_mouldOrNull_9 (by decide) (fun c9 => absurd c9 (nI_ge hi (by omega))) (fun c9 => ?_)
  refine g_aload_n hC dX4_mouldOrNull_12 rfl ?_
  refine g_get hC rfl cO rfl kl_X4 4 (by decide) kf_X4_25 rfl rfl dX4_mouldOrNull_13 ?_
  refine g_iload_n hC dX4_mouldOrNull_16 rfl ?_
  refine g_aald (t0 := 1) hC rfl cA2 rfl i rfl (by omega) (by decide) (if_pos hi) dX4_mouldOrNull_17 ?_
  refine g_goto (tgt := 22) hC dX4_mouldOrNull_18 (by decide) ?_
  refine g_areto hR (Or.inr ⟨_, rfl⟩) dX4_mouldOrNull_22 ?_
  clear hR hC hI
  exact pXv

set_option maxHeartbeats 4000000 in
set_option maxRecDepth 100000 in
theorem c_X4_mouldOrNull_n (l : Launch) (X : gX) (b0 : Nat) (lo : gL) (L : Nat → Nat → Nat) (K C : rM3) (e0 : gE) (p : Int32) (hp : ¬ (0 ≤ p ∧ p < nI (L 2 0))) : Ct l X b0 lo (enC X lo L K C e0) yX4_mouldOrNull cX4_mouldOrNull 2 (some (FieldType.object "MouldMatcher$Mould")) (rM 0 0) [.ref (lo 0), .int p] (pX .null lo (enC X lo L K C e0)) := by
  refine gMet (by decide) (Nat.le_of_ble_eq_true rfl) rfl ?_
  intro Z hC hI hR
  refine g_iload_n hC dX4_mouldOrNull_0 rfl ?_
  refine g_if_lt (tgt := 21) hC dX4_mouldOrNull_1 (by decide) (fun c1 => ?_) (fun c1 => ?_)
  · refine g_null hC dX4_mouldOrNull_21 ?_
    refine g_areto hR (Or.inl rfl) dX4_mouldOrNull_22 ?_
    clear hR hC hI
    exact pXv
  · refine g_iload_n hC dX4_mouldOrNull_4 rfl ?_
    refine g_aload_n hC dX4_mouldOrNull_5 rfl ?_
    refine g_get hC rfl cO rfl kl_X4 5 (by decide) kf_X4_29 rfl rfl dX4_mouldOrNull_6 ?_
    refine g_icmp_ge (tgt := 21) hC dX4_mouldOrNull_9 (by decide) (fun c9 => ?_) (fun c9 => ?_)
    · refine g_null hC dX4_mouldOrNull_21 ?_
      refine g_areto hR (Or.inl rfl) dX4_mouldOrNull_22 ?_
      clear hR hC hI
      exact pXv
    · exact absurd ⟨Int32.not_lt.mp c1, Int32.not_le.mp c9⟩ hp

set_option maxHeartbeats 4000000 in
set_option maxRecDepth 100000 in
theorem c_X4_sheetOrNull_s (l : Launch) (X : gX) (b0 : Nat) (lo : gL) (L : Nat → Nat → Nat) (K C : rM3) (e0 : gE) (i : Nat) (hi : i < L 2 1) (hn : L 2 1 ≤ 30) : Ct l X b0 lo (enC X lo L K C e0) yX4_sheetOrNull cX4_sheetOrNull 2 (some (FieldType.object "MouldMatcher$Sheet")) (rM 0 0) [.ref (lo 0), .int (nI i)] (pX (.ref (lo (200 + 16 * i))) lo (enC X lo L K C e0)) := by
  refine gMet (by decide) (Nat.le_of_ble_eq_true rfl) rfl ?_
  intro Z hC hI hR
  refine g_iload_n hC dX4_sheetOrNull_0 rfl ?_
  refine g_if_lt (tgt := 21) hC dX4_sheetOrNull_1 (by decide) (fun c1 => absurd c1 (nI_pos (by omega))) (fun c1 => ?_)
  refine g_iload_n hC dX4_sheetOrNull_4 rfl ?_
  refine g_aload_n hC dX4_sheetOrNull_5 rfl ?_
  refine g_get hC rfl cO rfl kl_X4 7 (by decide) kf_X4_38 rfl rfl dX4_sheetOrNull_6 ?_
  refine g_icmp_ge (tgt := 21) hC dX4_sheetOrNull_9 (by decide) (fun c9 => absurd c9 (nI_ge hi (by omega))) (fun c9 => ?_)
  refine g_aload_n hC dX4_sheetOrNull_12 rfl ?_
  refine g_get hC rfl cO rfl kl_X4 6 (by decide) kf_X4_34 rfl rfl dX4_sheetOrNull_13 ?_
  refine g_iload_n hC dX4_sheetOrNull_16 rfl ?_
  refine g_aald (t0 := 2) hC rfl cA3 rfl i rfl (by omega) (by decide) (if_pos hi) dX4_sheetOrNull_17 ?_
  refine g_goto (tgt := 22) hC dX4_sheetOrNull_18 (by decide) ?_
  refine g_areto hR (Or.inr ⟨_, rfl⟩) dX4_sheetOrNull_22 ?_
  clear hR hC hI
  exact pXv

set_option maxHeartbeats 4000000 in
set_option maxRecDepth 100000 in
theorem c_X4_sheetOrNull_n (l : Launch) (X : gX) (b0 : Nat) (lo : gL) (L : Nat → Nat → Nat) (K C : rM3) (e0 : gE) (p : Int32) (hp : ¬ (0 ≤ p ∧ p < nI (L 2 1))) : Ct l X b0 lo (enC X lo L K C e0) yX4_sheetOrNull cX4_sheetOrNull 2 (some (FieldType.object "MouldMatcher$Sheet")) (rM 0 0) [.ref (lo 0), .int p] (pX .null lo (enC X lo L K C e0)) := by
  refine gMet (by decide) (Nat.le_of_ble_eq_true rfl) rfl ?_
  intro Z hC hI hR
  refine g_iload_n hC dX4_sheetOrNull_0 rfl ?_
  refine g_if_lt (tgt := 21) hC dX4_sheetOrNull_1 (by decide) (fun c1 => ?_) (fun c1 => ?_)
  · refine g_null hC dX4_sheetOrNull_21 ?_
    refine g_areto hR (Or.inl rfl) dX4_sheetOrNull_22 ?_
    clear hR hC hI
    exact pXv
  · refine g_iload_n hC dX4_sheetOrNull_4 rfl ?_
    refine g_aload_n hC dX4_sheetOrNull_5 rfl ?_
    refine g_get hC rfl cO rfl kl_X4 7 (by decide) kf_X4_38 rfl rfl dX4_sheetOrNull_6 ?_
    refine g_icmp_ge (tgt := 21) hC dX4_sheetOrNull_9 (by decide) (fun c9 => ?_) (fun c9 => ?_)
    · refine g_null hC dX4_sheetOrNull_21 ?_
      refine g_areto hR (Or.inl rfl) dX4_sheetOrNull_22 ?_
      clear hR hC hI
      exact pXv
    · exact absurd ⟨Int32.not_lt.mp c1, Int32.not_le.mp c9⟩ hp

set_option maxHeartbeats 4000000 in
set_option maxRecDepth 100000 in
theorem c_X4_isMarkInRow (l : Launch) (X : gX) (b0 : Nat) (lo : gL) (L : Nat → Nat → Nat) (K C : rM3) (e0 : gE) (M : rM2) (hM : Iv M) (hs : Sm L K M) (iv x y : Int32) : Ct l X b0 lo (enC X lo L K C e0) yX4_isMarkInRow cX4_isMarkInRow 4 (some FieldType.boolean) (rM 2 44) [.ref (lo 0), .int iv, .int x, .int y] (pX (.int (if isMk M iv x y then 1 else 0)) lo (enC X lo L K C e0)) := by
  refine gMet (by decide) (Nat.le_of_ble_eq_true rfl) rfl ?_
  intro Z hC hI hR
  obtain ⟨hs20, hs21, hs1, hs2, hs3, hsr, -⟩ := hs
  obtain ⟨hr0, hr1⟩ := hM.1
  have hs0 : K 1 0 = M 0 := hsr
  refine g_iload_n hC dX4_isMarkInRow_0 rfl ?_
  refine g_if_lt (tgt := 30) hC dX4_isMarkInRow_1 (by decide) (fun c1 => ?_) (fun c1 => ?_)
  · refine g_iconst (v := 0) hC dX4_isMarkInRow_30 (by decide) ?_
    refine g_ireti hR dX4_isMarkInRow_31 (by decide) ?_
    clear hR hC hI
    refine pXi ?_
    have h0 := congrFun hs0 (nt iv)
    grind [wi]
  · refine g_iload_n hC dX4_isMarkInRow_4 rfl ?_
    refine g_aload_n hC dX4_isMarkInRow_5 rfl ?_
    refine g_get hC rfl cO rfl kl_X4 1 (by decide) kf_X4_13 rfl rfl dX4_isMarkInRow_6 ?_
    refine g_icmp_ge (tgt := 30) hC dX4_isMarkInRow_9 (by decide) (fun c9 => ?_) (fun c9 => ?_)
    · refine g_iconst (v := 0) hC dX4_isMarkInRow_30 (by decide) ?_
      refine g_ireti hR dX4_isMarkInRow_31 (by decide) ?_
      clear hR hC hI
      refine pXi ?_
      have h0 := congrFun hs0 (nt iv)
      grind [wi]
    · refine g_aload_n hC dX4_isMarkInRow_12 rfl ?_
      refine g_get hC rfl cO rfl kl_X4 0 (by decide) kf_X4_9 rfl rfl dX4_isMarkInRow_13 ?_
      refine g_iload_n hC dX4_isMarkInRow_16 rfl ?_
      refine g_iald hC rfl cA1 (nt iv) (nI_nt (Int32.not_lt.mp c1)).symm (nt_lt (n := 10) (show iv < 10 by grind) (Int32.not_lt.mp c1) (by decide)) (by decide) dX4_isMarkInRow_17 ?_
      refine g_iload_n hC dX4_isMarkInRow_18 rfl ?_
      refine g_iload_n hC dX4_isMarkInRow_19 rfl ?_
      refine g_callS hC v_X4_isPosition km_X4_85 (c_X4_isPosition l X b0 lo _ _ _ _) rfl rfl (Nat.le_of_ble_eq_true rfl) ⟨by decide, by decide⟩ ⟨by decide, by decide⟩ dX4_isMarkInRow_20 (kX ?_)
      refine g_if_eq (tgt := 30) hC dX4_isMarkInRow_23 (by decide) (fun c23 => ?_) (fun c23 => ?_)
      · refine g_iconst (v := 0) hC dX4_isMarkInRow_30 (by decide) ?_
        refine g_ireti hR dX4_isMarkInRow_31 (by decide) ?_
        clear hR hC hI
        refine pXi ?_
        have h0 := congrFun hs0 (nt iv)
        grind [wi]
      · refine g_iconst (v := 1) hC dX4_isMarkInRow_26 (by decide) ?_
        refine g_goto (tgt := 31) hC dX4_isMarkInRow_27 (by decide) ?_
        refine g_ireti hR dX4_isMarkInRow_31 (by decide) ?_
        clear hR hC hI
        refine pXi ?_
        have h0 := congrFun hs0 (nt iv)
        grind [wi]

theorem Sm_row {L : Nat → Nat → Nat} {K : rM3} {M : rM2} {v : Int32} (h : Sm L K M) : Sm L (up3 K 0 1 0 v) (up2 M 20 1 v) := by
  obtain ⟨h1, h2, h3, h4, h5, h6, h7, h8⟩ := h
  refine ⟨h1, h2, by simp [up3, up2], by simp [up3, up2]; exact h4, by simp [up3, up2]; exact h5, ?_, ?_, ?_⟩
  · rw [up3_row (by decide), up2_row (by decide)]; exact h6
  · intro i hi
    simp +decide only [up3_row, up2_row]
    exact h7 i hi
  · intro j hj
    simp +decide only [up3_row, up2_row]
    exact h8 j hj
theorem Sm_add {L : Nat → Nat → Nat} {K : rM3} {M : rM2} {k : Nat} {v : Int32} (h : Sm L K M) : Sm L (up3 K 1 0 k v) (up2 M 0 k v) := by
  obtain ⟨h1, h2, h3, h4, h5, h6, h7, h8⟩ := h
  refine ⟨h1, h2, h3, h4, h5, ?_, ?_, ?_⟩
  · rw [up3_self, up2_self, h6]
  · intro i hi
    simp +decide only [up3_row, up2_row]
    exact h7 i hi
  · intro j hj
    simp +decide only [up3_row, up2_row]
    exact h8 j hj
theorem cg_rf {M : rM2} {j i : Nat} : cg M M j i := ⟨rfl, fun _ _ => rfl, rfl, rfl, rfl, rfl, fun _ _ => rfl, rfl, rfl, fun _ _ => ⟨rfl, rfl⟩, rfl, rfl⟩
/-- a write outside what the placements depend on -/
theorem cg_up {M M0 : rM2} {a x j i : Nat} {v : Int32} (h : cg M0 M j i) (ha : a = 0 ∨ a = 12 ∨ a = 13 ∨ (a = 20 ∧ x ≠ 2 ∧ x ≠ 3)) : cg M0 (up2 M a x v) j i := by
  have r : ∀ b, b ≠ 0 → b ≠ 12 → b ≠ 13 → b ≠ 20 → up2 M a x v b = M b := fun b h1 h2 h3 h4 => up2_row (by omega)
  have r20 : ∀ y, y = 2 ∨ y = 3 → up2 M a x v 20 y = M 20 y := fun y hy => by
    unfold up2
    rw [if_neg]
    omega
  unfold cg
  rw [r 7 (by decide) (by decide) (by decide) (by decide), r 8 (by decide) (by decide) (by decide) (by decide), r 9 (by decide) (by decide) (by decide) (by decide), r 10 (by decide) (by decide) (by decide) (by decide), r 11 (by decide) (by decide) (by decide) (by decide), r 1 (by decide) (by decide) (by decide) (by decide), r 2 (by decide) (by decide) (by decide) (by decide), r 3 (by decide) (by decide) (by decide) (by decide), r 4 (by decide) (by decide) (by decide) (by decide), r 5 (by decide) (by decide) (by decide) (by decide), r 6 (by decide) (by decide) (by decide) (by decide), r20 2 (Or.inl rfl), r20 3 (Or.inr rfl)]
  exact h

set_option maxHeartbeats 4000000 in
set_option maxRecDepth 100000 in
theorem c_X4_clearRow (l : Launch) (X : gX) (b0 : Nat) (lo : gL) (L : Nat → Nat → Nat) (K C : rM3) (e0 : gE) (M : rM2) (hM : Iv M) (hs : Sm L K M) (hc : Sc C M)  : Ct l X b0 lo (enC X lo L K C e0) yX4_clearRow cX4_clearRow 2 (some FieldType.int) (rM 0 0) [.ref (lo 0)] (pKl X lo e0 (sp_clearRow M)) := by
  refine gMet (by decide) (Nat.le_of_ble_eq_true rfl) rfl ?_
  intro Z hC hI hR
  refine g_aload_n hC dX4_clearRow_0 rfl ?_
  refine g_get hC rfl cO rfl kl_X4 1 (by decide) kf_X4_13 rfl rfl dX4_clearRow_1 ?_
  refine g_istore_n hC dX4_clearRow_4 (by decide) ?_
  refine g_aload_n hC dX4_clearRow_5 rfl ?_
  refine g_iconst (v := 0) hC dX4_clearRow_6 (by decide) ?_
  refine g_put (ty := .int) hC rfl cO rfl kl_X4 1 (by decide) kf_X4_13 rfl tyX4 tyX4_ok nmX4 rfl (by decide +kernel) rfl rfl (Nat.le_of_ble_eq_true rfl) dX4_clearRow_7 (fun en1 hen1 => ?_)
  replace hen1 := cP0_1 hen1
  obtain ⟨K1, hK1, hen1⟩ := hen1
  subst hen1
  refine g_iload_n hC dX4_clearRow_10 rfl ?_
  refine g_ireti hR dX4_clearRow_11 rfl ?_
  clear hR hC hI
  subst hK1
  refine pKl_i ?_ (Sm_row hs) (hc.keep hM rfl rfl (fun j i _ _ => cg_up cg_rf (by decide)))
  exact hs.2.2.1

set_option maxHeartbeats 4000000 in
set_option maxRecDepth 100000 in
theorem c_X4_addToRow (l : Launch) (X : gX) (b0 : Nat) (lo : gL) (L : Nat → Nat → Nat) (K C : rM3) (e0 : gE) (M : rM2) (hM : Iv M) (hs : Sm L K M) (hc : Sc C M) (v : Int32) : Ct l X b0 lo (enC X lo L K C e0) yX4_addToRow cX4_addToRow 2 (some FieldType.int) (rM 1 22) [.ref (lo 0), .int v] (pKl X lo e0 (sp_addToRow M v)) := by
  refine gMet (by decide) (Nat.le_of_ble_eq_true rfl) rfl ?_
  intro Z hC hI hR
  have h1 := hs.2.2.1
  obtain ⟨⟨hr0, hr1⟩, -⟩ := id hM
  refine g_iload_n hC dX4_addToRow_0 rfl ?_
  refine g_bipush (v := 100) hC dX4_addToRow_1 (by decide) ?_
  refine g_sipush (v := 450) hC dX4_addToRow_3 (by decide) ?_
  refine g_callS hC v_X4_isWithin km_X4_54 (c_X4_isWithin l X b0 lo _ _ _ _) rfl rfl (Nat.le_of_ble_eq_true rfl) ⟨by decide, by decide⟩ ⟨by decide, by decide⟩ dX4_addToRow_6 (kX ?_)
  refine g_if_ne (tgt := 15) hC dX4_addToRow_9 (by decide) (fun c9 => ?_) (fun c9 => ?_)
  · refine g_aload_n hC dX4_addToRow_15 rfl ?_
    refine g_get hC rfl cO rfl kl_X4 1 (by decide) kf_X4_13 rfl rfl dX4_addToRow_16 ?_
    refine g_bipush (v := 10) hC dX4_addToRow_19 (by decide) ?_
    refine g_icmp_lt (tgt := 27) hC dX4_addToRow_21 (by decide) (fun c21 => ?_) (fun c21 => ?_)
    · refine g_aload_n hC dX4_addToRow_27 rfl ?_
      refine g_get hC rfl cO rfl kl_X4 0 (by decide) kf_X4_9 rfl rfl dX4_addToRow_28 ?_
      refine g_aload_n hC dX4_addToRow_31 rfl ?_
      refine g_get hC rfl cO rfl kl_X4 1 (by decide) kf_X4_13 rfl rfl dX4_addToRow_32 ?_
      refine g_iload_n hC dX4_addToRow_35 rfl ?_
      refine g_iast hC rfl cA1 (nt (K 0 1 0)) (nI_nt (by rw [h1]; exact hr0)).symm (nt_lt (n := 10) (show K 0 1 0 < 10 from c21) (by rw [h1]; exact hr0) (by decide)) (by decide) dX4_addToRow_36 (fun en2 hen2 => ?_)
      replace hen2 := cQ1 hen2
      obtain ⟨K2, hK2, hen2⟩ := hen2
      subst hen2
      refine g_aload_n hC dX4_addToRow_37 rfl ?_
      refine g_dup hC dX4_addToRow_38 rfl ?_
      refine g_get hC rfl cO rfl kl_X4 1 (by decide) kf_X4_13 rfl rfl dX4_addToRow_39 ?_
      refine g_iconst (v := 1) hC dX4_addToRow_42 (by decide) ?_
      refine g_iadd hC dX4_addToRow_43 ?_
      refine g_put (ty := .int) hC rfl cO rfl kl_X4 1 (by decide) kf_X4_13 rfl tyX4 tyX4_ok nmX4 rfl (by decide +kernel) rfl rfl (Nat.le_of_ble_eq_true rfl) dX4_addToRow_44 (fun en3 hen3 => ?_)
      replace hen3 := cP0_1 hen3
      obtain ⟨K3, hK3, hen3⟩ := hen3
      subst hen3
      refine g_aload_n hC dX4_addToRow_47 rfl ?_
      refine g_get hC rfl cO rfl kl_X4 1 (by decide) kf_X4_13 rfl rfl dX4_addToRow_48 ?_
      refine g_ireti hR dX4_addToRow_51 rfl ?_
      clear hR hC hI
      subst hK3
      subst hK2
      have hsp : sp_addToRow M v = (M 20 1 + 1, up2 (up2 M 0 (nt (M 20 1)) v) 20 1 (M 20 1 + 1)) := by grind [sp_addToRow, wi]
      rw [hsp]
      have e1 : up3 K 1 0 (nt (K 0 1 0)) v 0 1 0 = M 20 1 := by simp +decide only [up3_row]; exact h1
      refine pKl_i ?_ ?_ (hc.keep hM rfl rfl (fun j i _ _ => cg_up (cg_up cg_rf (Or.inl rfl)) (by decide)))
      · show up3 _ 0 1 0 _ 0 1 0 = _
        rw [up3_self, pk_us, e1]
      · rw [e1, h1]
        exact Sm_row (Sm_add hs)
    · refine g_bipush (v := (-5)) hC dX4_addToRow_24 (by decide) ?_
      refine g_ireti hR dX4_addToRow_26 rfl ?_
      clear hR hC hI
      have hsp : sp_addToRow M v = (-5, M) := by grind [sp_addToRow, wi]
      rw [hsp]
      exact pKl_i rfl hs hc
  · refine g_bipush (v := (-3)) hC dX4_addToRow_12 (by decide) ?_
    refine g_ireti hR dX4_addToRow_14 rfl ?_
    clear hR hC hI
    have hsp : sp_addToRow M v = (-3, M) := by grind [sp_addToRow, wi]
    rw [hsp]
    exact pKl_i rfl hs hc

set_option maxHeartbeats 4000000 in
set_option maxRecDepth 100000 in
theorem c_X4_count (l : Launch) (X : gX) (b0 : Nat) (lo : gL) (L : Nat → Nat → Nat) (K C : rM3) (e0 : gE) (M : rM2) (hM : Iv M) (hs : Sm L K M) (hc : Sc C M) (w : Int32) : Ct l X b0 lo (enC X lo L K C e0) yX4_count cX4_count 2 (some FieldType.int) (rM 0 0) [.ref (lo 0), .int w] (pKl X lo e0 (sp_count M w)) := by
  refine gMet (by decide) (Nat.le_of_ble_eq_true rfl) rfl ?_
  intro Z hC hI hR
  have h1 := hs.2.2.1
  have hn0 : nI (L 2 0) = M 20 4 := by rw [hs.1]; exact (Iv_nM hM).2.symm
  have hn1 : nI (L 2 1) = M 20 11 := by rw [hs.2.1]; exact (Iv_nS hM).2.symm
  have hw : w = 0 ∨ w = 1 ∨ w = 2 ∨ (¬ w = 0 ∧ ¬ w = 1 ∧ ¬ w = 2) := by grind
  refine g_iload_n hC dX4_count_0 rfl ?_
  rcases hw with rfl | rfl | rfl | hw
  · refine g_tableIn (off := 27) (tgt := 28) hC dX4_count_1 (by decide) (by decide) rfl (by decide) ?_
    refine g_aload_n hC dX4_count_28 rfl ?_
    refine g_get hC rfl cO rfl kl_X4 5 (by decide) kf_X4_29 rfl rfl dX4_count_29 ?_
    refine g_ireti hR dX4_count_32 rfl ?_
    clear hR hC hI
    refine pKl_i ?_ hs hc
    grind [sp_count]
  · refine g_tableIn (off := 32) (tgt := 33) hC dX4_count_1 (by decide) (by decide) rfl (by decide) ?_
    refine g_aload_n hC dX4_count_33 rfl ?_
    refine g_get hC rfl cO rfl kl_X4 7 (by decide) kf_X4_38 rfl rfl dX4_count_34 ?_
    refine g_ireti hR dX4_count_37 rfl ?_
    clear hR hC hI
    refine pKl_i ?_ hs hc
    grind [sp_count]
  · refine g_tableIn (off := 37) (tgt := 38) hC dX4_count_1 (by decide) (by decide) rfl (by decide) ?_
    refine g_aload_n hC dX4_count_38 rfl ?_
    refine g_get hC rfl cO rfl kl_X4 1 (by decide) kf_X4_13 rfl rfl dX4_count_39 ?_
    refine g_ireti hR dX4_count_42 rfl ?_
    clear hR hC hI
    refine pKl_i ?_ hs hc
    grind [sp_count]
  · refine g_tableOut (tgt := 43) hC dX4_count_1 (by have a0 := lv_neT (a := 0) hw.1 rfl; have a1 := lv_neT (a := 1) hw.2.1 rfl; have a2 := lv_neT (a := 2) hw.2.2 rfl; omega) (by decide) ?_
    refine g_bipush (v := (-3)) hC dX4_count_43 (by decide) ?_
    refine g_ireti hR dX4_count_45 rfl ?_
    clear hR hC hI
    refine pKl_i ?_ hs hc
    grind [sp_count]
