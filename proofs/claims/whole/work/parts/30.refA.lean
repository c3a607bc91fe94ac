/-! ===== the reference: what changes it, and its checks ===== -/
/-- a public call of the reference: its answer and what lasts, by the specification -/
def pRf (X : gX) (lo : gL) (e0 : gE) (a : gA) : gP := pI lo (fun r en' => r = a.1 ∧ ∃ T' : rM2, en' = enR X lo a.2 T' e0)
theorem pRf_i {X : gX} {lo : gL} {e0 : gE} {a : gA} {r : Int32} {M' T' : rM2} (h1 : r = a.1) (h2 : M' = a.2) : pRf X lo e0 a (some (.int r)) lo (enR X lo M' T' e0) := ⟨rfl, r, rfl, h1, T', by rw [h2]⟩
theorem ix10 {a b : Nat} {x y : Int32} (h1 : x = nI a) (h2 : y = nI b) : 10 * x + y = nI (10 * a + b) := by rw [h1, h2]; exact nI_ma 10 a b
theorem ix6 {a b : Nat} {x y : Int32} (h1 : x = nI a) (h2 : y = nI b) : 6 * x + y = nI (6 * a + b) := by rw [h1, h2]; exact nI_ma 6 a b
theorem ix6' {a : Nat} {x : Int32} (h1 : x = nI a) : 6 * x = nI (6 * a) := by rw [h1]; exact nI_m 6 a
theorem wi_ne {v a b : Int32} (h : ¬ wi v a b = 0) : a ≤ v ∧ v ≤ b := by unfold wi at h; split at h <;> first | assumption | exact absurd rfl h
theorem wi_eq {v a b : Int32} (h : wi v a b = 0) : ¬ (a ≤ v ∧ v ≤ b) := by unfold wi at h; split at h <;> first | assumption | exact absurd h (by decide)
theorem ite_ne {p : Prop} [Decidable p] (h : ¬ (if p then (0 : Int32) else 1) = 0) : ¬ p := by split at h <;> first | assumption | exact absurd rfl h
theorem ite_eq {p : Prop} [Decidable p] (h : (if p then (0 : Int32) else 1) = 0) : p := by split at h <;> first | assumption | exact absurd h (by decide)
theorem ito_ne {p : Prop} [Decidable p] (h : ¬ (if p then (1 : Int32) else 0) = 0) : p := by split at h <;> first | assumption | exact absurd rfl h
theorem ito_eq {p : Prop} [Decidable p] (h : (if p then (1 : Int32) else 0) = 0) : ¬ p := by split at h <;> first | assumption | exact absurd h (by decide)
/-- a mould's number that is in range -/
theorem moOf {M : rM2} {p : Int32} (hM : Iv M) (h : isMo M p) : ∃ i : Nat, i < 10 ∧ p = nI i ∧ i < nMo M ∧ M 20 4 = nI (nMo M) ∧ nMo M ≤ 10 := by
  obtain ⟨-, -, -, h4, -⟩ := hM
  obtain ⟨n, hn, en⟩ := natOf (n := 10) h4 rfl (by decide)
  have h5 : nMo M = n := by unfold nMo; rw [en]; exact nt_nI (by omega)
  have h6 : nt p < n := nt_lt (show p < nI n by rw [← en]; grind) h.1 (by omega)
  exact ⟨nt p, by omega, (nI_nt h.1).symm, by omega, by rw [h5]; exact en, by omega⟩
theorem shOf {M : rM2} {p : Int32} (hM : Iv M) (h : isSh M p) : ∃ j : Nat, j < 30 ∧ p = nI j ∧ j < nSh M ∧ M 20 11 = nI (nSh M) ∧ nSh M ≤ 30 := by
  obtain ⟨-, -, -, -, h4, -⟩ := hM
  obtain ⟨n, hn, en⟩ := natOf (n := 30) h4 rfl (by decide)
  have h5 : nSh M = n := by unfold nSh; rw [en]; exact nt_nI (by omega)
  have h6 : nt p < n := nt_lt (show p < nI n by rw [← en]; grind) h.1 (by omega)
  exact ⟨nt p, by omega, (nI_nt h.1).symm, by omega, by rw [h5]; exact en, by omega⟩
theorem cp2_succ {M : rM2} {a o k : Nat} (ha : a ≠ 0) : up2 (cp2 M a o k) a (o + k) (cp2 M a o k 0 k) = cp2 M a o (k + 1) := by
  funext b j
  unfold up2 cp2
  by_cases h1 : b = a
  · subst h1
    by_cases h2 : j = o + k
    · subst h2
      have h3 : ¬ (0 = b) := fun z => ha z.symm
      simp [h3]
    · have h4 : (o ≤ j ∧ j < o + (k + 1)) ↔ (o ≤ j ∧ j < o + k) := by omega
      simp [h2, h4]
  · simp [h1]
theorem cp2_0 {M : rM2} {a o : Nat} : cp2 M a o 0 = M := by
  funext b j
  unfold cp2
  rw [if_neg]
  omega

set_option maxHeartbeats 4000000 in
set_option maxRecDepth 100000 in
theorem c_X5_clearRow (l : Launch) (X : gX) (b0 : Nat) (lo : gL) (M T : rM2) (e0 : gE)  : Ct l X b0 lo (enR X lo M T e0) yX5_clearRow cX5_clearRow 2 (some FieldType.int) (rM 0 0) [.ref (lo 1000)] (pRf X lo e0 (sp_clearRow M)) := by
  refine gMet (by decide) (Nat.le_of_ble_eq_true rfl) rfl ?_
  intro Z hC hI hR
  refine g_aload_n hC dX5_clearRow_0 rfl ?_
  refine g_get hC rfl rO rfl kl_X5 1 (by decide) kf_X5_68 rfl rfl dX5_clearRow_1 ?_
  refine g_istore_n hC dX5_clearRow_4 (by decide) ?_
  refine g_aload_n hC dX5_clearRow_5 rfl ?_
  refine g_iconst (v := 0) hC dX5_clearRow_6 (by decide) ?_
  refine g_put (ty := .int) hC rfl rO rfl kl_X5 1 (by decide) kf_X5_68 rfl tyX5 tyX5_ok nmX5 rfl (by decide +kernel) rfl rfl (Nat.le_of_ble_eq_true rfl) dX5_clearRow_7 (fun en1 hen1 => ?_)
  replace hen1 := rP1 hen1
  obtain ⟨M1, hM1, hen1⟩ := hen1
  subst hen1
  refine g_iload_n hC dX5_clearRow_10 rfl ?_
  refine g_ireti hR dX5_clearRow_11 rfl ?_
  clear hR hC hI
  subst hM1
  refine pRf_i ?_ ?_ <;> (try simp +decide only [up2_row, up2_self, pk_us]) <;> grind [sp_clearRow]

set_option maxHeartbeats 4000000 in
set_option maxRecDepth 100000 in
theorem c_X5_addToRow (l : Launch) (X : gX) (b0 : Nat) (lo : gL) (M T : rM2) (e0 : gE) (hM : Iv M) (v : Int32) : Ct l X b0 lo (enR X lo M T e0) yX5_addToRow cX5_addToRow 2 (some FieldType.int) (rM 1 22) [.ref (lo 1000), .int v] (pRf X lo e0 (sp_addToRow M v)) := by
  refine gMet (by decide) (Nat.le_of_ble_eq_true rfl) rfl ?_
  intro Z hC hI hR
  obtain ⟨⟨hr0, hr1⟩, -⟩ := hM
  refine g_iload_n hC dX5_addToRow_0 rfl ?_
  refine g_bipush (v := 100) hC dX5_addToRow_1 (by decide) ?_
  refine g_sipush (v := 450) hC dX5_addToRow_3 (by decide) ?_
  refine g_callS hC v_X5_within km_X5_71 (c_X5_within l X b0 lo _ _ _ _) rfl rfl (Nat.le_of_ble_eq_true rfl) ⟨by decide, by decide⟩ ⟨by decide, by decide⟩ dX5_addToRow_6 (kX ?_)
  refine g_if_ne (tgt := 15) hC dX5_addToRow_9 (by decide) (fun c9 => ?_) (fun c9 => ?_)
  · refine g_aload_n hC dX5_addToRow_15 rfl ?_
    refine g_get hC rfl rO rfl kl_X5 1 (by decide) kf_X5_68 rfl rfl dX5_addToRow_16 ?_
    refine g_bipush (v := 10) hC dX5_addToRow_19 (by decide) ?_
    refine g_icmp_ne (tgt := 27) hC dX5_addToRow_21 (by decide) (fun c21 => ?_) (fun c21 => ?_)
    · refine g_aload_n hC dX5_addToRow_27 rfl ?_
      refine g_get hC rfl rO rfl kl_X5 0 (by decide) kf_X5_7 rfl rfl dX5_addToRow_28 ?_
      refine g_aload_n hC dX5_addToRow_31 rfl ?_
      refine g_get hC rfl rO rfl kl_X5 1 (by decide) kf_X5_68 rfl rfl dX5_addToRow_32 ?_
      refine g_iload_n hC dX5_addToRow_35 rfl ?_
      refine g_iast hC rfl rA1001 (nt (M 20 1)) (nI_nt hr0).symm (nt_lt (n := 10) (show M 20 1 < 10 by grind) hr0 (by decide)) (by decide) dX5_addToRow_36 (fun en2 hen2 => ?_)
      replace hen2 := rQ1001 hen2
      obtain ⟨M2, hM2, hen2⟩ := hen2
      subst hen2
      refine g_aload_n hC dX5_addToRow_37 rfl ?_
      refine g_dup hC dX5_addToRow_38 rfl ?_
      refine g_get hC rfl rO rfl kl_X5 1 (by decide) kf_X5_68 rfl rfl dX5_addToRow_39 ?_
      refine g_iconst (v := 1) hC dX5_addToRow_42 (by decide) ?_
      refine g_iadd hC dX5_addToRow_43 ?_
      refine g_put (ty := .int) hC rfl rO rfl kl_X5 1 (by decide) kf_X5_68 rfl tyX5 tyX5_ok nmX5 rfl (by decide +kernel) rfl rfl (Nat.le_of_ble_eq_true rfl) dX5_addToRow_44 (fun en3 hen3 => ?_)
      replace hen3 := rP1 hen3
      obtain ⟨M3, hM3, hen3⟩ := hen3
      subst hen3
      refine g_aload_n hC dX5_addToRow_47 rfl ?_
      refine g_get hC rfl rO rfl kl_X5 1 (by decide) kf_X5_68 rfl rfl dX5_addToRow_48 ?_
      refine g_ireti hR dX5_addToRow_51 rfl ?_
      clear hR hC hI
      subst hM3
      subst hM2
      refine pRf_i ?_ ?_ <;> (try simp +decide only [up2_row, up2_self, pk_us]) <;> grind [sp_addToRow, wi]
    · refine g_bipush (v := (-5)) hC dX5_addToRow_24 (by decide) ?_
      refine g_ireti hR dX5_addToRow_26 rfl ?_
      clear hR hC hI
      refine pRf_i ?_ ?_ <;> (try simp +decide only [up2_row, up2_self, pk_us]) <;> grind [sp_addToRow, wi]
  · refine g_bipush (v := (-3)) hC dX5_addToRow_12 (by decide) ?_
    refine g_ireti hR dX5_addToRow_14 rfl ?_
    clear hR hC hI
    refine pRf_i ?_ ?_ <;> (try simp +decide only [up2_row, up2_self, pk_us]) <;> grind [sp_addToRow, wi]

set_option maxHeartbeats 4000000 in
set_option maxRecDepth 100000 in
theorem c_X5_setTolerances (l : Launch) (X : gX) (b0 : Nat) (lo : gL) (M T : rM2) (e0 : gE) (a b : Int32) : Ct l X b0 lo (enR X lo M T e0) yX5_setTolerances cX5_setTolerances 4 (some FieldType.int) (rM 1 22) [.ref (lo 1000), .int a, .int b] (pRf X lo e0 (sp_setTolerances M a b)) := by
  refine gMet (by decide) (Nat.le_of_ble_eq_true rfl) rfl ?_
  intro Z hC hI hR
  refine g_iload_n hC dX5_setTolerances_0 rfl ?_
  refine g_iconst (v := 0) hC dX5_setTolerances_1 (by decide) ?_
  refine g_bipush (v := 50) hC dX5_setTolerances_2 (by decide) ?_
  refine g_callS hC v_X5_within km_X5_71 (c_X5_within l X b0 lo _ _ _ _) rfl rfl (Nat.le_of_ble_eq_true rfl) ⟨by decide, by decide⟩ ⟨by decide, by decide⟩ dX5_setTolerances_4 (kX ?_)
  refine g_if_eq (tgt := 20) hC dX5_setTolerances_7 (by decide) (fun c7 => ?_) (fun c7 => ?_)
  · refine g_bipush (v := (-3)) hC dX5_setTolerances_20 (by decide) ?_
    refine g_ireti hR dX5_setTolerances_22 rfl ?_
    clear hR hC hI
    refine pRf_i ?_ ?_ <;> (try simp +decide only [up2_row, up2_self, pk_us]) <;> grind [sp_setTolerances, wi]
  · refine g_iload_n hC dX5_setTolerances_10 rfl ?_
    refine g_iconst (v := 0) hC dX5_setTolerances_11 (by decide) ?_
    refine g_bipush (v := 100) hC dX5_setTolerances_12 (by decide) ?_
    refine g_callS hC v_X5_within km_X5_71 (c_X5_within l X b0 lo _ _ _ _) rfl rfl (Nat.le_of_ble_eq_true rfl) ⟨by decide, by decide⟩ ⟨by decide, by decide⟩ dX5_setTolerances_14 (kX ?_)
    refine g_if_ne (tgt := 23) hC dX5_setTolerances_17 (by decide) (fun c17 => ?_) (fun c17 => ?_)
    · refine g_iload_n hC dX5_setTolerances_23 rfl ?_
      refine g_aload_n hC dX5_setTolerances_24 rfl ?_
      refine g_get hC rfl rO rfl kl_X5 2 (by decide) kf_X5_13 rfl rfl dX5_setTolerances_25 ?_
      refine g_icmp_ne (tgt := 39) hC dX5_setTolerances_28 (by decide) (fun c28 => ?_) (fun c28 => ?_)
      · refine g_iconst (v := 1) hC dX5_setTolerances_39 (by decide) ?_
        refine g_goto (tgt := 44) hC dX5_setTolerances_40 (by decide) ?_
        refine g_istore_n hC dX5_setTolerances_44 (by decide) ?_
        refine g_aload_n hC dX5_setTolerances_45 rfl ?_
        refine g_iload_n hC dX5_setTolerances_46 rfl ?_
        refine g_put (ty := .int) hC rfl rO rfl kl_X5 2 (by decide) kf_X5_13 rfl tyX5 tyX5_ok nmX5 rfl (by decide +kernel) rfl rfl (Nat.le_of_ble_eq_true rfl) dX5_setTolerances_47 (fun en4 hen4 => ?_)
        replace hen4 := rP2 hen4
        obtain ⟨M4, hM4, hen4⟩ := hen4
        subst hen4
        refine g_aload_n hC dX5_setTolerances_50 rfl ?_
        refine g_iload_n hC dX5_setTolerances_51 rfl ?_
        refine g_put (ty := .int) hC rfl rO rfl kl_X5 3 (by decide) kf_X5_17 rfl tyX5 tyX5_ok nmX5 rfl (by decide +kernel) rfl rfl (Nat.le_of_ble_eq_true rfl) dX5_setTolerances_52 (fun en5 hen5 => ?_)
        replace hen5 := rP3 hen5
        obtain ⟨M5, hM5, hen5⟩ := hen5
        subst hen5
        refine g_iload_n hC dX5_setTolerances_55 rfl ?_
        refine g_if_eq (tgt := 63) hC dX5_setTolerances_56 (by decide) (fun c56 => ?_) (fun c56 => ?_)
        · refine g_iconst (v := 0) hC dX5_setTolerances_63 (by decide) ?_
          refine g_ireti hR dX5_setTolerances_64 rfl ?_
          clear hR hC hI
          subst hM5
          subst hM4
          refine pRf_i ?_ ?_ <;> (try simp +decide only [up2_row, up2_self, pk_us]) <;> grind [sp_setTolerances, wi]
        · refine g_iconst (v := 1) hC dX5_setTolerances_59 (by decide) ?_
          refine g_goto (tgt := 64) hC dX5_setTolerances_60 (by decide) ?_
          refine g_ireti hR dX5_setTolerances_64 rfl ?_
          clear hR hC hI
          subst hM5
          subst hM4
          refine pRf_i ?_ ?_ <;> (try simp +decide only [up2_row, up2_self, pk_us]) <;> grind [sp_setTolerances, wi]
      · refine g_iload_n hC dX5_setTolerances_31 rfl ?_
        refine g_aload_n hC dX5_setTolerances_32 rfl ?_
        refine g_get hC rfl rO rfl kl_X5 3 (by decide) kf_X5_17 rfl rfl dX5_setTolerances_33 ?_
        refine g_icmp_eq (tgt := 43) hC dX5_setTolerances_36 (by decide) (fun c36 => ?_) (fun c36 => ?_)
        · refine g_iconst (v := 0) hC dX5_setTolerances_43 (by decide) ?_
          refine g_istore_n hC dX5_setTolerances_44 (by decide) ?_
          refine g_aload_n hC dX5_setTolerances_45 rfl ?_
          refine g_iload_n hC dX5_setTolerances_46 rfl ?_
          refine g_put (ty := .int) hC rfl rO rfl kl_X5 2 (by decide) kf_X5_13 rfl tyX5 tyX5_ok nmX5 rfl (by decide +kernel) rfl rfl (Nat.le_of_ble_eq_true rfl) dX5_setTolerances_47 (fun en6 hen6 => ?_)
          replace hen6 := rP2 hen6
          obtain ⟨M6, hM6, hen6⟩ := hen6
          subst hen6
          refine g_aload_n hC dX5_setTolerances_50 rfl ?_
          refine g_iload_n hC dX5_setTolerances_51 rfl ?_
          refine g_put (ty := .int) hC rfl rO rfl kl_X5 3 (by decide) kf_X5_17 rfl tyX5 tyX5_ok nmX5 rfl (by decide +kernel) rfl rfl (Nat.le_of_ble_eq_true rfl) dX5_setTolerances_52 (fun en7 hen7 => ?_)
          replace hen7 := rP3 hen7
          obtain ⟨M7, hM7, hen7⟩ := hen7
          subst hen7
          refine g_iload_n hC dX5_setTolerances_55 rfl ?_
          refine g_if_eq (tgt := 63) hC dX5_setTolerances_56 (by decide) (fun c56 => ?_) (fun c56 => ?_)
          · refine g_iconst (v := 0) hC dX5_setTolerances_63 (by decide) ?_
            refine g_ireti hR dX5_setTolerances_64 rfl ?_
            clear hR hC hI
            subst hM7
            subst hM6
            refine pRf_i ?_ ?_ <;> (try simp +decide only [up2_row, up2_self, pk_us]) <;> grind [sp_setTolerances, wi]
          · refine g_iconst (v := 1) hC dX5_setTolerances_59 (by decide) ?_
            refine g_goto (tgt := 64) hC dX5_setTolerances_60 (by decide) ?_
            refine g_ireti hR dX5_setTolerances_64 rfl ?_
            clear hR hC hI
            subst hM7
            subst hM6
            refine pRf_i ?_ ?_ <;> (try simp +decide only [up2_row, up2_self, pk_us]) <;> grind [sp_setTolerances, wi]
        · refine g_iconst (v := 1) hC dX5_setTolerances_39 (by decide) ?_
          refine g_goto (tgt := 44) hC dX5_setTolerances_40 (by decide) ?_
          refine g_istore_n hC dX5_setTolerances_44 (by decide) ?_
          refine g_aload_n hC dX5_setTolerances_45 rfl ?_
          refine g_iload_n hC dX5_setTolerances_46 rfl ?_
          refine g_put (ty := .int) hC rfl rO rfl kl_X5 2 (by decide) kf_X5_13 rfl tyX5 tyX5_ok nmX5 rfl (by decide +kernel) rfl rfl (Nat.le_of_ble_eq_true rfl) dX5_setTolerances_47 (fun en8 hen8 => ?_)
          replace hen8 := rP2 hen8
          obtain ⟨M8, hM8, hen8⟩ := hen8
          subst hen8
          refine g_aload_n hC dX5_setTolerances_50 rfl ?_
          refine g_iload_n hC dX5_setTolerances_51 rfl ?_
          refine g_put (ty := .int) hC rfl rO rfl kl_X5 3 (by decide) kf_X5_17 rfl tyX5 tyX5_ok nmX5 rfl (by decide +kernel) rfl rfl (Nat.le_of_ble_eq_true rfl) dX5_setTolerances_52 (fun en9 hen9 => ?_)
          replace hen9 := rP3 hen9
          obtain ⟨M9, hM9, hen9⟩ := hen9
          subst hen9
          refine g_iload_n hC dX5_setTolerances_55 rfl ?_
          refine g_if_eq (tgt := 63) hC dX5_setTolerances_56 (by decide) (fun c56 => ?_) (fun c56 => ?_)
          · refine g_iconst (v := 0) hC dX5_setTolerances_63 (by decide) ?_
            refine g_ireti hR dX5_setTolerances_64 rfl ?_
            clear hR hC hI
            subst hM9
            subst hM8
            refine pRf_i ?_ ?_ <;> (try simp +decide only [up2_row, up2_self, pk_us]) <;> grind [sp_setTolerances, wi]
          · refine g_iconst (v := 1) hC dX5_setTolerances_59 (by decide) ?_
            refine g_goto (tgt := 64) hC dX5_setTolerances_60 (by decide) ?_
            refine g_ireti hR dX5_setTolerances_64 rfl ?_
            clear hR hC hI
            subst hM9
            subst hM8
            refine pRf_i ?_ ?_ <;> (try simp +decide only [up2_row, up2_self, pk_us]) <;> grind [sp_setTolerances, wi]
    · refine g_bipush (v := (-3)) hC dX5_setTolerances_20 (by decide) ?_
      refine g_ireti hR dX5_setTolerances_22 rfl ?_
      clear hR hC hI
      refine pRf_i ?_ ?_ <;> (try simp +decide only [up2_row, up2_self, pk_us]) <;> grind [sp_setTolerances, wi]

set_option maxHeartbeats 4000000 in
set_option maxRecDepth 100000 in
theorem c_X5_noMould (l : Launch) (X : gX) (b0 : Nat) (lo : gL) (M T : rM2) (e0 : gE) (p : Int32) : Ct l X b0 lo (enR X lo M T e0) yX5_noMould cX5_noMould 2 (some FieldType.boolean) (rM 1 22) [.ref (lo 1000), .int p] (pX (.int (if isMo M p then 0 else 1)) lo (enR X lo M T e0)) := by
  refine gMet (by decide) (Nat.le_of_ble_eq_true rfl) rfl ?_
  intro Z hC hI hR
  refine g_iload_n hC dX5_noMould_0 rfl ?_
  refine g_iconst (v := 0) hC dX5_noMould_1 (by decide) ?_
  refine g_aload_n hC dX5_noMould_2 rfl ?_
  refine g_get hC rfl rO rfl kl_X5 4 (by decide) kf_X5_75 rfl rfl dX5_noMould_3 ?_
  refine g_iconst (v := 1) hC dX5_noMould_6 (by decide) ?_
  refine g_isub hC dX5_noMould_7 ?_
  refine g_callS hC v_X5_within km_X5_71 (c_X5_within l X b0 lo _ _ _ _) rfl rfl (Nat.le_of_ble_eq_true rfl) ⟨by decide, by decide⟩ ⟨by decide, by decide⟩ dX5_noMould_8 (kX ?_)
  refine g_if_ne (tgt := 18) hC dX5_noMould_11 (by decide) (fun c11 => ?_) (fun c11 => ?_)
  · refine g_iconst (v := 0) hC dX5_noMould_18 (by decide) ?_
    refine g_ireti hR dX5_noMould_19 (by decide) ?_
    clear hR hC hI
    refine pXi ?_
    grind [wi]
  · refine g_iconst (v := 1) hC dX5_noMould_14 (by decide) ?_
    refine g_goto (tgt := 19) hC dX5_noMould_15 (by decide) ?_
    refine g_ireti hR dX5_noMould_19 (by decide) ?_
    clear hR hC hI
    refine pXi ?_
    grind [wi]

set_option maxHeartbeats 4000000 in
set_option maxRecDepth 100000 in
theorem c_X5_noSheet (l : Launch) (X : gX) (b0 : Nat) (lo : gL) (M T : rM2) (e0 : gE) (p : Int32) : Ct l X b0 lo (enR X lo M T e0) yX5_noSheet cX5_noSheet 2 (some FieldType.boolean) (rM 1 22) [.ref (lo 1000), .int p] (pX (.int (if isSh M p then 0 else 1)) lo (enR X lo M T e0)) := by
  refine gMet (by decide) (Nat.le_of_ble_eq_true rfl) rfl ?_
  intro Z hC hI hR
  refine g_iload_n hC dX5_noSheet_0 rfl ?_
  refine g_iconst (v := 0) hC dX5_noSheet_1 (by decide) ?_
  refine g_aload_n hC dX5_noSheet_2 rfl ?_
  refine g_get hC rfl rO rfl kl_X5 11 (by decide) kf_X5_99 rfl rfl dX5_noSheet_3 ?_
  refine g_iconst (v := 1) hC dX5_noSheet_6 (by decide) ?_
  refine g_isub hC dX5_noSheet_7 ?_
  refine g_callS hC v_X5_within km_X5_71 (c_X5_within l X b0 lo _ _ _ _) rfl rfl (Nat.le_of_ble_eq_true rfl) ⟨by decide, by decide⟩ ⟨by decide, by decide⟩ dX5_noSheet_8 (kX ?_)
  refine g_if_ne (tgt := 18) hC dX5_noSheet_11 (by decide) (fun c11 => ?_) (fun c11 => ?_)
  · refine g_iconst (v := 0) hC dX5_noSheet_18 (by decide) ?_
    refine g_ireti hR dX5_noSheet_19 (by decide) ?_
    clear hR hC hI
    refine pXi ?_
    grind [wi]
  · refine g_iconst (v := 1) hC dX5_noSheet_14 (by decide) ?_
    refine g_goto (tgt := 19) hC dX5_noSheet_15 (by decide) ?_
    refine g_ireti hR dX5_noSheet_19 (by decide) ?_
    clear hR hC hI
    refine pXi ?_
    grind [wi]

set_option maxHeartbeats 4000000 in
set_option maxRecDepth 100000 in
theorem c_X5_isMark (l : Launch) (X : gX) (b0 : Nat) (lo : gL) (M T : rM2) (e0 : gE) (hM : Iv M) (iv x y : Int32) : Ct l X b0 lo (enR X lo M T e0) yX5_isMark cX5_isMark 4 (some FieldType.boolean) (rM 1 22) [.ref (lo 1000), .int iv, .int x, .int y] (pX (.int (if isMk M iv x y then 1 else 0)) lo (enR X lo M T e0)) := by
  refine gMet (by decide) (Nat.le_of_ble_eq_true rfl) rfl ?_
  intro Z hC hI hR
  obtain ⟨⟨hr0, hr1⟩, -⟩ := hM
  refine g_iload_n hC dX5_isMark_0 rfl ?_
  refine g_iconst (v := 0) hC dX5_isMark_1 (by decide) ?_
  refine g_aload_n hC dX5_isMark_2 rfl ?_
  refine g_get hC rfl rO rfl kl_X5 1 (by decide) kf_X5_68 rfl rfl dX5_isMark_3 ?_
  refine g_iconst (v := 1) hC dX5_isMark_6 (by decide) ?_
  refine g_isub hC dX5_isMark_7 ?_
  refine g_callS hC v_X5_within km_X5_71 (c_X5_within l X b0 lo _ _ _ _) rfl rfl (Nat.le_of_ble_eq_true rfl) ⟨by decide, by decide⟩ ⟨by decide, by decide⟩ dX5_isMark_8 (kX ?_)
  refine g_if_eq (tgt := 43) hC dX5_isMark_11 (by decide) (fun c11 => ?_) (fun c11 => ?_)
  · refine g_iconst (v := 0) hC dX5_isMark_43 (by decide) ?_
    refine g_ireti hR dX5_isMark_44 (by decide) ?_
    clear hR hC hI
    refine pXi ?_
    grind [wi]
  · refine g_iload_n hC dX5_isMark_14 rfl ?_
    refine g_iconst (v := 0) hC dX5_isMark_15 (by decide) ?_
    refine g_aload_n hC dX5_isMark_16 rfl ?_
    refine g_get hC rfl rO rfl kl_X5 0 (by decide) kf_X5_7 rfl rfl dX5_isMark_17 ?_
    refine g_iload_n hC dX5_isMark_20 rfl ?_
    refine g_iald hC rfl rA1001 (nt iv) (nI_nt (wi_ne c11).1).symm (nt_lt (n := 10) (show iv < 10 by have := (wi_ne c11).2; grind) (wi_ne c11).1 (by decide)) (by decide) dX5_isMark_21 ?_
    refine g_callS hC v_X5_within km_X5_71 (c_X5_within l X b0 lo _ _ _ _) rfl rfl (Nat.le_of_ble_eq_true rfl) ⟨by decide, by decide⟩ ⟨by decide, by decide⟩ dX5_isMark_22 (kX ?_)
    refine g_if_eq (tgt := 43) hC dX5_isMark_25 (by decide) (fun c25 => ?_) (fun c25 => ?_)
    · refine g_iconst (v := 0) hC dX5_isMark_43 (by decide) ?_
      refine g_ireti hR dX5_isMark_44 (by decide) ?_
      clear hR hC hI
      refine pXi ?_
      grind [wi]
    · refine g_iload_n hC dX5_isMark_28 rfl ?_
      refine g_iconst (v := 0) hC dX5_isMark_29 (by decide) ?_
      refine g_sipush (v := 300) hC dX5_isMark_30 (by decide) ?_
      refine g_callS hC v_X5_within km_X5_71 (c_X5_within l X b0 lo _ _ _ _) rfl rfl (Nat.le_of_ble_eq_true rfl) ⟨by decide, by decide⟩ ⟨by decide, by decide⟩ dX5_isMark_33 (kX ?_)
      refine g_if_eq (tgt := 43) hC dX5_isMark_36 (by decide) (fun c36 => ?_) (fun c36 => ?_)
      · refine g_iconst (v := 0) hC dX5_isMark_43 (by decide) ?_
        refine g_ireti hR dX5_isMark_44 (by decide) ?_
        clear hR hC hI
        refine pXi ?_
        grind [wi]
      · refine g_iconst (v := 1) hC dX5_isMark_39 (by decide) ?_
        refine g_goto (tgt := 44) hC dX5_isMark_40 (by decide) ?_
        refine g_ireti hR dX5_isMark_44 (by decide) ?_
        clear hR hC hI
        refine pXi ?_
        grind [wi]

set_option maxHeartbeats 4000000 in
set_option maxRecDepth 100000 in
theorem c_X5_putState (l : Launch) (X : gX) (b0 : Nat) (lo : gL) (M T : rM2) (e0 : gE) (i : Nat) (hi : i < 10) (q : Nat) (hq : q < 6) (eq : M 4 i = nI q) (x y : Int32) : Ct l X b0 lo (enR X lo M T e0) yX5_putState cX5_putState 4 none (rM 0 0) [.ref (lo 1000), .int (nI i), .int x, .int y] (pV lo (fun en' => en' = enR X lo (psM M i x y) T e0)) := by
  refine gMet (by decide) (Nat.le_of_ble_eq_true rfl) rfl ?_
  intro Z hC hI hR
  have hq2 : nt (M 4 i) = q := by rw [eq]; exact nt_nI (by omega)
  refine g_aload_n hC dX5_putState_0 rfl ?_
  refine g_get hC rfl rO rfl kl_X5 9 (by decide) kf_X5_32 rfl rfl dX5_putState_1 ?_
  refine g_bipush (v := 6) hC dX5_putState_4 (by decide) ?_
  refine g_iload_n hC dX5_putState_6 rfl ?_
  refine g_imul hC dX5_putState_7 ?_
  refine g_aload_n hC dX5_putState_8 rfl ?_
  refine g_get hC rfl rO rfl kl_X5 8 (by decide) kf_X5_29 rfl rfl dX5_putState_9 ?_
  refine g_iload_n hC dX5_putState_12 rfl ?_
  refine g_iald hC rfl rA1005 i rfl hi (by decide) dX5_putState_13 ?_
  refine g_iadd hC dX5_putState_14 ?_
  refine g_iload_n hC dX5_putState_15 rfl ?_
  refine g_iast hC rfl rA1006 (6 * i + q) (ix6 rfl eq) (by omega) (by decide) dX5_putState_16 (fun en10 hen10 => ?_)
  replace hen10 := rQ1006 hen10
  obtain ⟨M10, hM10, hen10⟩ := hen10
  subst hen10
  refine g_aload_n hC dX5_putState_17 rfl ?_
  refine g_get hC rfl rO rfl kl_X5 10 (by decide) kf_X5_35 rfl rfl dX5_putState_18 ?_
  refine g_bipush (v := 6) hC dX5_putState_21 (by decide) ?_
  refine g_iload_n hC dX5_putState_23 rfl ?_
  refine g_imul hC dX5_putState_24 ?_
  refine g_aload_n hC dX5_putState_25 rfl ?_
  refine g_get hC rfl rO rfl kl_X5 8 (by decide) kf_X5_29 rfl rfl dX5_putState_26 ?_
  refine g_iload_n hC dX5_putState_29 rfl ?_
  refine g_iald hC rfl rA1005 i rfl hi (by decide) dX5_putState_30 ?_
  refine g_iadd hC dX5_putState_31 ?_
  refine g_iload_n hC dX5_putState_32 rfl ?_
  refine g_iast hC rfl rA1007 (6 * i + q) (ix6 rfl (by rw [hM10]; simp [up2]; exact eq)) (by omega) (by decide) dX5_putState_33 (fun en11 hen11 => ?_)
  replace hen11 := rQ1007 hen11
  obtain ⟨M11, hM11, hen11⟩ := hen11
  subst hen11
  refine g_aload_n hC dX5_putState_34 rfl ?_
  refine g_get hC rfl rO rfl kl_X5 8 (by decide) kf_X5_29 rfl rfl dX5_putState_35 ?_
  refine g_iload_n hC dX5_putState_38 rfl ?_
  refine g_dup2 hC dX5_putState_39 rfl rfl ?_
  refine g_iald hC rfl rA1005 i rfl hi (by decide) dX5_putState_40 ?_
  refine g_iconst (v := 1) hC dX5_putState_41 (by decide) ?_
  refine g_iadd hC dX5_putState_42 ?_
  refine g_iast hC rfl rA1005 i rfl hi (by decide) dX5_putState_43 (fun en12 hen12 => ?_)
  replace hen12 := rQ1005 hen12
  obtain ⟨M12, hM12, hen12⟩ := hen12
  subst hen12
  refine g_retv hR dX5_putState_44 ?_
  clear hR hC hI
  subst hM12
  subst hM11
  subst hM10
  refine ⟨rfl, rfl, ?_⟩
  show _ = enR X lo (psM M i x y) T e0
  unfold psM
  rw [hq2]
  simp +decide only [up2_row]

set_option maxHeartbeats 4000000 in
set_option maxRecDepth 100000 in
theorem c_X5_count (l : Launch) (X : gX) (b0 : Nat) (lo : gL) (M T : rM2) (e0 : gE) (w : Int32) : Ct l X b0 lo (enR X lo M T e0) yX5_count cX5_count 2 (some FieldType.int) (rM 0 0) [.ref (lo 1000), .int w] (pRf X lo e0 (sp_count M w)) := by
  refine gMet (by decide) (Nat.le_of_ble_eq_true rfl) rfl ?_
  intro Z hC hI hR
  refine g_iload_n hC dX5_count_0 rfl ?_
  refine g_if_ne (tgt := 11) hC dX5_count_1 (by decide) (fun c1 => ?_) (fun c1 => ?_)
  · refine g_iload_n hC dX5_count_11 rfl ?_
    refine g_iconst (v := 1) hC dX5_count_12 (by decide) ?_
    refine g_icmp_ne (tgt := 23) hC dX5_count_13 (by decide) (fun c13 => ?_) (fun c13 => ?_)
    · refine g_iload_n hC dX5_count_23 rfl ?_
      refine g_iconst (v := 2) hC dX5_count_24 (by decide) ?_
      refine g_icmp_ne (tgt := 35) hC dX5_count_25 (by decide) (fun c25 => ?_) (fun c25 => ?_)
      · refine g_bipush (v := (-3)) hC dX5_count_35 (by decide) ?_
        refine g_ireti hR dX5_count_37 rfl ?_
        clear hR hC hI
        refine pRf_i ?_ ?_ <;> (try simp +decide only [up2_row, up2_self, pk_us]) <;> grind [sp_count]
      · refine g_aload_n hC dX5_count_28 rfl ?_
        refine g_get hC rfl rO rfl kl_X5 1 (by decide) kf_X5_68 rfl rfl dX5_count_29 ?_
        refine g_goto (tgt := 37) hC dX5_count_32 (by decide) ?_
        refine g_ireti hR dX5_count_37 rfl ?_
        clear hR hC hI
        refine pRf_i ?_ ?_ <;> (try simp +decide only [up2_row, up2_self, pk_us]) <;> grind [sp_count]
    · refine g_aload_n hC dX5_count_16 rfl ?_
      refine g_get hC rfl rO rfl kl_X5 11 (by decide) kf_X5_99 rfl rfl dX5_count_17 ?_
      refine g_goto (tgt := 37) hC dX5_count_20 (by decide) ?_
      refine g_ireti hR dX5_count_37 rfl ?_
      clear hR hC hI
      refine pRf_i ?_ ?_ <;> (try simp +decide only [up2_row, up2_self, pk_us]) <;> grind [sp_count]
  · refine g_aload_n hC dX5_count_4 rfl ?_
    refine g_get hC rfl rO rfl kl_X5 4 (by decide) kf_X5_75 rfl rfl dX5_count_5 ?_
    refine g_goto (tgt := 37) hC dX5_count_8 (by decide) ?_
    refine g_ireti hR dX5_count_37 rfl ?_
    clear hR hC hI
    refine pRf_i ?_ ?_ <;> (try simp +decide only [up2_row, up2_self, pk_us]) <;> grind [sp_count]

set_option maxHeartbeats 4000000 in
set_option maxRecDepth 100000 in
theorem c_X5_stateCount (l : Launch) (X : gX) (b0 : Nat) (lo : gL) (M T : rM2) (e0 : gE) (hM : Iv M) (p : Int32) : Ct l X b0 lo (enR X lo M T e0) yX5_stateCount cX5_stateCount 2 (some FieldType.int) (rM 2 43) [.ref (lo 1000), .int p] (pRf X lo e0 (sp_stateCount M p)) := by
  refine gMet (by decide) (Nat.le_of_ble_eq_true rfl) rfl ?_
  intro Z hC hI hR
  refine g_aload_n hC dX5_stateCount_0 rfl ?_
  refine g_iload_n hC dX5_stateCount_1 rfl ?_
  refine g_callV hC v_X5_noMould km_X5_85 (c_X5_noMould l X b0 lo _ _ e0 _) rfl rO rfl rfl rfl rfl (Nat.le_of_ble_eq_true rfl) ⟨by decide, by decide⟩ ⟨by decide, by decide⟩ dX5_stateCount_2 (kX ?_)
  refine g_if_eq (tgt := 12) hC dX5_stateCount_5 (by decide) (fun c5 => ?_) (fun c5 => ?_)
  · have hp := ite_eq c5
    obtain ⟨i, hi, rfl, -⟩ := moOf hM hp
    have hi2 : nt (nI i) = i := nt_nI (by omega)
    refine g_aload_n hC dX5_stateCount_12 rfl ?_
    refine g_get hC rfl rO rfl kl_X5 8 (by decide) kf_X5_29 rfl rfl dX5_stateCount_13 ?_
    refine g_iload_n hC dX5_stateCount_16 rfl ?_
    refine g_iald hC rfl rA1005 i rfl hi (by decide) dX5_stateCount_17 ?_
    refine g_ireti hR dX5_stateCount_18 rfl ?_
    clear hR hC hI
    refine pRf_i ?_ ?_ <;> (try simp +decide only [up2_row, up2_self, pk_us]) <;> grind [sp_stateCount]
  · refine g_iconst (v := (-1)) hC dX5_stateCount_8 (by decide) ?_
    refine g_goto (tgt := 18) hC dX5_stateCount_9 (by decide) ?_
    refine g_ireti hR dX5_stateCount_18 rfl ?_
    clear hR hC hI
    refine pRf_i ?_ ?_ <;> (try simp +decide only [up2_row, up2_self, pk_us]) <;> grind [sp_stateCount]

set_option maxHeartbeats 4000000 in
set_option maxRecDepth 100000 in
theorem c_X5_removeState (l : Launch) (X : gX) (b0 : Nat) (lo : gL) (M T : rM2) (e0 : gE) (hM : Iv M) (p : Int32) : Ct l X b0 lo (enR X lo M T e0) yX5_removeState cX5_removeState 2 (some FieldType.int) (rM 2 43) [.ref (lo 1000), .int p] (pRf X lo e0 (sp_removeState M p)) := by
  refine gMet (by decide) (Nat.le_of_ble_eq_true rfl) rfl ?_
  intro Z hC hI hR
  refine g_aload_n hC dX5_removeState_0 rfl ?_
  refine g_iload_n hC dX5_removeState_1 rfl ?_
  refine g_callV hC v_X5_noMould km_X5_85 (c_X5_noMould l X b0 lo _ _ e0 _) rfl rO rfl rfl rfl rfl (Nat.le_of_ble_eq_true rfl) ⟨by decide, by decide⟩ ⟨by decide, by decide⟩ dX5_removeState_2 (kX ?_)
  refine g_if_eq (tgt := 10) hC dX5_removeState_5 (by decide) (fun c5 => ?_) (fun c5 => ?_)
  · have hp := ite_eq c5
    obtain ⟨i, hi, rfl, hin, -⟩ := moOf hM hp
    have hi2 : nt (nI i) = i := nt_nI (by omega)
    have hMi := hM.2.2.2.2.2.2.1 i hin
    refine g_aload_n hC dX5_removeState_10 rfl ?_
    refine g_get hC rfl rO rfl kl_X5 8 (by decide) kf_X5_29 rfl rfl dX5_removeState_11 ?_
    refine g_iload_n hC dX5_removeState_14 rfl ?_
    refine g_iald hC rfl rA1005 i rfl hi (by decide) dX5_removeState_15 ?_
    refine g_iconst (v := 1) hC dX5_removeState_16 (by decide) ?_
    refine g_icmp_ne (tgt := 23) hC dX5_removeState_17 (by decide) (fun c17 => ?_) (fun c17 => ?_)
    · refine g_aload_n hC dX5_removeState_23 rfl ?_
      refine g_get hC rfl rO rfl kl_X5 8 (by decide) kf_X5_29 rfl rfl dX5_removeState_24 ?_
      refine g_iload_n hC dX5_removeState_27 rfl ?_
      refine g_dup2 hC dX5_removeState_28 rfl rfl ?_
      refine g_iald hC rfl rA1005 i rfl hi (by decide) dX5_removeState_29 ?_
      refine g_iconst (v := 1) hC dX5_removeState_30 (by decide) ?_
      refine g_isub hC dX5_removeState_31 ?_
      refine g_iast hC rfl rA1005 i rfl hi (by decide) dX5_removeState_32 (fun en13 hen13 => ?_)
      replace hen13 := rQ1005 hen13
      obtain ⟨M13, hM13, hen13⟩ := hen13
      subst hen13
      refine g_aload_n hC dX5_removeState_33 rfl ?_
      refine g_get hC rfl rO rfl kl_X5 8 (by decide) kf_X5_29 rfl rfl dX5_removeState_34 ?_
      refine g_iload_n hC dX5_removeState_37 rfl ?_
      refine g_iald hC rfl rA1005 i rfl hi (by decide) dX5_removeState_38 ?_
      refine g_ireti hR dX5_removeState_39 rfl ?_
      clear hR hC hI
      subst hM13
      refine pRf_i ?_ ?_ <;> (try simp +decide only [up2_row, up2_self, pk_us]) <;> grind [sp_removeState]
    · refine g_bipush (v := (-6)) hC dX5_removeState_20 (by decide) ?_
      refine g_ireti hR dX5_removeState_22 rfl ?_
      clear hR hC hI
      refine pRf_i ?_ ?_ <;> (try simp +decide only [up2_row, up2_self, pk_us]) <;> grind [sp_removeState]
  · refine g_iconst (v := (-1)) hC dX5_removeState_8 (by decide) ?_
    refine g_ireti hR dX5_removeState_9 rfl ?_
    clear hR hC hI
    refine pRf_i ?_ ?_ <;> (try simp +decide only [up2_row, up2_self, pk_us]) <;> grind [sp_removeState]

set_option maxHeartbeats 4000000 in
set_option maxRecDepth 100000 in
theorem c_X5_addState (l : Launch) (X : gX) (b0 : Nat) (lo : gL) (M T : rM2) (e0 : gE) (hM : Iv M) (p x y : Int32) : Ct l X b0 lo (enR X lo M T e0) yX5_addState cX5_addState 4 (some FieldType.int) (rM 2 43) [.ref (lo 1000), .int p, .int x, .int y] (pRf X lo e0 (sp_addState M p x y)) := by
  refine gMet (by decide) (Nat.le_of_ble_eq_true rfl) rfl ?_
  intro Z hC hI hR
  refine g_aload_n hC dX5_addState_0 rfl ?_
  refine g_iload_n hC dX5_addState_1 rfl ?_
  refine g_callV hC v_X5_noMould km_X5_85 (c_X5_noMould l X b0 lo _ _ e0 _) rfl rO rfl rfl rfl rfl (Nat.le_of_ble_eq_true rfl) ⟨by decide, by decide⟩ ⟨by decide, by decide⟩ dX5_addState_2 (kX ?_)
  refine g_if_eq (tgt := 10) hC dX5_addState_5 (by decide) (fun c5 => ?_) (fun c5 => ?_)
  · have hp := ite_eq c5
    obtain ⟨i, hi, rfl, hin, -⟩ := moOf hM hp
    have hi2 : nt (nI i) = i := nt_nI (by omega)
    have hMi := hM.2.2.2.2.2.2.1 i hin
    obtain ⟨t, ht, et⟩ := natOf (n := 9) (b := 9) ⟨hMi.2.1.1, by have := hMi.2.1.2; have := hMi.1.2; grind⟩ rfl (by decide)
    have ht2 : nt (M 3 i) = t := by rw [et]; exact nt_nI (by omega)
    refine g_iload_n hC dX5_addState_10 rfl ?_
    refine g_iconst (v := 0) hC dX5_addState_11 (by decide) ?_
    refine g_aload_n hC dX5_addState_12 rfl ?_
    refine g_get hC rfl rO rfl kl_X5 6 (by decide) kf_X5_23 rfl rfl dX5_addState_13 ?_
    refine g_bipush (v := 10) hC dX5_addState_16 (by decide) ?_
    refine g_iload_n hC dX5_addState_18 rfl ?_
    refine g_imul hC dX5_addState_19 ?_
    refine g_aload_n hC dX5_addState_20 rfl ?_
    refine g_get hC rfl rO rfl kl_X5 7 (by decide) kf_X5_26 rfl rfl dX5_addState_21 ?_
    refine g_iload_n hC dX5_addState_24 rfl ?_
    refine g_iald hC rfl rA1004 i rfl hi (by decide) dX5_addState_25 ?_
    refine g_iadd hC dX5_addState_26 ?_
    refine g_iald hC rfl rA1003 (10 * i + t) (ix10 rfl et) (by omega) (by decide) dX5_addState_27 ?_
    refine g_callS hC v_X5_within km_X5_71 (c_X5_within l X b0 lo _ _ _ _) rfl rfl (Nat.le_of_ble_eq_true rfl) ⟨by decide, by decide⟩ ⟨by decide, by decide⟩ dX5_addState_28 (kX ?_)
    refine g_if_eq (tgt := 45) hC dX5_addState_31 (by decide) (fun c31 => ?_) (fun c31 => ?_)
    · refine g_bipush (v := (-3)) hC dX5_addState_45 (by decide) ?_
      refine g_ireti hR dX5_addState_47 rfl ?_
      clear hR hC hI
      refine pRf_i ?_ ?_ <;> (try simp +decide only [up2_row, up2_self, pk_us]) <;> grind [sp_addState, wi]
    · refine g_iload_n hC dX5_addState_34 rfl ?_
      refine g_iconst (v := 0) hC dX5_addState_35 (by decide) ?_
      refine g_sipush (v := 300) hC dX5_addState_36 (by decide) ?_
      refine g_callS hC v_X5_within km_X5_71 (c_X5_within l X b0 lo _ _ _ _) rfl rfl (Nat.le_of_ble_eq_true rfl) ⟨by decide, by decide⟩ ⟨by decide, by decide⟩ dX5_addState_39 (kX ?_)
      refine g_if_ne (tgt := 48) hC dX5_addState_42 (by decide) (fun c42 => ?_) (fun c42 => ?_)
      · refine g_aload_n hC dX5_addState_48 rfl ?_
        refine g_get hC rfl rO rfl kl_X5 8 (by decide) kf_X5_29 rfl rfl dX5_addState_49 ?_
        refine g_iload_n hC dX5_addState_52 rfl ?_
        refine g_iald hC rfl rA1005 i rfl hi (by decide) dX5_addState_53 ?_
        refine g_bipush (v := 6) hC dX5_addState_54 (by decide) ?_
        refine g_icmp_ne (tgt := 62) hC dX5_addState_56 (by decide) (fun c56 => ?_) (fun c56 => ?_)
        · obtain ⟨q, hq, eq⟩ := natOf (n := 5) (b := 5) (x := M 4 i) ⟨by have := hMi.2.2.1.1; grind, by have := hMi.2.2.1.2; grind⟩ rfl (by decide)
          refine g_aload_n hC dX5_addState_62 rfl ?_
          refine g_iload_n hC dX5_addState_63 rfl ?_
          refine g_iload_n hC dX5_addState_64 rfl ?_
          refine g_iload_n hC dX5_addState_65 rfl ?_
          refine g_callV hC v_X5_putState km_X5_81 (c_X5_putState l X b0 lo _ _ e0 i hi q (by omega) eq _ _) rfl rO rfl rfl rfl rfl (Nat.le_of_ble_eq_true rfl) ⟨by decide, by decide⟩ ⟨by decide, by decide⟩ dX5_addState_66 (kV ?_)
          rintro en' rfl
          refine g_aload_n hC dX5_addState_69 rfl ?_
          refine g_get hC rfl rO rfl kl_X5 8 (by decide) kf_X5_29 rfl rfl dX5_addState_70 ?_
          refine g_iload_n hC dX5_addState_73 rfl ?_
          refine g_iald hC rfl rA1005 i rfl hi (by decide) dX5_addState_74 ?_
          refine g_iconst (v := 1) hC dX5_addState_75 (by decide) ?_
          refine g_isub hC dX5_addState_76 ?_
          refine g_ireti hR dX5_addState_77 rfl ?_
          clear hR hC hI
          have hps : psM M i x y 4 i = M 4 i + 1 := by simp +decide only [psM, up2_self, pk_us]
          refine pRf_i ?_ ?_ <;> (try simp +decide only [up2_row, up2_self, pk_us]) <;> grind [sp_addState, wi]
        · refine g_bipush (v := (-5)) hC dX5_addState_59 (by decide) ?_
          refine g_ireti hR dX5_addState_61 rfl ?_
          clear hR hC hI
          refine pRf_i ?_ ?_ <;> (try simp +decide only [up2_row, up2_self, pk_us]) <;> grind [sp_addState, wi]
      · refine g_bipush (v := (-3)) hC dX5_addState_45 (by decide) ?_
        refine g_ireti hR dX5_addState_47 rfl ?_
        clear hR hC hI
        refine pRf_i ?_ ?_ <;> (try simp +decide only [up2_row, up2_self, pk_us]) <;> grind [sp_addState, wi]
  · refine g_iconst (v := (-1)) hC dX5_addState_8 (by decide) ?_
    refine g_ireti hR dX5_addState_9 rfl ?_
    clear hR hC hI
    refine pRf_i ?_ ?_ <;> (try simp +decide only [up2_row, up2_self, pk_us]) <;> grind [sp_addState, wi]

set_option maxHeartbeats 4000000 in
set_option maxRecDepth 100000 in
theorem c_X5_setDates (l : Launch) (X : gX) (b0 : Nat) (lo : gL) (M T : rM2) (e0 : gE) (hM : Iv M) (p a b : Int32) : Ct l X b0 lo (enR X lo M T e0) yX5_setDates cX5_setDates 5 (some FieldType.int) (rM 2 43) [.ref (lo 1000), .int p, .int a, .int b] (pRf X lo e0 (sp_setDates M p a b)) := by
  refine gMet (by decide) (Nat.le_of_ble_eq_true rfl) rfl ?_
  intro Z hC hI hR
  refine g_aload_n hC dX5_setDates_0 rfl ?_
  refine g_iload_n hC dX5_setDates_1 rfl ?_
  refine g_callV hC v_X5_noSheet km_X5_102 (c_X5_noSheet l X b0 lo _ _ e0 _) rfl rO rfl rfl rfl rfl (Nat.le_of_ble_eq_true rfl) ⟨by decide, by decide⟩ ⟨by decide, by decide⟩ dX5_setDates_2 (kX ?_)
  refine g_if_eq (tgt := 11) hC dX5_setDates_5 (by decide) (fun c5 => ?_) (fun c5 => ?_)
  · have hp := ite_eq c5
    obtain ⟨i, hi, rfl, hin, -⟩ := shOf hM hp
    have hi2 : nt (nI i) = i := nt_nI (by omega)
    refine g_iload_n hC dX5_setDates_11 rfl ?_
    refine g_iconst (v := 0) hC dX5_setDates_12 (by decide) ?_
    refine g_sipush (v := 9999) hC dX5_setDates_13 (by decide) ?_
    refine g_callS hC v_X5_within km_X5_71 (c_X5_within l X b0 lo _ _ _ _) rfl rfl (Nat.le_of_ble_eq_true rfl) ⟨by decide, by decide⟩ ⟨by decide, by decide⟩ dX5_setDates_16 (kX ?_)
    refine g_if_eq (tgt := 33) hC dX5_setDates_19 (by decide) (fun c19 => ?_) (fun c19 => ?_)
    · refine g_bipush (v := (-3)) hC dX5_setDates_33 (by decide) ?_
      refine g_ireti hR dX5_setDates_35 rfl ?_
      clear hR hC hI
      refine pRf_i ?_ ?_ <;> (try simp +decide only [up2_row, up2_self, pk_us]) <;> grind [sp_setDates, wi]
    · refine g_iload_n hC dX5_setDates_22 rfl ?_
      refine g_iload_n hC dX5_setDates_23 rfl ?_
      refine g_sipush (v := 9999) hC dX5_setDates_24 (by decide) ?_
      refine g_callS hC v_X5_within km_X5_71 (c_X5_within l X b0 lo _ _ _ _) rfl rfl (Nat.le_of_ble_eq_true rfl) ⟨by decide, by decide⟩ ⟨by decide, by decide⟩ dX5_setDates_27 (kX ?_)
      refine g_if_ne (tgt := 36) hC dX5_setDates_30 (by decide) (fun c30 => ?_) (fun c30 => ?_)
      · refine g_iload_n hC dX5_setDates_36 rfl ?_
        refine g_aload_n hC dX5_setDates_37 rfl ?_
        refine g_get hC rfl rO rfl kl_X5 17 (by decide) kf_X5_53 rfl rfl dX5_setDates_38 ?_
        refine g_iload_n hC dX5_setDates_41 rfl ?_
        refine g_iald hC rfl rA1013 i rfl hi (by decide) dX5_setDates_42 ?_
        refine g_icmp_ne (tgt := 56) hC dX5_setDates_43 (by decide) (fun c43 => ?_) (fun c43 => ?_)
        · refine g_iconst (v := 1) hC dX5_setDates_56 (by decide) ?_
          refine g_goto (tgt := 61) hC dX5_setDates_57 (by decide) ?_
          refine g_istore hC dX5_setDates_61 (by decide) ?_
          refine g_aload_n hC dX5_setDates_63 rfl ?_
          refine g_get hC rfl rO rfl kl_X5 17 (by decide) kf_X5_53 rfl rfl dX5_setDates_64 ?_
          refine g_iload_n hC dX5_setDates_67 rfl ?_
          refine g_iload_n hC dX5_setDates_68 rfl ?_
          refine g_iast hC rfl rA1013 i rfl hi (by decide) dX5_setDates_69 (fun en14 hen14 => ?_)
          replace hen14 := rQ1013 hen14
          obtain ⟨M14, hM14, hen14⟩ := hen14
          subst hen14
          refine g_aload_n hC dX5_setDates_70 rfl ?_
          refine g_get hC rfl rO rfl kl_X5 18 (by decide) kf_X5_56 rfl rfl dX5_setDates_71 ?_
          refine g_iload_n hC dX5_setDates_74 rfl ?_
          refine g_iload_n hC dX5_setDates_75 rfl ?_
          refine g_iast hC rfl rA1014 i rfl hi (by decide) dX5_setDates_76 (fun en15 hen15 => ?_)
          replace hen15 := rQ1014 hen15
          obtain ⟨M15, hM15, hen15⟩ := hen15
          subst hen15
          refine g_iload hC dX5_setDates_77 rfl ?_
          refine g_if_eq (tgt := 86) hC dX5_setDates_79 (by decide) (fun c79 => ?_) (fun c79 => ?_)
          · refine g_iconst (v := 0) hC dX5_setDates_86 (by decide) ?_
            refine g_ireti hR dX5_setDates_87 rfl ?_
            clear hR hC hI
            subst hM15
            subst hM14
            refine pRf_i ?_ ?_ <;> (try simp +decide only [up2_row, up2_self, pk_us]) <;> grind [sp_setDates, wi]
          · refine g_iconst (v := 1) hC dX5_setDates_82 (by decide) ?_
            refine g_goto (tgt := 87) hC dX5_setDates_83 (by decide) ?_
            refine g_ireti hR dX5_setDates_87 rfl ?_
            clear hR hC hI
            subst hM15
            subst hM14
            refine pRf_i ?_ ?_ <;> (try simp +decide only [up2_row, up2_self, pk_us]) <;> grind [sp_setDates, wi]
        · refine g_iload_n hC dX5_setDates_46 rfl ?_
          refine g_aload_n hC dX5_setDates_47 rfl ?_
          refine g_get hC rfl rO rfl kl_X5 18 (by decide) kf_X5_56 rfl rfl dX5_setDates_48 ?_
          refine g_iload_n hC dX5_setDates_51 rfl ?_
          refine g_iald hC rfl rA1014 i rfl hi (by decide) dX5_setDates_52 ?_
          refine g_icmp_eq (tgt := 60) hC dX5_setDates_53 (by decide) (fun c53 => ?_) (fun c53 => ?_)
          · refine g_iconst (v := 0) hC dX5_setDates_60 (by decide) ?_
            refine g_istore hC dX5_setDates_61 (by decide) ?_
            refine g_aload_n hC dX5_setDates_63 rfl ?_
            refine g_get hC rfl rO rfl kl_X5 17 (by decide) kf_X5_53 rfl rfl dX5_setDates_64 ?_
            refine g_iload_n hC dX5_setDates_67 rfl ?_
            refine g_iload_n hC dX5_setDates_68 rfl ?_
            refine g_iast hC rfl rA1013 i rfl hi (by decide) dX5_setDates_69 (fun en16 hen16 => ?_)
            replace hen16 := rQ1013 hen16
            obtain ⟨M16, hM16, hen16⟩ := hen16
            subst hen16
            refine g_aload_n hC dX5_setDates_70 rfl ?_
            refine g_get hC rfl rO rfl kl_X5 18 (by decide) kf_X5_56 rfl rfl dX5_setDates_71 ?_
            refine g_iload_n hC dX5_setDates_74 rfl ?_
            refine g_iload_n hC dX5_setDates_75 rfl ?_
            refine g_iast hC rfl rA1014 i rfl hi (by decide) dX5_setDates_76 (fun en17 hen17 => ?_)
            replace hen17 := rQ1014 hen17
            obtain ⟨M17, hM17, hen17⟩ := hen17
            subst hen17
            refine g_iload hC dX5_setDates_77 rfl ?_
            refine g_if_eq (tgt := 86) hC dX5_setDates_79 (by decide) (fun c79 => ?_) (fun c79 => ?_)
            · refine g_iconst (v := 0) hC dX5_setDates_86 (by decide) ?_
              refine g_ireti hR dX5_setDates_87 rfl ?_
              clear hR hC hI
              subst hM17
              subst hM16
              refine pRf_i ?_ ?_ <;> (try simp +decide only [up2_row, up2_self, pk_us]) <;> grind [sp_setDates, wi]
            · refine g_iconst (v := 1) hC dX5_setDates_82 (by decide) ?_
              refine g_goto (tgt := 87) hC dX5_setDates_83 (by decide) ?_
              refine g_ireti hR dX5_setDates_87 rfl ?_
              clear hR hC hI
              subst hM17
              subst hM16
              refine pRf_i ?_ ?_ <;> (try simp +decide only [up2_row, up2_self, pk_us]) <;> grind [sp_setDates, wi]
          · refine g_iconst (v := 1) hC dX5_setDates_56 (by decide) ?_
            refine g_goto (tgt := 61) hC dX5_setDates_57 (by decide) ?_
            refine g_istore hC dX5_setDates_61 (by decide) ?_
            refine g_aload_n hC dX5_setDates_63 rfl ?_
            refine g_get hC rfl rO rfl kl_X5 17 (by decide) kf_X5_53 rfl rfl dX5_setDates_64 ?_
            refine g_iload_n hC dX5_setDates_67 rfl ?_
            refine g_iload_n hC dX5_setDates_68 rfl ?_
            refine g_iast hC rfl rA1013 i rfl hi (by decide) dX5_setDates_69 (fun en18 hen18 => ?_)
            replace hen18 := rQ1013 hen18
            obtain ⟨M18, hM18, hen18⟩ := hen18
            subst hen18
            refine g_aload_n hC dX5_setDates_70 rfl ?_
            refine g_get hC rfl rO rfl kl_X5 18 (by decide) kf_X5_56 rfl rfl dX5_setDates_71 ?_
            refine g_iload_n hC dX5_setDates_74 rfl ?_
            refine g_iload_n hC dX5_setDates_75 rfl ?_
            refine g_iast hC rfl rA1014 i rfl hi (by decide) dX5_setDates_76 (fun en19 hen19 => ?_)
            replace hen19 := rQ1014 hen19
            obtain ⟨M19, hM19, hen19⟩ := hen19
            subst hen19
            refine g_iload hC dX5_setDates_77 rfl ?_
            refine g_if_eq (tgt := 86) hC dX5_setDates_79 (by decide) (fun c79 => ?_) (fun c79 => ?_)
            · refine g_iconst (v := 0) hC dX5_setDates_86 (by decide) ?_
              refine g_ireti hR dX5_setDates_87 rfl ?_
              clear hR hC hI
              subst hM19
              subst hM18
              refine pRf_i ?_ ?_ <;> (try simp +decide only [up2_row, up2_self, pk_us]) <;> grind [sp_setDates, wi]
            · refine g_iconst (v := 1) hC dX5_setDates_82 (by decide) ?_
              refine g_goto (tgt := 87) hC dX5_setDates_83 (by decide) ?_
              refine g_ireti hR dX5_setDates_87 rfl ?_
              clear hR hC hI
              subst hM19
              subst hM18
              refine pRf_i ?_ ?_ <;> (try simp +decide only [up2_row, up2_self, pk_us]) <;> grind [sp_setDates, wi]
      · refine g_bipush (v := (-3)) hC dX5_setDates_33 (by decide) ?_
        refine g_ireti hR dX5_setDates_35 rfl ?_
        clear hR hC hI
        refine pRf_i ?_ ?_ <;> (try simp +decide only [up2_row, up2_self, pk_us]) <;> grind [sp_setDates, wi]
  · refine g_bipush (v := (-2)) hC dX5_setDates_8 (by decide) ?_
    refine g_ireti hR dX5_setDates_10 rfl ?_
    clear hR hC hI
    refine pRf_i ?_ ?_ <;> (try simp +decide only [up2_row, up2_self, pk_us]) <;> grind [sp_setDates, wi]

set_option maxHeartbeats 4000000 in
set_option maxRecDepth 100000 in
theorem c_X5_twoBarred (l : Launch) (X : gX) (b0 : Nat) (lo : gL) (M T : rM2) (e0 : gE) (p q : Int32) : Ct l X b0 lo (enR X lo M T e0) yX5_twoBarred cX5_twoBarred 3 (some FieldType.int) (rM 2 43) [.ref (lo 1000), .int p, .int q] (pX (.int (tbF M p q)) lo (enR X lo M T e0)) := by
  refine gMet (by decide) (Nat.le_of_ble_eq_true rfl) rfl ?_
  intro Z hC hI hR
  refine g_aload_n hC dX5_twoBarred_0 rfl ?_
  refine g_iload_n hC dX5_twoBarred_1 rfl ?_
  refine g_callV hC v_X5_noMould km_X5_85 (c_X5_noMould l X b0 lo _ _ e0 _) rfl rO rfl rfl rfl rfl (Nat.le_of_ble_eq_true rfl) ⟨by decide, by decide⟩ ⟨by decide, by decide⟩ dX5_twoBarred_2 (kX ?_)
  refine g_if_ne (tgt := 16) hC dX5_twoBarred_5 (by decide) (fun c5 => ?_) (fun c5 => ?_)
  · refine g_iconst (v := (-1)) hC dX5_twoBarred_16 (by decide) ?_
    refine g_goto (tgt := 31) hC dX5_twoBarred_17 (by decide) ?_
    refine g_ireti hR dX5_twoBarred_31 rfl ?_
    clear hR hC hI
    refine pXi ?_
    grind [tbF]
  · refine g_aload_n hC dX5_twoBarred_8 rfl ?_
    refine g_iload_n hC dX5_twoBarred_9 rfl ?_
    refine g_callV hC v_X5_noMould km_X5_85 (c_X5_noMould l X b0 lo _ _ e0 _) rfl rO rfl rfl rfl rfl (Nat.le_of_ble_eq_true rfl) ⟨by decide, by decide⟩ ⟨by decide, by decide⟩ dX5_twoBarred_10 (kX ?_)
    refine g_if_eq (tgt := 20) hC dX5_twoBarred_13 (by decide) (fun c13 => ?_) (fun c13 => ?_)
    · refine g_iload_n hC dX5_twoBarred_20 rfl ?_
      refine g_iload_n hC dX5_twoBarred_21 rfl ?_
      refine g_icmp_ne (tgt := 30) hC dX5_twoBarred_22 (by decide) (fun c22 => ?_) (fun c22 => ?_)
      · refine g_iconst (v := 0) hC dX5_twoBarred_30 (by decide) ?_
        refine g_ireti hR dX5_twoBarred_31 rfl ?_
        clear hR hC hI
        refine pXi ?_
        grind [tbF]
      · refine g_bipush (v := (-3)) hC dX5_twoBarred_25 (by decide) ?_
        refine g_goto (tgt := 31) hC dX5_twoBarred_27 (by decide) ?_
        refine g_ireti hR dX5_twoBarred_31 rfl ?_
        clear hR hC hI
        refine pXi ?_
        grind [tbF]
    · refine g_iconst (v := (-1)) hC dX5_twoBarred_16 (by decide) ?_
      refine g_goto (tgt := 31) hC dX5_twoBarred_17 (by decide) ?_
      refine g_ireti hR dX5_twoBarred_31 rfl ?_
      clear hR hC hI
      refine pXi ?_
      grind [tbF]

set_option maxHeartbeats 4000000 in
set_option maxRecDepth 100000 in
theorem c_X5_bothBarred (l : Launch) (X : gX) (b0 : Nat) (lo : gL) (M T : rM2) (e0 : gE) (p q : Int32) : Ct l X b0 lo (enR X lo M T e0) yX5_bothBarred cX5_bothBarred 3 (some FieldType.int) (rM 2 43) [.ref (lo 1000), .int p, .int q] (pX (.int (bbF M p q)) lo (enR X lo M T e0)) := by
  refine gMet (by decide) (Nat.le_of_ble_eq_true rfl) rfl ?_
  intro Z hC hI hR
  refine g_aload_n hC dX5_bothBarred_0 rfl ?_
  refine g_iload_n hC dX5_bothBarred_1 rfl ?_
  refine g_callV hC v_X5_noSheet km_X5_102 (c_X5_noSheet l X b0 lo _ _ e0 _) rfl rO rfl rfl rfl rfl (Nat.le_of_ble_eq_true rfl) ⟨by decide, by decide⟩ ⟨by decide, by decide⟩ dX5_bothBarred_2 (kX ?_)
  refine g_if_eq (tgt := 13) hC dX5_bothBarred_5 (by decide) (fun c5 => ?_) (fun c5 => ?_)
  · refine g_aload_n hC dX5_bothBarred_13 rfl ?_
    refine g_iload_n hC dX5_bothBarred_14 rfl ?_
    refine g_callV hC v_X5_noMould km_X5_85 (c_X5_noMould l X b0 lo _ _ e0 _) rfl rO rfl rfl rfl rfl (Nat.le_of_ble_eq_true rfl) ⟨by decide, by decide⟩ ⟨by decide, by decide⟩ dX5_bothBarred_15 (kX ?_)
    refine g_if_eq (tgt := 25) hC dX5_bothBarred_18 (by decide) (fun c18 => ?_) (fun c18 => ?_)
    · refine g_iconst (v := 0) hC dX5_bothBarred_25 (by decide) ?_
      refine g_ireti hR dX5_bothBarred_26 rfl ?_
      clear hR hC hI
      refine pXi ?_
      grind [bbF]
    · refine g_iconst (v := (-1)) hC dX5_bothBarred_21 (by decide) ?_
      refine g_goto (tgt := 26) hC dX5_bothBarred_22 (by decide) ?_
      refine g_ireti hR dX5_bothBarred_26 rfl ?_
      clear hR hC hI
      refine pXi ?_
      grind [bbF]
  · refine g_bipush (v := (-2)) hC dX5_bothBarred_8 (by decide) ?_
    refine g_goto (tgt := 26) hC dX5_bothBarred_10 (by decide) ?_
    refine g_ireti hR dX5_bothBarred_26 rfl ?_
    clear hR hC hI
    refine pXi ?_
    grind [bbF]

theorem nI_inc (k : Nat) : nI k + Int32.ofInt 1 = nI (k + 1) := nI_1 k
set_option maxHeartbeats 4000000 in
set_option maxRecDepth 100000 in
theorem c_X5_twinSpacings (l : Launch) (X : gX) (b0 : Nat) (lo : gL) (M T : rM2) (e0 : gE) (hM : Iv M) (a b : Nat) (ha : a < nMo M) (hb : b < nMo M) : Ct l X b0 lo (enR X lo M T e0) yX5_twinSpacings cX5_twinSpacings 6 (some FieldType.int) (rM 1 21) [.ref (lo 1000), .int (nI a), .int (nI b)] (pX (.int (twF M a b)) lo (enR X lo M T e0)) := by
  refine gMet (by decide) (Nat.le_of_ble_eq_true rfl) rfl ?_
  intro Z hC hI hR
  obtain ⟨n4, hn4, en4⟩ := natOf (n := 10) hM.2.2.2.1 rfl (by decide)
  have hN : nMo M = n4 := by unfold nMo; rw [en4]; exact nt_nI (by omega)
  have hA := hM.2.2.2.2.2.2.1 a ha
  obtain ⟨n, hn, en⟩ := natOf (n := 10) (x := M 1 a) ⟨by have := hA.1.1; grind, hA.1.2⟩ rfl (by decide)
  have hn2 : nt (M 1 a) = n := by rw [en]; exact nt_nI (by omega)
  refine g_aload_n hC dX5_twinSpacings_0 rfl ?_
  refine g_get hC rfl rO rfl kl_X5 5 (by decide) kf_X5_20 rfl rfl dX5_twinSpacings_1 ?_
  refine g_iload_n hC dX5_twinSpacings_4 rfl ?_
  refine g_iald hC rfl rA1002 a rfl (by omega) (by decide) dX5_twinSpacings_5 ?_
  refine g_aload_n hC dX5_twinSpacings_6 rfl ?_
  refine g_get hC rfl rO rfl kl_X5 5 (by decide) kf_X5_20 rfl rfl dX5_twinSpacings_7 ?_
  refine g_iload_n hC dX5_twinSpacings_10 rfl ?_
  refine g_iald hC rfl rA1002 b rfl (by omega) (by decide) dX5_twinSpacings_11 ?_
  refine g_icmp_ne (tgt := 30) hC dX5_twinSpacings_12 (by decide) (fun c12 => ?_) (fun c12 => ?_)
  · refine g_bipush (v := (-6)) hC dX5_twinSpacings_30 (by decide) ?_
    refine g_ireti hR dX5_twinSpacings_32 rfl ?_
    clear hR hC hI
    refine pXi ?_
    grind [twF, gdM]
  · refine g_aload_n hC dX5_twinSpacings_15 rfl ?_
    refine g_get hC rfl rO rfl kl_X5 7 (by decide) kf_X5_26 rfl rfl dX5_twinSpacings_16 ?_
    refine g_iload_n hC dX5_twinSpacings_19 rfl ?_
    refine g_iald hC rfl rA1004 a rfl (by omega) (by decide) dX5_twinSpacings_20 ?_
    refine g_aload_n hC dX5_twinSpacings_21 rfl ?_
    refine g_get hC rfl rO rfl kl_X5 7 (by decide) kf_X5_26 rfl rfl dX5_twinSpacings_22 ?_
    refine g_iload_n hC dX5_twinSpacings_25 rfl ?_
    refine g_iald hC rfl rA1004 b rfl (by omega) (by decide) dX5_twinSpacings_26 ?_
    refine g_icmp_eq (tgt := 33) hC dX5_twinSpacings_27 (by decide) (fun c27 => ?_) (fun c27 => ?_)
    · refine g_iconst (v := 0) hC dX5_twinSpacings_33 (by decide) ?_
      refine g_istore_n hC dX5_twinSpacings_34 (by decide) ?_
      refine g_iconst (v := 0) hC dX5_twinSpacings_35 (by decide) ?_
      refine g_istore hC dX5_twinSpacings_36 (by decide) ?_
      have lp : ∀ (r : Nat) (k : Nat), k + r = n → GO l X b0 Z 0 0 lo (enR X lo M T e0) 38 [(0, .ref (lo 1000)), (1, .int (nI a)), (2, .int (nI b)), (3, .int (gdF (fun k => M 2 (10 * a + k)) (fun k => M 2 (10 * b + k)) k)), (4, .int (nI k))] [] := by
        intro r
        induction r with
        | zero =>
          intro k hk
          have hkn : k = n := by omega
          subst hkn
          refine g_iload hC dX5_twinSpacings_38 rfl ?_
          refine g_aload_n hC dX5_twinSpacings_40 rfl ?_
          refine g_get hC rfl rO rfl kl_X5 5 (by decide) kf_X5_20 rfl rfl dX5_twinSpacings_41 ?_
          refine g_iload_n hC dX5_twinSpacings_44 rfl ?_
          refine g_iald hC rfl rA1002 a rfl (by omega) (by decide) dX5_twinSpacings_45 ?_
          refine g_icmp_ge (tgt := 97) hC dX5_twinSpacings_46 (by decide) (fun c46 => ?_) (fun c46 => absurd (by rw [en]; exact nI_le (by omega) (by omega)) c46)
          refine g_iload_n hC dX5_twinSpacings_97 rfl ?_
          refine g_aload_n hC dX5_twinSpacings_98 rfl ?_
          refine g_get hC rfl rO rfl kl_X5 2 (by decide) kf_X5_13 rfl rfl dX5_twinSpacings_99 ?_
          refine g_icmp_le (tgt := 110) hC dX5_twinSpacings_102 (by decide) (fun c102 => ?_) (fun c102 => ?_)
          · refine g_iload_n hC dX5_twinSpacings_110 rfl ?_
            refine g_ireti hR dX5_twinSpacings_111 rfl ?_
            clear hR hC hI
            refine pXi ?_
            grind [twF, gdM]
          · refine g_bipush (v := (-6)) hC dX5_twinSpacings_105 (by decide) ?_
            refine g_goto (tgt := 111) hC dX5_twinSpacings_107 (by decide) ?_
            refine g_ireti hR dX5_twinSpacings_111 rfl ?_
            clear hR hC hI
            refine pXi ?_
            grind [twF, gdM]
        | succ r ihlp =>
          intro k hk
          refine g_iload hC dX5_twinSpacings_38 rfl ?_
          refine g_aload_n hC dX5_twinSpacings_40 rfl ?_
          refine g_get hC rfl rO rfl kl_X5 5 (by decide) kf_X5_20 rfl rfl dX5_twinSpacings_41 ?_
          refine g_iload_n hC dX5_twinSpacings_44 rfl ?_
          refine g_iald hC rfl rA1002 a rfl (by omega) (by decide) dX5_twinSpacings_45 ?_
          refine g_icmp_ge (tgt := 97) hC dX5_twinSpacings_46 (by decide) (fun c46 => absurd c46 (by rw [en]; exact nI_ge (by omega) (by omega))) (fun c46 => ?_)
          refine g_aload_n hC dX5_twinSpacings_49 rfl ?_
          refine g_get hC rfl rO rfl kl_X5 6 (by decide) kf_X5_23 rfl rfl dX5_twinSpacings_50 ?_
          refine g_bipush (v := 10) hC dX5_twinSpacings_53 (by decide) ?_
          refine g_iload_n hC dX5_twinSpacings_55 rfl ?_
          refine g_imul hC dX5_twinSpacings_56 ?_
          refine g_iload hC dX5_twinSpacings_57 rfl ?_
          refine g_iadd hC dX5_twinSpacings_59 ?_
          refine g_iald hC rfl rA1003 (10 * a + k) (ix10 rfl rfl) (by omega) (by decide) dX5_twinSpacings_60 ?_
          refine g_aload_n hC dX5_twinSpacings_61 rfl ?_
          refine g_get hC rfl rO rfl kl_X5 6 (by decide) kf_X5_23 rfl rfl dX5_twinSpacings_62 ?_
          refine g_bipush (v := 10) hC dX5_twinSpacings_65 (by decide) ?_
          refine g_iload_n hC dX5_twinSpacings_67 rfl ?_
          refine g_imul hC dX5_twinSpacings_68 ?_
          refine g_iload hC dX5_twinSpacings_69 rfl ?_
          refine g_iadd hC dX5_twinSpacings_71 ?_
          refine g_iald hC rfl rA1003 (10 * b + k) (ix10 rfl rfl) (by omega) (by decide) dX5_twinSpacings_72 ?_
          refine g_callS hC v_X5_apart km_X5_89 (c_X5_apart l X b0 lo _ _ _) rfl rfl (Nat.le_of_ble_eq_true rfl) ⟨by decide, by decide⟩ ⟨by decide, by decide⟩ dX5_twinSpacings_73 (kX ?_)
          refine g_istore hC dX5_twinSpacings_76 (by decide) ?_
          refine g_iload hC dX5_twinSpacings_78 rfl ?_
          refine g_iload_n hC dX5_twinSpacings_80 rfl ?_
          refine g_icmp_le (tgt := 89) hC dX5_twinSpacings_81 (by decide) (fun c81 => ?_) (fun c81 => ?_)
          · refine g_iload_n hC dX5_twinSpacings_89 rfl ?_
            refine g_val (y := gdF (fun k => M 2 (10 * a + k)) (fun k => M 2 (10 * b + k)) (k + 1)) (by grind [gdF]) ?_
            refine g_istore_n hC dX5_twinSpacings_90 (by decide) ?_
            refine g_iinc hC dX5_twinSpacings_91 rfl (nI_inc k) (by decide) ?_
            refine g_goto (tgt := 38) hC dX5_twinSpacings_94 (by decide) ?_
            exact g_lv (lv' := [(0, .ref (lo 1000)), (1, .int (nI a)), (2, .int (nI b)), (3, .int (gdF (fun k => M 2 (10 * a + k)) (fun k => M 2 (10 * b + k)) (k + 1))), (4, .int (nI (k + 1)))]) ⟨rfl, rfl, rfl, rfl, rfl, trivial⟩ (ihlp (k + 1) (by omega))
          · refine g_iload hC dX5_twinSpacings_84 rfl ?_
            refine g_goto (tgt := 90) hC dX5_twinSpacings_86 (by decide) ?_
            refine g_val (y := gdF (fun k => M 2 (10 * a + k)) (fun k => M 2 (10 * b + k)) (k + 1)) (by grind [gdF]) ?_
            refine g_istore_n hC dX5_twinSpacings_90 (by decide) ?_
            refine g_iinc hC dX5_twinSpacings_91 rfl (nI_inc k) (by decide) ?_
            refine g_goto (tgt := 38) hC dX5_twinSpacings_94 (by decide) ?_
            exact g_lv (lv' := [(0, .ref (lo 1000)), (1, .int (nI a)), (2, .int (nI b)), (3, .int (gdF (fun k => M 2 (10 * a + k)) (fun k => M 2 (10 * b + k)) (k + 1))), (4, .int (nI (k + 1)))]) ⟨rfl, rfl, rfl, rfl, rfl, trivial⟩ (ihlp (k + 1) (by omega))
      exact g_lv (lv' := [(0, .ref (lo 1000)), (1, .int (nI a)), (2, .int (nI b)), (3, .int 0), (4, .int (nI 0))]) ⟨rfl, rfl, rfl, rfl, rfl, trivial⟩ (lp n 0 (by omega))
    · refine g_bipush (v := (-6)) hC dX5_twinSpacings_30 (by decide) ?_
      refine g_ireti hR dX5_twinSpacings_32 rfl ?_
      clear hR hC hI
      refine pXi ?_
      grind [twF, gdM]

set_option maxHeartbeats 4000000 in
set_option maxRecDepth 100000 in
theorem c_X5_areTwins (l : Launch) (X : gX) (b0 : Nat) (lo : gL) (M T : rM2) (e0 : gE) (hM : Iv M) (p q : Int32) : Ct l X b0 lo (enR X lo M T e0) yX5_areTwins cX5_areTwins 4 (some FieldType.int) (rM 3 65) [.ref (lo 1000), .int p, .int q] (pRf X lo e0 (sp_areTwins M p q)) := by
  refine gMet (by decide) (Nat.le_of_ble_eq_true rfl) rfl ?_
  intro Z hC hI hR
  refine g_aload_n hC dX5_areTwins_0 rfl ?_
  refine g_iload_n hC dX5_areTwins_1 rfl ?_
  refine g_iload_n hC dX5_areTwins_2 rfl ?_
  refine g_callV hC v_X5_twoBarred km_X5_93 (c_X5_twoBarred l X b0 lo _ _ e0 _ _) rfl rO rfl rfl rfl rfl (Nat.le_of_ble_eq_true rfl) ⟨by decide, by decide⟩ ⟨by decide, by decide⟩ dX5_areTwins_3 (kX ?_)
  refine g_istore_n hC dX5_areTwins_6 (by decide) ?_
  refine g_iload_n hC dX5_areTwins_7 rfl ?_
  refine g_if_ge (tgt := 15) hC dX5_areTwins_8 (by decide) (fun c8 => ?_) (fun c8 => ?_)
  · have h0 : tbF M p q = 0 := by grind [tbF]
    have hb2 : isMo M p ∧ isMo M q := by grind [tbF]
    obtain ⟨a, ha, rfl, hi1, -⟩ := moOf hM hb2.1
    obtain ⟨b, hb, rfl, hi2, -⟩ := moOf hM hb2.2
    have ea : nt (nI a) = a := nt_nI (by omega)
    have eb : nt (nI b) = b := nt_nI (by omega)
    refine g_aload_n hC dX5_areTwins_15 rfl ?_
    refine g_iload_n hC dX5_areTwins_16 rfl ?_
    refine g_iload_n hC dX5_areTwins_17 rfl ?_
    refine g_callV hC v_X5_twinSpacings km_X5_96 (c_X5_twinSpacings l X b0 lo _ _ e0 hM _ _ hi1 hi2) rfl rO rfl rfl rfl rfl (Nat.le_of_ble_eq_true rfl) ⟨by decide, by decide⟩ ⟨by decide, by decide⟩ dX5_areTwins_18 (kX ?_)
    refine g_if_ge (tgt := 28) hC dX5_areTwins_21 (by decide) (fun c21 => ?_) (fun c21 => ?_)
    · refine g_iconst (v := 1) hC dX5_areTwins_28 (by decide) ?_
      refine g_ireti hR dX5_areTwins_29 rfl ?_
      clear hR hC hI
      refine pRf_i ?_ ?_ <;> (try simp +decide only [up2_row, up2_self, pk_us]) <;> grind [sp_areTwins]
    · refine g_iconst (v := 0) hC dX5_areTwins_24 (by decide) ?_
      refine g_goto (tgt := 29) hC dX5_areTwins_25 (by decide) ?_
      refine g_ireti hR dX5_areTwins_29 rfl ?_
      clear hR hC hI
      refine pRf_i ?_ ?_ <;> (try simp +decide only [up2_row, up2_self, pk_us]) <;> grind [sp_areTwins]
  · refine g_iload_n hC dX5_areTwins_11 rfl ?_
    refine g_goto (tgt := 29) hC dX5_areTwins_12 (by decide) ?_
    refine g_ireti hR dX5_areTwins_29 rfl ?_
    clear hR hC hI
    refine pRf_i ?_ ?_ <;> (try simp +decide only [up2_row, up2_self, pk_us]) <;> grind [sp_areTwins]

set_option maxHeartbeats 4000000 in
set_option maxRecDepth 100000 in
theorem c_X5_twinDifference (l : Launch) (X : gX) (b0 : Nat) (lo : gL) (M T : rM2) (e0 : gE) (hM : Iv M) (p q : Int32) : Ct l X b0 lo (enR X lo M T e0) yX5_twinDifference cX5_twinDifference 7 (some FieldType.int) (rM 3 65) [.ref (lo 1000), .int p, .int q] (pRf X lo e0 (sp_twinDifference M p q)) := by
  refine gMet (by decide) (Nat.le_of_ble_eq_true rfl) rfl ?_
  intro Z hC hI hR
  refine g_aload_n hC dX5_twinDifference_0 rfl ?_
  refine g_iload_n hC dX5_twinDifference_1 rfl ?_
  refine g_iload_n hC dX5_twinDifference_2 rfl ?_
  refine g_callV hC v_X5_twoBarred km_X5_93 (c_X5_twoBarred l X b0 lo _ _ e0 _ _) rfl rO rfl rfl rfl rfl (Nat.le_of_ble_eq_true rfl) ⟨by decide, by decide⟩ ⟨by decide, by decide⟩ dX5_twinDifference_3 (kX ?_)
  refine g_istore_n hC dX5_twinDifference_6 (by decide) ?_
  refine g_iload_n hC dX5_twinDifference_7 rfl ?_
  refine g_if_ge (tgt := 13) hC dX5_twinDifference_8 (by decide) (fun c8 => ?_) (fun c8 => ?_)
  · have h0 : tbF M p q = 0 := by grind [tbF]
    have hb2 : isMo M p ∧ isMo M q := by grind [tbF]
    obtain ⟨a, ha, rfl, hi1, -⟩ := moOf hM hb2.1
    obtain ⟨b, hb, rfl, hi2, -⟩ := moOf hM hb2.2
    have ea : nt (nI a) = a := nt_nI (by omega)
    have eb : nt (nI b) = b := nt_nI (by omega)
    refine g_aload_n hC dX5_twinDifference_13 rfl ?_
    refine g_iload_n hC dX5_twinDifference_14 rfl ?_
    refine g_iload_n hC dX5_twinDifference_15 rfl ?_
    refine g_callV hC v_X5_twinSpacings km_X5_96 (c_X5_twinSpacings l X b0 lo _ _ e0 hM _ _ hi1 hi2) rfl rO rfl rfl rfl rfl (Nat.le_of_ble_eq_true rfl) ⟨by decide, by decide⟩ ⟨by decide, by decide⟩ dX5_twinDifference_16 (kX ?_)
    refine g_istore hC dX5_twinDifference_19 (by decide) ?_
    refine g_aload_n hC dX5_twinDifference_21 rfl ?_
    refine g_get hC rfl rO rfl kl_X5 9 (by decide) kf_X5_32 rfl rfl dX5_twinDifference_22 ?_
    refine g_bipush (v := 6) hC dX5_twinDifference_25 (by decide) ?_
    refine g_iload_n hC dX5_twinDifference_27 rfl ?_
    refine g_imul hC dX5_twinDifference_28 ?_
    refine g_iald hC rfl rA1006 (6 * a) (ix6' rfl) (by omega) (by decide) dX5_twinDifference_29 ?_
    refine g_aload_n hC dX5_twinDifference_30 rfl ?_
    refine g_get hC rfl rO rfl kl_X5 9 (by decide) kf_X5_32 rfl rfl dX5_twinDifference_31 ?_
    refine g_bipush (v := 6) hC dX5_twinDifference_34 (by decide) ?_
    refine g_iload_n hC dX5_twinDifference_36 rfl ?_
    refine g_imul hC dX5_twinDifference_37 ?_
    refine g_iald hC rfl rA1006 (6 * b) (ix6' rfl) (by omega) (by decide) dX5_twinDifference_38 ?_
    refine g_callS hC v_X5_apart km_X5_89 (c_X5_apart l X b0 lo _ _ _) rfl rfl (Nat.le_of_ble_eq_true rfl) ⟨by decide, by decide⟩ ⟨by decide, by decide⟩ dX5_twinDifference_39 (kX ?_)
    refine g_istore hC dX5_twinDifference_42 (by decide) ?_
    refine g_aload_n hC dX5_twinDifference_44 rfl ?_
    refine g_get hC rfl rO rfl kl_X5 10 (by decide) kf_X5_35 rfl rfl dX5_twinDifference_45 ?_
    refine g_bipush (v := 6) hC dX5_twinDifference_48 (by decide) ?_
    refine g_iload_n hC dX5_twinDifference_50 rfl ?_
    refine g_imul hC dX5_twinDifference_51 ?_
    refine g_iald hC rfl rA1007 (6 * a) (ix6' rfl) (by omega) (by decide) dX5_twinDifference_52 ?_
    refine g_aload_n hC dX5_twinDifference_53 rfl ?_
    refine g_get hC rfl rO rfl kl_X5 10 (by decide) kf_X5_35 rfl rfl dX5_twinDifference_54 ?_
    refine g_bipush (v := 6) hC dX5_twinDifference_57 (by decide) ?_
    refine g_iload_n hC dX5_twinDifference_59 rfl ?_
    refine g_imul hC dX5_twinDifference_60 ?_
    refine g_iald hC rfl rA1007 (6 * b) (ix6' rfl) (by omega) (by decide) dX5_twinDifference_61 ?_
    refine g_callS hC v_X5_apart km_X5_89 (c_X5_apart l X b0 lo _ _ _) rfl rfl (Nat.le_of_ble_eq_true rfl) ⟨by decide, by decide⟩ ⟨by decide, by decide⟩ dX5_twinDifference_62 (kX ?_)
    refine g_istore hC dX5_twinDifference_65 (by decide) ?_
    refine g_iload hC dX5_twinDifference_67 rfl ?_
    refine g_if_ge (tgt := 75) hC dX5_twinDifference_69 (by decide) (fun c69 => ?_) (fun c69 => ?_)
    · refine g_iload hC dX5_twinDifference_75 rfl ?_
      refine g_iload hC dX5_twinDifference_77 rfl ?_
      refine g_icmp_le (tgt := 87) hC dX5_twinDifference_79 (by decide) (fun c79 => ?_) (fun c79 => ?_)
      · refine g_iload hC dX5_twinDifference_87 rfl ?_
        refine g_istore hC dX5_twinDifference_89 (by decide) ?_
        refine g_iload hC dX5_twinDifference_91 rfl ?_
        refine g_iload hC dX5_twinDifference_93 rfl ?_
        refine g_icmp_le (tgt := 103) hC dX5_twinDifference_95 (by decide) (fun c95 => ?_) (fun c95 => ?_)
        · refine g_iload hC dX5_twinDifference_103 rfl ?_
          refine g_ireti hR dX5_twinDifference_105 rfl ?_
          clear hR hC hI
          refine pRf_i ?_ ?_ <;> (try simp +decide only [up2_row, up2_self, pk_us]) <;> grind [sp_twinDifference, mx]
        · refine g_iload hC dX5_twinDifference_98 rfl ?_
          refine g_goto (tgt := 105) hC dX5_twinDifference_100 (by decide) ?_
          refine g_ireti hR dX5_twinDifference_105 rfl ?_
          clear hR hC hI
          refine pRf_i ?_ ?_ <;> (try simp +decide only [up2_row, up2_self, pk_us]) <;> grind [sp_twinDifference, mx]
      · refine g_iload hC dX5_twinDifference_82 rfl ?_
        refine g_goto (tgt := 89) hC dX5_twinDifference_84 (by decide) ?_
        refine g_istore hC dX5_twinDifference_89 (by decide) ?_
        refine g_iload hC dX5_twinDifference_91 rfl ?_
        refine g_iload hC dX5_twinDifference_93 rfl ?_
        refine g_icmp_le (tgt := 103) hC dX5_twinDifference_95 (by decide) (fun c95 => ?_) (fun c95 => ?_)
        · refine g_iload hC dX5_twinDifference_103 rfl ?_
          refine g_ireti hR dX5_twinDifference_105 rfl ?_
          clear hR hC hI
          refine pRf_i ?_ ?_ <;> (try simp +decide only [up2_row, up2_self, pk_us]) <;> grind [sp_twinDifference, mx]
        · refine g_iload hC dX5_twinDifference_98 rfl ?_
          refine g_goto (tgt := 105) hC dX5_twinDifference_100 (by decide) ?_
          refine g_ireti hR dX5_twinDifference_105 rfl ?_
          clear hR hC hI
          refine pRf_i ?_ ?_ <;> (try simp +decide only [up2_row, up2_self, pk_us]) <;> grind [sp_twinDifference, mx]
    · refine g_bipush (v := (-6)) hC dX5_twinDifference_72 (by decide) ?_
      refine g_ireti hR dX5_twinDifference_74 rfl ?_
      clear hR hC hI
      refine pRf_i ?_ ?_ <;> (try simp +decide only [up2_row, up2_self, pk_us]) <;> grind [sp_twinDifference, mx]
  · refine g_iload_n hC dX5_twinDifference_11 rfl ?_
    refine g_ireti hR dX5_twinDifference_12 rfl ?_
    clear hR hC hI
    refine pRf_i ?_ ?_ <;> (try simp +decide only [up2_row, up2_self, pk_us]) <;> grind [sp_twinDifference, mx]
