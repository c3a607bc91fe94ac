/-! ===== the class: states, tolerances, dates ===== -/
/-- the known flags of mould i are taken back, all else stays -/
def fgO (C C1 : rM3) (i n : Nat) : Prop := (∀ j, j < n → C1 8 (16 * j + i) 0 = 0) ∧ ∀ b x y, ¬ (b = 8 ∧ y = 0 ∧ ∃ j, j < n ∧ x = 16 * j + i) → C1 b x y = C b x y

set_option maxHeartbeats 4000000 in
set_option maxRecDepth 100000 in
theorem c_X4_forgetMatches (l : Launch) (X : gX) (b0 : Nat) (lo : gL) (L : Nat → Nat → Nat) (K C : rM3) (e0 : gE) (i : Nat) (hi : i < 10) (hS : L 2 1 ≤ 30) : Ct l X b0 lo (enC X lo L K C e0) yX4_forgetMatches cX4_forgetMatches 3 none (rM 0 0) [.ref (lo 0), .int (nI i)] (pV lo (fun en' => ∃ C1 : rM3, en' = enC X lo L K C1 e0 ∧ fgO C C1 i (L 2 1))) := by
  refine gMet (by decide) (Nat.le_of_ble_eq_true rfl) rfl ?_
  intro Z hC hI hR
  refine g_iconst (v := 0) hC dX4_forgetMatches_0 (by decide) ?_
  refine g_istore_n hC dX4_forgetMatches_1 (by decide) ?_
  have lf : ∀ (r : Nat) (j : Nat) (C1 : rM3), j + r = L 2 1 → fgO C C1 i j → GO l X b0 Z 0 0 lo (enC X lo L K C1 e0) 2 [(0, .ref (lo 0)), (1, .int (nI i)), (2, .int (nI j))] [] := by
    intro r
    induction r with
    | zero =>
      intro j C1 hj9 hf
      have hj8 : j = L 2 1 := by omega
      subst hj8
      refine g_iload_n hC dX4_forgetMatches_2 rfl ?_
      refine g_aload_n hC dX4_forgetMatches_3 rfl ?_
      refine g_get hC rfl cO rfl kl_X4 7 (by decide) kf_X4_38 rfl rfl dX4_forgetMatches_4 ?_
      refine g_icmp_ge (tgt := 31) hC dX4_forgetMatches_7 (by decide) (fun c7 => ?_) (fun c7 => absurd (nI_le (by omega) (by omega)) c7)
      refine g_retv hR dX4_forgetMatches_31 ?_
      clear hR hC hI
      exact ⟨rfl, rfl, C1, rfl, hf⟩
    | succ r ihlf =>
      intro j C1 hj9 hf
      have hj1 : j < L 2 1 := by omega
      have hj50 : j < 50 := by omega
      refine g_iload_n hC dX4_forgetMatches_2 rfl ?_
      refine g_aload_n hC dX4_forgetMatches_3 rfl ?_
      refine g_get hC rfl cO rfl kl_X4 7 (by decide) kf_X4_38 rfl rfl dX4_forgetMatches_4 ?_
      refine g_icmp_ge (tgt := 31) hC dX4_forgetMatches_7 (by decide) (fun c7 => absurd c7 (nI_ge (by omega) (by omega))) (fun c7 => ?_)
      refine g_aload_n hC dX4_forgetMatches_10 rfl ?_
      refine g_get hC rfl cO rfl kl_X4 6 (by decide) kf_X4_34 rfl rfl dX4_forgetMatches_11 ?_
      refine g_iload_n hC dX4_forgetMatches_14 rfl ?_
      refine g_aald (t0 := 2) hC rfl cA3 rfl j rfl (by omega) (by decide) (if_pos hj1) dX4_forgetMatches_15 ?_
      refine g_get hC rfl (cS hj1 hj50) rfl kl_X2 6 (by decide) kf_X4_182 rfl rfl dX4_forgetMatches_16 ?_
      refine g_iload_n hC dX4_forgetMatches_19 rfl ?_
      refine g_aald (t0 := 3) hC rfl (cS2 hj1 hj50) rfl i rfl (by omega) (by decide) (if_pos hi) dX4_forgetMatches_20 ?_
      refine g_iconst (v := 0) hC dX4_forgetMatches_21 (by decide) ?_
      refine g_put (ty := .boolean) hC rfl (cT hj1 hj50 hi) rfl kl_X0 0 (by decide) kf_X4_186 rfl tyX0 tyX0_ok nmX0 rfl (by decide +kernel) rfl rfl (Nat.le_of_ble_eq_true rfl) dX4_forgetMatches_22 (fun en4 hen4 => ?_)
      replace hen4 := cPT0 hj1 hj50 hi hen4
      obtain ⟨C4, hC4, hen4⟩ := hen4
      subst hen4
      have hf2 : fgO C C4 i (j + 1) := by
        rw [hC4]
        refine ⟨fun j2 hj2 => ?_, fun b x y hn => ?_⟩
        · by_cases hjj : j2 = j
          · rw [hjj, up3_self, pk_us]
          · rw [up3_row (Or.inr (by omega))]
            exact hf.1 j2 (by omega)
        · have h1 : ¬ (b = 8 ∧ x = 16 * j + i ∧ y = 0) := fun z => hn ⟨z.1, z.2.2, j, by omega, z.2.1⟩
          unfold up3
          rw [if_neg h1]
          exact hf.2 b x y (fun z => hn ⟨z.1, z.2.1, z.2.2.choose, by have := z.2.2.choose_spec.1; omega, z.2.2.choose_spec.2⟩)
      refine g_iinc hC dX4_forgetMatches_25 rfl (nI_inc j) (by decide) ?_
      refine g_goto (tgt := 2) hC dX4_forgetMatches_28 (by decide) ?_
      exact g_lv (lv' := [(0, .ref (lo 0)), (1, .int (nI i)), (2, .int (nI (j + 1)))]) ⟨rfl, rfl, rfl, trivial⟩ (ihlf (j + 1) C4 (by omega) hf2)
  exact g_lv (lv' := [(0, .ref (lo 0)), (1, .int (nI i)), (2, .int (nI 0))]) ⟨rfl, rfl, rfl, trivial⟩ (lf (L 2 1) 0 C (by omega) ⟨fun j h => absurd h (by omega), fun _ _ _ _ => rfl⟩)

theorem Sm_tol {L : Nat → Nat → Nat} {K : rM3} {M : rM2} {a b : Int32} (h : Sm L K M) : Sm L (up3 (up3 K 0 2 0 a) 0 3 0 b) (up2 (up2 M 20 2 a) 20 3 b) := by
  obtain ⟨h1, h2, h3, h4, h5, h6, h7, h8⟩ := h
  refine ⟨h1, h2, by simp [up3, up2]; exact h3, by simp [up3, up2], by simp [up3, up2], ?_, ?_, ?_⟩
  · simp +decide only [up3_row, up2_row]; exact h6
  · intro i hi
    simp +decide only [up3_row, up2_row]
    exact h7 i hi
  · intro j hj
    simp +decide only [up3_row, up2_row]
    exact h8 j hj

set_option maxHeartbeats 4000000 in
set_option maxRecDepth 100000 in
theorem c_X4_setTolerances (l : Launch) (X : gX) (b0 : Nat) (lo : gL) (L : Nat → Nat → Nat) (K C : rM3) (e0 : gE) (M : rM2) (hM : Iv M) (hs : Sm L K M) (hc : Sc C M) (a b : Int32) : Ct l X b0 lo (enC X lo L K C e0) yX4_setTolerances cX4_setTolerances 4 (some FieldType.int) (rM 1 22) [.ref (lo 0), .int a, .int b] (pKl X lo e0 (sp_setTolerances M a b)) := by
  refine gMet (by decide) (Nat.le_of_ble_eq_true rfl) rfl ?_
  intro Z hC hI hR
  have h20 := hs.1
  have h21 := hs.2.1
  have hN := (Iv_nM hM).1
  have hSh := (Iv_nS hM).1
  have h2 := hs.2.2.2.1
  have h3 := hs.2.2.2.2.1
  refine g_iload_n hC dX4_setTolerances_0 rfl ?_
  refine g_iconst (v := 0) hC dX4_setTolerances_1 (by decide) ?_
  refine g_bipush (v := 50) hC dX4_setTolerances_2 (by decide) ?_
  refine g_callS hC v_X4_isWithin km_X4_54 (c_X4_isWithin l X b0 lo _ _ _ _) rfl rfl (Nat.le_of_ble_eq_true rfl) ⟨by decide, by decide⟩ ⟨by decide, by decide⟩ dX4_setTolerances_4 (kX ?_)
  refine g_if_eq (tgt := 20) hC dX4_setTolerances_7 (by decide) (fun c7 => ?_) (fun c7 => ?_)
  · refine g_bipush (v := (-3)) hC dX4_setTolerances_20 (by decide) ?_
    refine g_ireti hR dX4_setTolerances_22 rfl ?_
    clear hR hC hI
    have hsp : sp_setTolerances M a b = (-3, M) := by grind [sp_setTolerances, wi]
    rw [hsp]
    exact pKl_i rfl hs hc
  · refine g_iload_n hC dX4_setTolerances_10 rfl ?_
    refine g_iconst (v := 0) hC dX4_setTolerances_11 (by decide) ?_
    refine g_bipush (v := 100) hC dX4_setTolerances_12 (by decide) ?_
    refine g_callS hC v_X4_isWithin km_X4_54 (c_X4_isWithin l X b0 lo _ _ _ _) rfl rfl (Nat.le_of_ble_eq_true rfl) ⟨by decide, by decide⟩ ⟨by decide, by decide⟩ dX4_setTolerances_14 (kX ?_)
    refine g_if_ne (tgt := 23) hC dX4_setTolerances_17 (by decide) (fun c17 => ?_) (fun c17 => ?_)
    · refine g_aload_n hC dX4_setTolerances_23 rfl ?_
      refine g_get hC rfl cO rfl kl_X4 2 (by decide) kf_X4_17 rfl rfl dX4_setTolerances_24 ?_
      refine g_iload_n hC dX4_setTolerances_27 rfl ?_
      refine g_icmp_ne (tgt := 41) hC dX4_setTolerances_28 (by decide) (fun c28 => ?_) (fun c28 => ?_)
      · refine g_aload_n hC dX4_setTolerances_41 rfl ?_
        refine g_iload_n hC dX4_setTolerances_42 rfl ?_
        refine g_put (ty := .int) hC rfl cO rfl kl_X4 2 (by decide) kf_X4_17 rfl tyX4 tyX4_ok nmX4 rfl (by decide +kernel) rfl rfl (Nat.le_of_ble_eq_true rfl) dX4_setTolerances_43 (fun en5 hen5 => ?_)
        replace hen5 := cP0_2 hen5
        obtain ⟨K5, hK5, hen5⟩ := hen5
        subst hen5
        refine g_aload_n hC dX4_setTolerances_46 rfl ?_
        refine g_iload_n hC dX4_setTolerances_47 rfl ?_
        refine g_put (ty := .int) hC rfl cO rfl kl_X4 3 (by decide) kf_X4_20 rfl tyX4 tyX4_ok nmX4 rfl (by decide +kernel) rfl rfl (Nat.le_of_ble_eq_true rfl) dX4_setTolerances_48 (fun en6 hen6 => ?_)
        replace hen6 := cP0_3 hen6
        obtain ⟨K6, hK6, hen6⟩ := hen6
        subst hen6
        refine g_iconst (v := 0) hC dX4_setTolerances_51 (by decide) ?_
        refine g_istore_n hC dX4_setTolerances_52 (by decide) ?_
        have hKT : K6 = up3 (up3 K 0 2 0 a) 0 3 0 b := by rw [hK6, hK5]
        generalize K6 = KT at hKT ⊢
        have lt : ∀ (r : Nat) (i : Nat) (C1 : rM3), i + r = L 2 0 → (∀ j x, j < L 2 1 → x < 10 → (x < i ∨ L 2 0 ≤ x) → C1 8 (16 * j + x) 0 = 0) → GO l X b0 Z 0 0 lo (enC X lo L KT C1 e0) 53 [(0, .ref (lo 0)), (1, .int a), (2, .int b), (3, .int (nI i))] [] := by
          intro r
          induction r with
          | zero =>
            intro i C1 hi9 hz
            have hi8 : i = L 2 0 := by omega
            subst hi8
            refine g_iload_n hC dX4_setTolerances_53 rfl ?_
            refine g_aload_n hC dX4_setTolerances_54 rfl ?_
            refine g_get hC rfl cO rfl kl_X4 5 (by decide) kf_X4_29 rfl rfl dX4_setTolerances_55 ?_
            refine g_icmp_ge (tgt := 72) hC dX4_setTolerances_58 (by decide) (fun c58 => ?_) (fun c58 => absurd (nI_le (by omega) (by omega)) c58)
            refine g_iconst (v := 1) hC dX4_setTolerances_72 (by decide) ?_
            refine g_ireti hR dX4_setTolerances_73 rfl ?_
            clear hR hC hI
            have hsp : sp_setTolerances M a b = (1, up2 (up2 M 20 2 a) 20 3 b) := by grind [sp_setTolerances, wi]
            rw [hsp]
            refine pKl_i rfl (by rw [hKT]; exact Sm_tol hs) (fun j x hj hx => Or.inl (hz j x ?_ hx ?_))
            · have hj2 : j < nSh M := hj
              omega
            · omega
          | succ r ihlt =>
            intro i C1 hi9 hz
            refine g_iload_n hC dX4_setTolerances_53 rfl ?_
            refine g_aload_n hC dX4_setTolerances_54 rfl ?_
            refine g_get hC rfl cO rfl kl_X4 5 (by decide) kf_X4_29 rfl rfl dX4_setTolerances_55 ?_
            refine g_icmp_ge (tgt := 72) hC dX4_setTolerances_58 (by decide) (fun c58 => absurd c58 (nI_ge (by omega) (by omega))) (fun c58 => ?_)
            refine g_aload_n hC dX4_setTolerances_61 rfl ?_
            refine g_iload_n hC dX4_setTolerances_62 rfl ?_
            refine g_callV hC v_X4_forgetMatches km_X4_58 (c_X4_forgetMatches l X b0 lo L _ _ e0 i (by omega) (by omega)) rfl cO rfl rfl rfl rfl (Nat.le_of_ble_eq_true rfl) ⟨by decide, by decide⟩ ⟨by decide, by decide⟩ dX4_setTolerances_63 (kV ?_)
            rintro en' ⟨C9, rfl, hf9⟩
            have hz2 : ∀ j x, j < L 2 1 → x < 10 → (x < i + 1 ∨ L 2 0 ≤ x) → C9 8 (16 * j + x) 0 = 0 := by
              intro j x hj hx hxx
              by_cases hxi : x = i
              · rw [hxi]; exact hf9.1 j hj
              · rw [hf9.2 8 (16 * j + x) 0 (fun z => by obtain ⟨-, -, j2, h1, h2⟩ := z; omega)]
                exact hz j x hj hx (by omega)
            refine g_iinc hC dX4_setTolerances_66 rfl (nI_inc i) (by decide) ?_
            refine g_goto (tgt := 53) hC dX4_setTolerances_69 (by decide) ?_
            exact g_lv (lv' := [(0, .ref (lo 0)), (1, .int a), (2, .int b), (3, .int (nI (i + 1)))]) ⟨rfl, rfl, rfl, rfl, trivial⟩ (ihlt (i + 1) C9 (by omega) hz2)
        exact g_lv (lv' := [(0, .ref (lo 0)), (1, .int a), (2, .int b), (3, .int (nI 0))]) ⟨rfl, rfl, rfl, rfl, trivial⟩ (lt (L 2 0) 0 C (by omega) (fun j x hj hx hxx => (hc j x (by omega) hx).elim id (fun z => absurd z.2.1 (by omega))))
      · refine g_aload_n hC dX4_setTolerances_31 rfl ?_
        refine g_get hC rfl cO rfl kl_X4 3 (by decide) kf_X4_20 rfl rfl dX4_setTolerances_32 ?_
        refine g_iload_n hC dX4_setTolerances_35 rfl ?_
        refine g_icmp_ne (tgt := 41) hC dX4_setTolerances_36 (by decide) (fun c36 => ?_) (fun c36 => ?_)
        · refine g_aload_n hC dX4_setTolerances_41 rfl ?_
          refine g_iload_n hC dX4_setTolerances_42 rfl ?_
          refine g_put (ty := .int) hC rfl cO rfl kl_X4 2 (by decide) kf_X4_17 rfl tyX4 tyX4_ok nmX4 rfl (by decide +kernel) rfl rfl (Nat.le_of_ble_eq_true rfl) dX4_setTolerances_43 (fun en7 hen7 => ?_)
          replace hen7 := cP0_2 hen7
          obtain ⟨K7, hK7, hen7⟩ := hen7
          subst hen7
          refine g_aload_n hC dX4_setTolerances_46 rfl ?_
          refine g_iload_n hC dX4_setTolerances_47 rfl ?_
          refine g_put (ty := .int) hC rfl cO rfl kl_X4 3 (by decide) kf_X4_20 rfl tyX4 tyX4_ok nmX4 rfl (by decide +kernel) rfl rfl (Nat.le_of_ble_eq_true rfl) dX4_setTolerances_48 (fun en8 hen8 => ?_)
          replace hen8 := cP0_3 hen8
          obtain ⟨K8, hK8, hen8⟩ := hen8
          subst hen8
          refine g_iconst (v := 0) hC dX4_setTolerances_51 (by decide) ?_
          refine g_istore_n hC dX4_setTolerances_52 (by decide) ?_
          have hKT : K8 = up3 (up3 K 0 2 0 a) 0 3 0 b := by rw [hK8, hK7]
          generalize K8 = KT at hKT ⊢
          have lt : ∀ (r : Nat) (i : Nat) (C1 : rM3), i + r = L 2 0 → (∀ j x, j < L 2 1 → x < 10 → (x < i ∨ L 2 0 ≤ x) → C1 8 (16 * j + x) 0 = 0) → GO l X b0 Z 0 0 lo (enC X lo L KT C1 e0) 53 [(0, .ref (lo 0)), (1, .int a), (2, .int b), (3, .int (nI i))] [] := by
            intro r
            induction r with
            | zero =>
              intro i C1 hi9 hz
              have hi8 : i = L 2 0 := by omega
              subst hi8
              refine g_iload_n hC dX4_setTolerances_53 rfl ?_
              refine g_aload_n hC dX4_setTolerances_54 rfl ?_
              refine g_get hC rfl cO rfl kl_X4 5 (by decide) kf_X4_29 rfl rfl dX4_setTolerances_55 ?_
              refine g_icmp_ge (tgt := 72) hC dX4_setTolerances_58 (by decide) (fun c58 => ?_) (fun c58 => absurd (nI_le (by omega) (by omega)) c58)
              refine g_iconst (v := 1) hC dX4_setTolerances_72 (by decide) ?_
              refine g_ireti hR dX4_setTolerances_73 rfl ?_
              clear hR hC hI
              have hsp : sp_setTolerances M a b = (1, up2 (up2 M 20 2 a) 20 3 b) := by grind [sp_setTolerances, wi]
              rw [hsp]
              refine pKl_i rfl (by rw [hKT]; exact Sm_tol hs) (fun j x hj hx => Or.inl (hz j x ?_ hx ?_))
              · have hj2 : j < nSh M := hj
                omega
              · omega
            | succ r ihlt =>
              intro i C1 hi9 hz
              refine g_iload_n hC dX4_setTolerances_53 rfl ?_
              refine g_aload_n hC dX4_setTolerances_54 rfl ?_
              refine g_get hC rfl cO rfl kl_X4 5 (by decide) kf_X4_29 rfl rfl dX4_setTolerances_55 ?_
              refine g_icmp_ge (tgt := 72) hC dX4_setTolerances_58 (by decide) (fun c58 => absurd c58 (nI_ge (by omega) (by omega))) (fun c58 => ?_)
              refine g_aload_n hC dX4_setTolerances_61 rfl ?_
              refine g_iload_n hC dX4_setTolerances_62 rfl ?_
              refine g_callV hC v_X4_forgetMatches km_X4_58 (c_X4_forgetMatches l X b0 lo L _ _ e0 i (by omega) (by omega)) rfl cO rfl rfl rfl rfl (Nat.le_of_ble_eq_true rfl) ⟨by decide, by decide⟩ ⟨by decide, by decide⟩ dX4_setTolerances_63 (kV ?_)
              rintro en' ⟨C9, rfl, hf9⟩
              have hz2 : ∀ j x, j < L 2 1 → x < 10 → (x < i + 1 ∨ L 2 0 ≤ x) → C9 8 (16 * j + x) 0 = 0 := by
                intro j x hj hx hxx
                by_cases hxi : x = i
                · rw [hxi]; exact hf9.1 j hj
                · rw [hf9.2 8 (16 * j + x) 0 (fun z => by obtain ⟨-, -, j2, h1, h2⟩ := z; omega)]
                  exact hz j x hj hx (by omega)
              refine g_iinc hC dX4_setTolerances_66 rfl (nI_inc i) (by decide) ?_
              refine g_goto (tgt := 53) hC dX4_setTolerances_69 (by decide) ?_
              exact g_lv (lv' := [(0, .ref (lo 0)), (1, .int a), (2, .int b), (3, .int (nI (i + 1)))]) ⟨rfl, rfl, rfl, rfl, trivial⟩ (ihlt (i + 1) C9 (by omega) hz2)
          exact g_lv (lv' := [(0, .ref (lo 0)), (1, .int a), (2, .int b), (3, .int (nI 0))]) ⟨rfl, rfl, rfl, rfl, trivial⟩ (lt (L 2 0) 0 C (by omega) (fun j x hj hx hxx => (hc j x (by omega) hx).elim id (fun z => absurd z.2.1 (by omega))))
        · refine g_iconst (v := 0) hC dX4_setTolerances_39 (by decide) ?_
          refine g_ireti hR dX4_setTolerances_40 rfl ?_
          clear hR hC hI
          have hab : a = M 20 2 ∧ b = M 20 3 := by grind
          have hsp : sp_setTolerances M a b = (0, up2 (up2 M 20 2 a) 20 3 b) := by grind [sp_setTolerances, wi]
          have hsm : up2 (up2 M 20 2 a) 20 3 b = M := by
            rw [up2_same (v := a) hab.1, up2_same hab.2]
          rw [hsp, hsm]
          exact pKl_i rfl hs hc
    · refine g_bipush (v := (-3)) hC dX4_setTolerances_20 (by decide) ?_
      refine g_ireti hR dX4_setTolerances_22 rfl ?_
      clear hR hC hI
      have hsp : sp_setTolerances M a b = (-3, M) := by grind [sp_setTolerances, wi]
      rw [hsp]
      exact pKl_i rfl hs hc
