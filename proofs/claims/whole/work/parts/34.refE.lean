/-! ===== the reference: questions ===== -/
theorem asF_lt {M : rM2} {j : Nat} : ∀ {k : Nat} {a : Nat × Int32 × Int32}, asF M j k = some a → a.1 < k
  | 0, a, h => by simp [asF] at h
  | k + 1, a, h => by
    have h2 : asS k (fb M j k) (asF M j k) = some a := h
    unfold asS at h2
    split at h2
    · have := asF_lt h2; omega
    · split at h2
      · cases h2; exact Nat.lt_succ_self k
      · rename_i a0 h0
        split at h2
        · cases h2; exact Nat.lt_succ_self k
        · cases h2; have := asF_lt h0; omega
theorem asF_s {M : rM2} {j k : Nat} : asF M j (k + 1) = asS k (fb M j k) (asF M j k) := rfl
theorem moA_neg {M : rM2} {j k : Nat} (hk : k ≤ 10) (h : moA (asF M j k) < 0) : asF M j k = none := by
  cases ha : asF M j k with
  | none => rfl
  | some a =>
    rw [ha] at h
    exact absurd h (nI_pos (by have := asF_lt ha; omega))
theorem rvF_s {M : rM2} {j k : Nat} {mg : Int32} : rvF M j mg (k + 1) = rvF M j mg k + (match fb M j k with | none => 0 | some b => if nI k ≠ moF M j ∧ b.1 ≤ scF M j + mg then 1 else 0) := rfl
theorem bsF_s {M : rM2} {p : Int32} {k : Nat} : bsF M p (k + 1) = bsF M p k ||| (if moF M k = p then 1 <<< (nI k &&& 31) else 0) := rfl
theorem eaF_s {M : rM2} {j k : Nat} : eaF M j (k + 1) = if lowF M k j ∧ eaF M j k < M 12 k then M 12 k else eaF M j k := rfl
theorem laF_s {M : rM2} {j k : Nat} : laF M j (k + 1) = if lowF M j k ∧ M 13 k < laF M j k then M 13 k else laF M j k := rfl
theorem anF_s {M : rM2} {p : Int32} {k x : Nat} : anF M p k (x + 1) = anF M p k x + (if onF M k p ∧ onF M x p ∧ x ≠ k ∧ ahF M x k then 1 else 0) := rfl
theorem ccI_s {M : rM2} {p : Int32} {a b : Nat} {c : Int32} : ccI M p a (b + 1) c = ccI M p a b c + (if moF M a = p ∧ lowF M a b ∧ M 13 b < M 12 a then 1 else 0) := rfl
def aOK (T T1 : rM2) (j : Nat) (o : Option (Nat × Int32 × Int32)) : Prop := T1 0 j = moA o ∧ T1 1 j = soA o ∧ T1 2 j = scA o ∧ ∀ a x, a < 3 → x ≠ j → T1 a x = T a x
theorem aOK.keep {T T1 T9 : rM2} {j : Nat} {o : Option (Nat × Int32 × Int32)} (h : aOK T T1 j o) (ht : tOK T1 T9) : aOK T T9 j o := by
  obtain ⟨a1, a2, a3, a4⟩ := h
  refine ⟨by rw [ht 0 (by decide)]; exact a1, by rw [ht 1 (by decide)]; exact a2, by rw [ht 2 (by decide)]; exact a3, fun a x ha hx => ?_⟩
  rw [ht a (by omega)]
  exact a4 a x ha hx
def sOK (M T1 : rM2) (n : Nat) : Prop := ∀ x, x < n → T1 0 x = moF M x ∧ T1 1 x = soF M x ∧ T1 2 x = scF M x

set_option maxHeartbeats 4000000 in
set_option maxRecDepth 100000 in
theorem c_X5_score (l : Launch) (X : gX) (b0 : Nat) (lo : gL) (M T : rM2) (e0 : gE) (hM : Iv M) (p q : Int32) : Ct l X b0 lo (enR X lo M T e0) yX5_score cX5_score 4 (some FieldType.int) (rM 4 109) [.ref (lo 1000), .int p, .int q] (pRf X lo e0 (sp_score M p q)) := by
  refine gMet (by decide) (Nat.le_of_ble_eq_true rfl) rfl ?_
  intro Z hC hI hR
  refine g_aload_n hC dX5_score_0 rfl ?_
  refine g_iload_n hC dX5_score_1 rfl ?_
  refine g_iload_n hC dX5_score_2 rfl ?_
  refine g_callV hC v_X5_bothBarred km_X5_135 (c_X5_bothBarred l X b0 lo _ _ e0 _ _) rfl rO rfl rfl rfl rfl (Nat.le_of_ble_eq_true rfl) ⟨by decide, by decide⟩ ⟨by decide, by decide⟩ dX5_score_3 (kX ?_)
  refine g_istore_n hC dX5_score_6 (by decide) ?_
  refine g_iload_n hC dX5_score_7 rfl ?_
  refine g_if_ge (tgt := 13) hC dX5_score_8 (by decide) (fun c8 => ?_) (fun c8 => ?_)
  · have hb2 : isSh M p ∧ isMo M q := by grind [bbF]
    have hb0 : bbF M p q = 0 := by grind [bbF]
    obtain ⟨j, hj, rfl, hj1, -⟩ := shOf hM hb2.1
    obtain ⟨i, hi, rfl, hi1, -⟩ := moOf hM hb2.2
    have ej : nt (nI j) = j := nt_nI (by omega)
    have ei : nt (nI i) = i := nt_nI (by omega)
    refine g_aload_n hC dX5_score_13 rfl ?_
    refine g_iload_n hC dX5_score_14 rfl ?_
    refine g_iload_n hC dX5_score_15 rfl ?_
    refine g_callV hC v_X5_findBest km_X5_138 (c_X5_findBest l X b0 lo _ _ e0 hM j i hj1 hi1) rfl rO rfl rfl rfl rfl (Nat.le_of_ble_eq_true rfl) ⟨by decide, by decide⟩ ⟨by decide, by decide⟩ dX5_score_16 (kV ?_)
    rintro en' ⟨T9, rfl, htkT9, hbkT9⟩
    refine g_aload_n hC dX5_score_19 rfl ?_
    refine g_get hC rfl rO rfl kl_X5 20 (by decide) kf_X5_116 rfl rfl dX5_score_20 ?_
    refine g_ireti hR dX5_score_23 rfl ?_
    clear hR hC hI
    refine pRf_i ?_ rfl
    unfold sp_score
    rw [hb0, ej, ei]
    cases hfb : fb M j i with
    | none => rw [hfb] at hbkT9; exact hbkT9
    | some b => rw [hfb] at hbkT9; exact hbkT9.1
  · refine g_iload_n hC dX5_score_11 rfl ?_
    refine g_ireti hR dX5_score_12 rfl ?_
    clear hR hC hI
    refine pRf_i ?_ rfl
    grind [sp_score]

set_option maxHeartbeats 4000000 in
set_option maxRecDepth 100000 in
theorem c_X5_placement (l : Launch) (X : gX) (b0 : Nat) (lo : gL) (M T : rM2) (e0 : gE) (hM : Iv M) (p q w : Int32) : Ct l X b0 lo (enR X lo M T e0) yX5_placement cX5_placement 5 (some FieldType.int) (rM 4 109) [.ref (lo 1000), .int p, .int q, .int w] (pRf X lo e0 (sp_placement M p q w)) := by
  refine gMet (by decide) (Nat.le_of_ble_eq_true rfl) rfl ?_
  intro Z hC hI hR
  refine g_aload_n hC dX5_placement_0 rfl ?_
  refine g_iload_n hC dX5_placement_1 rfl ?_
  refine g_iload_n hC dX5_placement_2 rfl ?_
  refine g_callV hC v_X5_bothBarred km_X5_135 (c_X5_bothBarred l X b0 lo _ _ e0 _ _) rfl rO rfl rfl rfl rfl (Nat.le_of_ble_eq_true rfl) ⟨by decide, by decide⟩ ⟨by decide, by decide⟩ dX5_placement_3 (kX ?_)
  refine g_istore hC dX5_placement_6 (by decide) ?_
  refine g_iload hC dX5_placement_8 rfl ?_
  refine g_if_ge (tgt := 16) hC dX5_placement_10 (by decide) (fun c10 => ?_) (fun c10 => ?_)
  · have hb2 : isSh M p ∧ isMo M q := by grind [bbF]
    have hb0 : bbF M p q = 0 := by grind [bbF]
    obtain ⟨j, hj, rfl, hj1, -⟩ := shOf hM hb2.1
    obtain ⟨i, hi, rfl, hi1, -⟩ := moOf hM hb2.2
    have ej : nt (nI j) = j := nt_nI (by omega)
    have ei : nt (nI i) = i := nt_nI (by omega)
    refine g_iload_n hC dX5_placement_16 rfl ?_
    refine g_iconst (v := 0) hC dX5_placement_17 (by decide) ?_
    refine g_iconst (v := 3) hC dX5_placement_18 (by decide) ?_
    refine g_callS hC v_X5_within km_X5_71 (c_X5_within l X b0 lo _ _ _ _) rfl rfl (Nat.le_of_ble_eq_true rfl) ⟨by decide, by decide⟩ ⟨by decide, by decide⟩ dX5_placement_19 (kX ?_)
    refine g_if_ne (tgt := 28) hC dX5_placement_22 (by decide) (fun c22 => ?_) (fun c22 => ?_)
    · refine g_aload_n hC dX5_placement_28 rfl ?_
      refine g_iload_n hC dX5_placement_29 rfl ?_
      refine g_iload_n hC dX5_placement_30 rfl ?_
      refine g_callV hC v_X5_findBest km_X5_138 (c_X5_findBest l X b0 lo _ _ e0 hM j i hj1 hi1) rfl rO rfl rfl rfl rfl (Nat.le_of_ble_eq_true rfl) ⟨by decide, by decide⟩ ⟨by decide, by decide⟩ dX5_placement_31 (kV ?_)
      rintro en' ⟨T9, rfl, htkT9, hbkT9⟩
      refine g_aload_n hC dX5_placement_34 rfl ?_
      refine g_get hC rfl rO rfl kl_X5 20 (by decide) kf_X5_116 rfl rfl dX5_placement_35 ?_
      refine g_if_ge (tgt := 46) hC dX5_placement_38 (by decide) (fun c38 => ?_) (fun c38 => ?_)
      · refine g_iload_n hC dX5_placement_46 rfl ?_
        refine g_if_ne (tgt := 57) hC dX5_placement_47 (by decide) (fun c47 => ?_) (fun c47 => ?_)
        · refine g_iload_n hC dX5_placement_57 rfl ?_
          refine g_iconst (v := 1) hC dX5_placement_58 (by decide) ?_
          refine g_icmp_ne (tgt := 69) hC dX5_placement_59 (by decide) (fun c59 => ?_) (fun c59 => ?_)
          · refine g_iload_n hC dX5_placement_69 rfl ?_
            refine g_iconst (v := 2) hC dX5_placement_70 (by decide) ?_
            refine g_icmp_ne (tgt := 81) hC dX5_placement_71 (by decide) (fun c71 => ?_) (fun c71 => ?_)
            · refine g_aload_n hC dX5_placement_81 rfl ?_
              refine g_get hC rfl rO rfl kl_X5 24 (by decide) kf_X5_132 rfl rfl dX5_placement_82 ?_
              refine g_ireti hR dX5_placement_85 rfl ?_
              clear hR hC hI
              refine pRf_i ?_ rfl
              unfold sp_placement
              rw [hb0, ej, ei]
              have hw := wi_ne c22
              have hnn := fb_nn hM hj1 hi1
              cases hfb : fb M j i with
              | none =>
                rw [hfb] at hbkT9
                simp only [bOK] at hbkT9
                simp only [if_pos hw]
                grind
              | some b =>
                rw [hfb] at hbkT9 hnn
                have h9 := hnn b rfl
                simp only [bOK] at hbkT9
                simp only [if_pos hw]
                grind
            · refine g_aload_n hC dX5_placement_74 rfl ?_
              refine g_get hC rfl rO rfl kl_X5 23 (by decide) kf_X5_129 rfl rfl dX5_placement_75 ?_
              refine g_goto (tgt := 85) hC dX5_placement_78 (by decide) ?_
              refine g_ireti hR dX5_placement_85 rfl ?_
              clear hR hC hI
              refine pRf_i ?_ rfl
              unfold sp_placement
              rw [hb0, ej, ei]
              have hw := wi_ne c22
              have hnn := fb_nn hM hj1 hi1
              cases hfb : fb M j i with
              | none =>
                rw [hfb] at hbkT9
                simp only [bOK] at hbkT9
                simp only [if_pos hw]
                grind
              | some b =>
                rw [hfb] at hbkT9 hnn
                have h9 := hnn b rfl
                simp only [bOK] at hbkT9
                simp only [if_pos hw]
                grind
          · refine g_aload_n hC dX5_placement_62 rfl ?_
            refine g_get hC rfl rO rfl kl_X5 22 (by decide) kf_X5_126 rfl rfl dX5_placement_63 ?_
            refine g_goto (tgt := 85) hC dX5_placement_66 (by decide) ?_
            refine g_ireti hR dX5_placement_85 rfl ?_
            clear hR hC hI
            refine pRf_i ?_ rfl
            unfold sp_placement
            rw [hb0, ej, ei]
            have hw := wi_ne c22
            have hnn := fb_nn hM hj1 hi1
            cases hfb : fb M j i with
            | none =>
              rw [hfb] at hbkT9
              simp only [bOK] at hbkT9
              simp only [if_pos hw]
              grind
            | some b =>
              rw [hfb] at hbkT9 hnn
              have h9 := hnn b rfl
              simp only [bOK] at hbkT9
              simp only [if_pos hw]
              grind
        · refine g_aload_n hC dX5_placement_50 rfl ?_
          refine g_get hC rfl rO rfl kl_X5 21 (by decide) kf_X5_123 rfl rfl dX5_placement_51 ?_
          refine g_goto (tgt := 85) hC dX5_placement_54 (by decide) ?_
          refine g_ireti hR dX5_placement_85 rfl ?_
          clear hR hC hI
          refine pRf_i ?_ rfl
          unfold sp_placement
          rw [hb0, ej, ei]
          have hw := wi_ne c22
          have hnn := fb_nn hM hj1 hi1
          cases hfb : fb M j i with
          | none =>
            rw [hfb] at hbkT9
            simp only [bOK] at hbkT9
            simp only [if_pos hw]
            grind
          | some b =>
            rw [hfb] at hbkT9 hnn
            have h9 := hnn b rfl
            simp only [bOK] at hbkT9
            simp only [if_pos hw]
            grind
      · refine g_bipush (v := (-6)) hC dX5_placement_41 (by decide) ?_
        refine g_goto (tgt := 85) hC dX5_placement_43 (by decide) ?_
        refine g_ireti hR dX5_placement_85 rfl ?_
        clear hR hC hI
        refine pRf_i ?_ rfl
        unfold sp_placement
        rw [hb0, ej, ei]
        have hw := wi_ne c22
        have hnn := fb_nn hM hj1 hi1
        cases hfb : fb M j i with
        | none =>
          rw [hfb] at hbkT9
          simp only [bOK] at hbkT9
          simp only [if_pos hw]
          grind
        | some b =>
          rw [hfb] at hbkT9 hnn
          have h9 := hnn b rfl
          simp only [bOK] at hbkT9
          simp only [if_pos hw]
          grind
    · refine g_bipush (v := (-3)) hC dX5_placement_25 (by decide) ?_
      refine g_ireti hR dX5_placement_27 rfl ?_
      clear hR hC hI
      refine pRf_i ?_ rfl
      grind [sp_placement, wi]
  · refine g_iload hC dX5_placement_13 rfl ?_
    refine g_ireti hR dX5_placement_15 rfl ?_
    clear hR hC hI
    refine pRf_i ?_ rfl
    grind [sp_placement]

set_option maxHeartbeats 4000000 in
set_option maxRecDepth 100000 in
theorem c_X5_assign (l : Launch) (X : gX) (b0 : Nat) (lo : gL) (M T : rM2) (e0 : gE) (hM : Iv M) (j : Nat) (hj : j < nSh M) : Ct l X b0 lo (enR X lo M T e0) yX5_assign cX5_assign 3 none (rM 4 109) [.ref (lo 1000), .int (nI j)] (pV lo (fun en' => ∃ T' : rM2, en' = enR X lo M T' e0 ∧ aOK T T' j (aG M j))) := by
  refine gMet (by decide) (Nat.le_of_ble_eq_true rfl) rfl ?_
  intro Z hC hI hR
  have hS := (Iv_nS hM).1
  obtain ⟨hM10, eM⟩ := Iv_nM hM
  refine g_aload_n hC dX5_assign_0 rfl ?_
  refine g_get hC rfl rO rfl kl_X5 25 (by decide) kf_X5_59 rfl rfl dX5_assign_1 ?_
  refine g_iload_n hC dX5_assign_4 rfl ?_
  refine g_bipush (v := (-6)) hC dX5_assign_5 (by decide) ?_
  refine g_iast hC rfl rA1015 j rfl (by omega) (by decide) dX5_assign_7 (fun en35 hen35 => ?_)
  replace hen35 := rQ1015 hen35
  obtain ⟨T35, hT35, hen35⟩ := hen35
  subst hen35
  refine g_aload_n hC dX5_assign_8 rfl ?_
  refine g_get hC rfl rO rfl kl_X5 26 (by decide) kf_X5_62 rfl rfl dX5_assign_9 ?_
  refine g_iload_n hC dX5_assign_12 rfl ?_
  refine g_bipush (v := (-6)) hC dX5_assign_13 (by decide) ?_
  refine g_iast hC rfl rA1016 j rfl (by omega) (by decide) dX5_assign_15 (fun en36 hen36 => ?_)
  replace hen36 := rQ1016 hen36
  obtain ⟨T36, hT36, hen36⟩ := hen36
  subst hen36
  refine g_aload_n hC dX5_assign_16 rfl ?_
  refine g_get hC rfl rO rfl kl_X5 27 (by decide) kf_X5_65 rfl rfl dX5_assign_17 ?_
  refine g_iload_n hC dX5_assign_20 rfl ?_
  refine g_bipush (v := (-6)) hC dX5_assign_21 (by decide) ?_
  refine g_iast hC rfl rA1017 j rfl (by omega) (by decide) dX5_assign_23 (fun en37 hen37 => ?_)
  replace hen37 := rQ1017 hen37
  obtain ⟨T37, hT37, hen37⟩ := hen37
  subst hen37
  refine g_iconst (v := 0) hC dX5_assign_24 (by decide) ?_
  refine g_istore_n hC dX5_assign_25 (by decide) ?_
  have lg : ∀ (r : Nat) (k : Nat) (T1 : rM2), k + r = nMo M → aOK T T1 j (asF M j k) → GO l X b0 Z 0 0 lo (enR X lo M T1 e0) 26 [(0, .ref (lo 1000)), (1, .int (nI j)), (2, .int (nI k))] [] := by
    intro r
    induction r with
    | zero =>
      intro k T1 hk9 hak
      have hk8 : k = nMo M := by omega
      subst hk8
      refine g_iload_n hC dX5_assign_26 rfl ?_
      refine g_aload_n hC dX5_assign_27 rfl ?_
      refine g_get hC rfl rO rfl kl_X5 4 (by decide) kf_X5_75 rfl rfl dX5_assign_28 ?_
      refine g_icmp_ge (tgt := 102) hC dX5_assign_31 (by decide) (fun c31 => ?_) (fun c31 => absurd (by rw [eM]; exact nI_le (by omega) (by omega)) c31)
      refine g_retv hR dX5_assign_102 ?_
      clear hR hC hI
      exact ⟨rfl, rfl, T1, rfl, hak⟩
    | succ r ihlg =>
      intro k T1 hk9 hak
      refine g_iload_n hC dX5_assign_26 rfl ?_
      refine g_aload_n hC dX5_assign_27 rfl ?_
      refine g_get hC rfl rO rfl kl_X5 4 (by decide) kf_X5_75 rfl rfl dX5_assign_28 ?_
      refine g_icmp_ge (tgt := 102) hC dX5_assign_31 (by decide) (fun c31 => absurd c31 (by rw [eM]; exact nI_ge (by omega) (by omega))) (fun c31 => ?_)
      refine g_aload_n hC dX5_assign_34 rfl ?_
      refine g_iload_n hC dX5_assign_35 rfl ?_
      refine g_iload_n hC dX5_assign_36 rfl ?_
      refine g_callV hC v_X5_findBest km_X5_138 (c_X5_findBest l X b0 lo _ _ e0 hM j k hj (by omega)) rfl rO rfl rfl rfl rfl (Nat.le_of_ble_eq_true rfl) ⟨by decide, by decide⟩ ⟨by decide, by decide⟩ dX5_assign_37 (kV ?_)
      rintro en' ⟨T9, rfl, htkT9, hbkT9⟩
      refine g_aload_n hC dX5_assign_40 rfl ?_
      refine g_get hC rfl rO rfl kl_X5 20 (by decide) kf_X5_116 rfl rfl dX5_assign_41 ?_
      refine g_if_lt (tgt := 96) hC dX5_assign_44 (by decide) (fun c44 => ?_) (fun c44 => ?_)
      · have hak2 : aOK T T9 j (asF M j (k + 1)) := by
          have hnn := fb_nn hM hj (show k < nMo M by omega)
          have h0 : T9 0 j = T1 0 j := congrFun (htkT9 0 (by decide)) j
          have h2 : T9 2 j = T1 2 j := congrFun (htkT9 2 (by decide)) j
          have hk9' := hak.keep htkT9
          have hpos : ∀ a, asF M j k = some a → 0 ≤ nI a.1 := fun a ha => nI_pos' (by have := asF_lt ha; omega)
          clear hC hR hI ihlg
          rw [asF_s]
          cases hfb : fb M j k with
          | none =>
            rw [hfb] at hbkT9
            simp only [bOK] at hbkT9
            exact hk9'
          | some b =>
            rw [hfb] at hbkT9 hnn
            have hb0 := hnn b rfl
            simp only [bOK] at hbkT9
            cases hao : asF M j k with
            | none =>
              rw [hao] at hak hk9'
              have a1 := hak.1
              simp only [moA] at a1
              exfalso; clear hk9' hak; grind
            | some a =>
              have hp := hpos a hao
              rw [hao] at hak hk9'
              have a1 := hak.1
              have a3 := hak.2.2.1
              simp only [moA, scA] at a1 a3
              have hlt : ¬ b.1 < a.2.2 := by clear hk9' hak; grind
              show aOK T T9 j (if b.1 < a.2.2 then some (k, b.2.2.2.2, b.1) else some a)
              rw [if_neg hlt]
              exact hk9'
        refine g_iinc hC dX5_assign_96 rfl (nI_inc k) (by decide) ?_
        refine g_goto (tgt := 26) hC dX5_assign_99 (by decide) ?_
        exact g_lv (lv' := [(0, .ref (lo 1000)), (1, .int (nI j)), (2, .int (nI (k + 1)))]) ⟨rfl, rfl, rfl, trivial⟩ (ihlg (k + 1) T9 (by omega) hak2)
      · refine g_aload_n hC dX5_assign_47 rfl ?_
        refine g_get hC rfl rO rfl kl_X5 25 (by decide) kf_X5_59 rfl rfl dX5_assign_48 ?_
        refine g_iload_n hC dX5_assign_51 rfl ?_
        refine g_iald hC rfl rA1015 j rfl (by omega) (by decide) dX5_assign_52 ?_
        refine g_if_lt (tgt := 69) hC dX5_assign_53 (by decide) (fun c53 => ?_) (fun c53 => ?_)
        · refine g_aload_n hC dX5_assign_69 rfl ?_
          refine g_get hC rfl rO rfl kl_X5 25 (by decide) kf_X5_59 rfl rfl dX5_assign_70 ?_
          refine g_iload_n hC dX5_assign_73 rfl ?_
          refine g_iload_n hC dX5_assign_74 rfl ?_
          refine g_iast hC rfl rA1015 j rfl (by omega) (by decide) dX5_assign_75 (fun en38 hen38 => ?_)
          replace hen38 := rQ1015 hen38
          obtain ⟨T38, hT38, hen38⟩ := hen38
          subst hen38
          refine g_aload_n hC dX5_assign_76 rfl ?_
          refine g_get hC rfl rO rfl kl_X5 26 (by decide) kf_X5_62 rfl rfl dX5_assign_77 ?_
          refine g_iload_n hC dX5_assign_80 rfl ?_
          refine g_aload_n hC dX5_assign_81 rfl ?_
          refine g_get hC rfl rO rfl kl_X5 24 (by decide) kf_X5_132 rfl rfl dX5_assign_82 ?_
          refine g_iast hC rfl rA1016 j rfl (by omega) (by decide) dX5_assign_85 (fun en39 hen39 => ?_)
          replace hen39 := rQ1016 hen39
          obtain ⟨T39, hT39, hen39⟩ := hen39
          subst hen39
          refine g_aload_n hC dX5_assign_86 rfl ?_
          refine g_get hC rfl rO rfl kl_X5 27 (by decide) kf_X5_65 rfl rfl dX5_assign_87 ?_
          refine g_iload_n hC dX5_assign_90 rfl ?_
          refine g_aload_n hC dX5_assign_91 rfl ?_
          refine g_get hC rfl rO rfl kl_X5 20 (by decide) kf_X5_116 rfl rfl dX5_assign_92 ?_
          refine g_iast hC rfl rA1017 j rfl (by omega) (by decide) dX5_assign_95 (fun en40 hen40 => ?_)
          replace hen40 := rQ1017 hen40
          obtain ⟨T40, hT40, hen40⟩ := hen40
          subst hen40
          have hak2 : aOK T T40 j (asF M j (k + 1)) := by
            have hnn := fb_nn hM hj (show k < nMo M by omega)
            have h0 : T9 0 j = T1 0 j := congrFun (htkT9 0 (by decide)) j
            have h2 : T9 2 j = T1 2 j := congrFun (htkT9 2 (by decide)) j
            have hk9' := hak.keep htkT9
            have hpos : ∀ a, asF M j k = some a → 0 ≤ nI a.1 := fun a ha => nI_pos' (by have := asF_lt ha; omega)
            clear hC hR hI ihlg
            rw [asF_s]
            cases hfb : fb M j k with
            | none =>
              rw [hfb] at hbkT9
              simp only [bOK] at hbkT9
              exact absurd (by rw [hbkT9]; decide) c44
            | some b =>
              rw [hfb] at hbkT9 hnn
              have hb0 := hnn b rfl
              simp only [bOK] at hbkT9
              cases hao : asF M j k with
              | none =>
                rw [hao] at hak hk9'
                have a1 := hak.1
                simp only [moA] at a1
                show aOK T T40 j (some (k, b.2.2.2.2, b.1))
                rw [hT40, hT39, hT38]
                exact ⟨by simp [up2, moA], by simp [up2, soA, hbkT9], by simp [up2, scA, hbkT9], fun a x ha hx => by have := hk9'.2.2.2 a x ha hx; simp [up2, hx, this]⟩
              | some a =>
                have hp := hpos a hao
                rw [hao] at hak hk9'
                have a1 := hak.1
                have a3 := hak.2.2.1
                simp only [moA, scA] at a1 a3
                have hlt : b.1 < a.2.2 := by clear hk9' hak; grind
                show aOK T T40 j (if b.1 < a.2.2 then some (k, b.2.2.2.2, b.1) else some a)
                rw [if_pos hlt]
                rw [hT40, hT39, hT38]
                exact ⟨by simp [up2, moA], by simp [up2, soA, hbkT9], by simp [up2, scA, hbkT9], fun a x ha hx => by have := hk9'.2.2.2 a x ha hx; simp [up2, hx, this]⟩
          refine g_iinc hC dX5_assign_96 rfl (nI_inc k) (by decide) ?_
          refine g_goto (tgt := 26) hC dX5_assign_99 (by decide) ?_
          exact g_lv (lv' := [(0, .ref (lo 1000)), (1, .int (nI j)), (2, .int (nI (k + 1)))]) ⟨rfl, rfl, rfl, trivial⟩ (ihlg (k + 1) T40 (by omega) hak2)
        · refine g_aload_n hC dX5_assign_56 rfl ?_
          refine g_get hC rfl rO rfl kl_X5 20 (by decide) kf_X5_116 rfl rfl dX5_assign_57 ?_
          refine g_aload_n hC dX5_assign_60 rfl ?_
          refine g_get hC rfl rO rfl kl_X5 27 (by decide) kf_X5_65 rfl rfl dX5_assign_61 ?_
          refine g_iload_n hC dX5_assign_64 rfl ?_
          refine g_iald hC rfl rA1017 j rfl (by omega) (by decide) dX5_assign_65 ?_
          refine g_icmp_ge (tgt := 96) hC dX5_assign_66 (by decide) (fun c66 => ?_) (fun c66 => ?_)
          · have hak2 : aOK T T9 j (asF M j (k + 1)) := by
              have hnn := fb_nn hM hj (show k < nMo M by omega)
              have h0 : T9 0 j = T1 0 j := congrFun (htkT9 0 (by decide)) j
              have h2 : T9 2 j = T1 2 j := congrFun (htkT9 2 (by decide)) j
              have hk9' := hak.keep htkT9
              have hpos : ∀ a, asF M j k = some a → 0 ≤ nI a.1 := fun a ha => nI_pos' (by have := asF_lt ha; omega)
              clear hC hR hI ihlg
              rw [asF_s]
              cases hfb : fb M j k with
              | none =>
                rw [hfb] at hbkT9
                simp only [bOK] at hbkT9
                exact hk9'
              | some b =>
                rw [hfb] at hbkT9 hnn
                have hb0 := hnn b rfl
                simp only [bOK] at hbkT9
                cases hao : asF M j k with
                | none =>
                  rw [hao] at hak hk9'
                  have a1 := hak.1
                  simp only [moA] at a1
                  exfalso; clear hk9' hak; grind
                | some a =>
                  have hp := hpos a hao
                  rw [hao] at hak hk9'
                  have a1 := hak.1
                  have a3 := hak.2.2.1
                  simp only [moA, scA] at a1 a3
                  have hlt : ¬ b.1 < a.2.2 := by clear hk9' hak; grind
                  show aOK T T9 j (if b.1 < a.2.2 then some (k, b.2.2.2.2, b.1) else some a)
                  rw [if_neg hlt]
                  exact hk9'
            refine g_iinc hC dX5_assign_96 rfl (nI_inc k) (by decide) ?_
            refine g_goto (tgt := 26) hC dX5_assign_99 (by decide) ?_
            exact g_lv (lv' := [(0, .ref (lo 1000)), (1, .int (nI j)), (2, .int (nI (k + 1)))]) ⟨rfl, rfl, rfl, trivial⟩ (ihlg (k + 1) T9 (by omega) hak2)
          · refine g_aload_n hC dX5_assign_69 rfl ?_
            refine g_get hC rfl rO rfl kl_X5 25 (by decide) kf_X5_59 rfl rfl dX5_assign_70 ?_
            refine g_iload_n hC dX5_assign_73 rfl ?_
            refine g_iload_n hC dX5_assign_74 rfl ?_
            refine g_iast hC rfl rA1015 j rfl (by omega) (by decide) dX5_assign_75 (fun en41 hen41 => ?_)
            replace hen41 := rQ1015 hen41
            obtain ⟨T41, hT41, hen41⟩ := hen41
            subst hen41
            refine g_aload_n hC dX5_assign_76 rfl ?_
            refine g_get hC rfl rO rfl kl_X5 26 (by decide) kf_X5_62 rfl rfl dX5_assign_77 ?_
            refine g_iload_n hC dX5_assign_80 rfl ?_
            refine g_aload_n hC dX5_assign_81 rfl ?_
            refine g_get hC rfl rO rfl kl_X5 24 (by decide) kf_X5_132 rfl rfl dX5_assign_82 ?_
            refine g_iast hC rfl rA1016 j rfl (by omega) (by decide) dX5_assign_85 (fun en42 hen42 => ?_)
            replace hen42 := rQ1016 hen42
            obtain ⟨T42, hT42, hen42⟩ := hen42
            subst hen42
            refine g_aload_n hC dX5_assign_86 rfl ?_
            refine g_get hC rfl rO rfl kl_X5 27 (by decide) kf_X5_65 rfl rfl dX5_assign_87 ?_
            refine g_iload_n hC dX5_assign_90 rfl ?_
            refine g_aload_n hC dX5_assign_91 rfl ?_
            refine g_get hC rfl rO rfl kl_X5 20 (by decide) kf_X5_116 rfl rfl dX5_assign_92 ?_
            refine g_iast hC rfl rA1017 j rfl (by omega) (by decide) dX5_assign_95 (fun en43 hen43 => ?_)
            replace hen43 := rQ1017 hen43
            obtain ⟨T43, hT43, hen43⟩ := hen43
            subst hen43
            have hak2 : aOK T T43 j (asF M j (k + 1)) := by
              have hnn := fb_nn hM hj (show k < nMo M by omega)
              have h0 : T9 0 j = T1 0 j := congrFun (htkT9 0 (by decide)) j
              have h2 : T9 2 j = T1 2 j := congrFun (htkT9 2 (by decide)) j
              have hk9' := hak.keep htkT9
              have hpos : ∀ a, asF M j k = some a → 0 ≤ nI a.1 := fun a ha => nI_pos' (by have := asF_lt ha; omega)
              clear hC hR hI ihlg
              rw [asF_s]
              cases hfb : fb M j k with
              | none =>
                rw [hfb] at hbkT9
                simp only [bOK] at hbkT9
                exact absurd (by rw [hbkT9]; decide) c44
              | some b =>
                rw [hfb] at hbkT9 hnn
                have hb0 := hnn b rfl
                simp only [bOK] at hbkT9
                cases hao : asF M j k with
                | none =>
                  rw [hao] at hak hk9'
                  have a1 := hak.1
                  simp only [moA] at a1
                  show aOK T T43 j (some (k, b.2.2.2.2, b.1))
                  rw [hT43, hT42, hT41]
                  exact ⟨by simp [up2, moA], by simp [up2, soA, hbkT9], by simp [up2, scA, hbkT9], fun a x ha hx => by have := hk9'.2.2.2 a x ha hx; simp [up2, hx, this]⟩
                | some a =>
                  have hp := hpos a hao
                  rw [hao] at hak hk9'
                  have a1 := hak.1
                  have a3 := hak.2.2.1
                  simp only [moA, scA] at a1 a3
                  have hlt : b.1 < a.2.2 := by clear hk9' hak; grind
                  show aOK T T43 j (if b.1 < a.2.2 then some (k, b.2.2.2.2, b.1) else some a)
                  rw [if_pos hlt]
                  rw [hT43, hT42, hT41]
                  exact ⟨by simp [up2, moA], by simp [up2, soA, hbkT9], by simp [up2, scA, hbkT9], fun a x ha hx => by have := hk9'.2.2.2 a x ha hx; simp [up2, hx, this]⟩
            refine g_iinc hC dX5_assign_96 rfl (nI_inc k) (by decide) ?_
            refine g_goto (tgt := 26) hC dX5_assign_99 (by decide) ?_
            exact g_lv (lv' := [(0, .ref (lo 1000)), (1, .int (nI j)), (2, .int (nI (k + 1)))]) ⟨rfl, rfl, rfl, trivial⟩ (ihlg (k + 1) T43 (by omega) hak2)
  exact g_lv (lv' := [(0, .ref (lo 1000)), (1, .int (nI j)), (2, .int (nI 0))]) ⟨rfl, rfl, rfl, trivial⟩ (lg (nMo M) 0 T37 (by omega) (by rw [hT37, hT36, hT35]; refine ⟨by simp [up2, moA, asF], by simp [up2, soA, asF], by simp [up2, scA, asF], fun a x ha hx => by simp [up2, hx]⟩))

set_option maxHeartbeats 4000000 in
set_option maxRecDepth 100000 in
theorem c_X5_assignAll (l : Launch) (X : gX) (b0 : Nat) (lo : gL) (M T : rM2) (e0 : gE) (hM : Iv M) : Ct l X b0 lo (enR X lo M T e0) yX5_assignAll cX5_assignAll 2 none (rM 5 131) [.ref (lo 1000)] (pV lo (fun en' => ∃ T' : rM2, en' = enR X lo M T' e0 ∧ sOK M T' (nSh M))) := by
  refine gMet (by decide) (Nat.le_of_ble_eq_true rfl) rfl ?_
  intro Z hC hI hR
  obtain ⟨hS, eS⟩ := Iv_nS hM
  refine g_iconst (v := 0) hC dX5_assignAll_0 (by decide) ?_
  refine g_istore_n hC dX5_assignAll_1 (by decide) ?_
  have ll : ∀ (r : Nat) (k : Nat) (T1 : rM2), k + r = nSh M → sOK M T1 k → GO l X b0 Z 0 0 lo (enR X lo M T1 e0) 2 [(0, .ref (lo 1000)), (1, .int (nI k))] [] := by
    intro r
    induction r with
    | zero =>
      intro k T1 hk9 hsk
      have hk8 : k = nSh M := by omega
      subst hk8
      refine g_iload_n hC dX5_assignAll_2 rfl ?_
      refine g_aload_n hC dX5_assignAll_3 rfl ?_
      refine g_get hC rfl rO rfl kl_X5 11 (by decide) kf_X5_99 rfl rfl dX5_assignAll_4 ?_
      refine g_icmp_ge (tgt := 21) hC dX5_assignAll_7 (by decide) (fun c7 => ?_) (fun c7 => absurd (by rw [eS]; exact nI_le (by omega) (by omega)) c7)
      refine g_retv hR dX5_assignAll_21 ?_
      clear hR hC hI
      exact ⟨rfl, rfl, T1, rfl, hsk⟩
    | succ r ihll =>
      intro k T1 hk9 hsk
      refine g_iload_n hC dX5_assignAll_2 rfl ?_
      refine g_aload_n hC dX5_assignAll_3 rfl ?_
      refine g_get hC rfl rO rfl kl_X5 11 (by decide) kf_X5_99 rfl rfl dX5_assignAll_4 ?_
      refine g_icmp_ge (tgt := 21) hC dX5_assignAll_7 (by decide) (fun c7 => absurd c7 (by rw [eS]; exact nI_ge (by omega) (by omega))) (fun c7 => ?_)
      refine g_aload_n hC dX5_assignAll_10 rfl ?_
      refine g_iload_n hC dX5_assignAll_11 rfl ?_
      refine g_callV hC v_X5_assign km_X5_142 (c_X5_assign l X b0 lo _ _ e0 hM k (by omega)) rfl rO rfl rfl rfl rfl (Nat.le_of_ble_eq_true rfl) ⟨by decide, by decide⟩ ⟨by decide, by decide⟩ dX5_assignAll_12 (kV ?_)
      rintro en' ⟨T8, rfl, ha8⟩
      have hsk2 : sOK M T8 (k + 1) := by
        intro x hx
        by_cases hxk : x = k
        · rw [hxk]; exact ⟨ha8.1, ha8.2.1, ha8.2.2.1⟩
        · obtain ⟨q1, q2, q3⟩ := hsk x (by omega)
          exact ⟨(ha8.2.2.2 0 x (by decide) hxk).trans q1, (ha8.2.2.2 1 x (by decide) hxk).trans q2, (ha8.2.2.2 2 x (by decide) hxk).trans q3⟩
      refine g_iinc hC dX5_assignAll_15 rfl (nI_inc k) (by decide) ?_
      refine g_goto (tgt := 2) hC dX5_assignAll_18 (by decide) ?_
      exact g_lv (lv' := [(0, .ref (lo 1000)), (1, .int (nI (k + 1)))]) ⟨rfl, rfl, trivial⟩ (ihll (k + 1) T8 (by omega) hsk2)
  exact g_lv (lv' := [(0, .ref (lo 1000)), (1, .int (nI 0))]) ⟨rfl, rfl, trivial⟩ (ll (nSh M) 0 T (by omega) (fun x hx => absurd hx (by omega)))

set_option maxHeartbeats 4000000 in
set_option maxRecDepth 100000 in
theorem c_X5_assignedMould (l : Launch) (X : gX) (b0 : Nat) (lo : gL) (M T : rM2) (e0 : gE) (hM : Iv M) (p : Int32) : Ct l X b0 lo (enR X lo M T e0) yX5_assignedMould cX5_assignedMould 2 (some FieldType.int) (rM 5 131) [.ref (lo 1000), .int p] (pRf X lo e0 (sp_assignedMould M p)) := by
  refine gMet (by decide) (Nat.le_of_ble_eq_true rfl) rfl ?_
  intro Z hC hI hR
  refine g_aload_n hC dX5_assignedMould_0 rfl ?_
  refine g_iload_n hC dX5_assignedMould_1 rfl ?_
  refine g_callV hC v_X5_noSheet km_X5_102 (c_X5_noSheet l X b0 lo _ _ e0 _) rfl rO rfl rfl rfl rfl (Nat.le_of_ble_eq_true rfl) ⟨by decide, by decide⟩ ⟨by decide, by decide⟩ dX5_assignedMould_2 (kX ?_)
  refine g_if_eq (tgt := 11) hC dX5_assignedMould_5 (by decide) (fun c5 => ?_) (fun c5 => ?_)
  · have hp := ite_eq c5
    obtain ⟨j, hj, rfl, hj1, -⟩ := shOf hM hp
    have ej : nt (nI j) = j := nt_nI (by omega)
    refine g_aload_n hC dX5_assignedMould_11 rfl ?_
    refine g_iload_n hC dX5_assignedMould_12 rfl ?_
    refine g_callV hC v_X5_assign km_X5_142 (c_X5_assign l X b0 lo _ _ e0 hM j hj1) rfl rO rfl rfl rfl rfl (Nat.le_of_ble_eq_true rfl) ⟨by decide, by decide⟩ ⟨by decide, by decide⟩ dX5_assignedMould_13 (kV ?_)
    rintro en' ⟨T8, rfl, ha8⟩
    refine g_aload_n hC dX5_assignedMould_16 rfl ?_
    refine g_get hC rfl rO rfl kl_X5 25 (by decide) kf_X5_59 rfl rfl dX5_assignedMould_17 ?_
    refine g_iload_n hC dX5_assignedMould_20 rfl ?_
    refine g_iald hC rfl rA1015 j rfl (by omega) (by decide) dX5_assignedMould_21 ?_
    refine g_ireti hR dX5_assignedMould_22 rfl ?_
    clear hR hC hI
    refine pRf_i ?_ rfl
    rw [ha8.1]
    unfold sp_assignedMould
    rw [if_pos hp, ej]
    rfl
  · refine g_bipush (v := (-2)) hC dX5_assignedMould_8 (by decide) ?_
    refine g_ireti hR dX5_assignedMould_10 rfl ?_
    clear hR hC hI
    refine pRf_i ?_ rfl
    grind [sp_assignedMould]

set_option maxHeartbeats 4000000 in
set_option maxRecDepth 100000 in
theorem c_X5_rivalCount (l : Launch) (X : gX) (b0 : Nat) (lo : gL) (M T : rM2) (e0 : gE) (hM : Iv M) (p mg : Int32) : Ct l X b0 lo (enR X lo M T e0) yX5_rivalCount cX5_rivalCount 5 (some FieldType.int) (rM 5 131) [.ref (lo 1000), .int p, .int mg] (pRf X lo e0 (sp_rivalCount M p mg)) := by
  refine gMet (by decide) (Nat.le_of_ble_eq_true rfl) rfl ?_
  intro Z hC hI hR
  obtain ⟨hM10, eM⟩ := Iv_nM hM
  refine g_aload_n hC dX5_rivalCount_0 rfl ?_
  refine g_iload_n hC dX5_rivalCount_1 rfl ?_
  refine g_callV hC v_X5_noSheet km_X5_102 (c_X5_noSheet l X b0 lo _ _ e0 _) rfl rO rfl rfl rfl rfl (Nat.le_of_ble_eq_true rfl) ⟨by decide, by decide⟩ ⟨by decide, by decide⟩ dX5_rivalCount_2 (kX ?_)
  refine g_if_eq (tgt := 11) hC dX5_rivalCount_5 (by decide) (fun c5 => ?_) (fun c5 => ?_)
  · have hp := ite_eq c5
    obtain ⟨j, hj, rfl, hj1, -⟩ := shOf hM hp
    have ej : nt (nI j) = j := nt_nI (by omega)
    refine g_iload_n hC dX5_rivalCount_11 rfl ?_
    refine g_iconst (v := 0) hC dX5_rivalCount_12 (by decide) ?_
    refine g_sipush (v := 1000) hC dX5_rivalCount_13 (by decide) ?_
    refine g_callS hC v_X5_within km_X5_71 (c_X5_within l X b0 lo _ _ _ _) rfl rfl (Nat.le_of_ble_eq_true rfl) ⟨by decide, by decide⟩ ⟨by decide, by decide⟩ dX5_rivalCount_16 (kX ?_)
    refine g_if_ne (tgt := 25) hC dX5_rivalCount_19 (by decide) (fun c19 => ?_) (fun c19 => ?_)
    · refine g_aload_n hC dX5_rivalCount_25 rfl ?_
      refine g_iload_n hC dX5_rivalCount_26 rfl ?_
      refine g_callV hC v_X5_assign km_X5_142 (c_X5_assign l X b0 lo _ _ e0 hM j hj1) rfl rO rfl rfl rfl rfl (Nat.le_of_ble_eq_true rfl) ⟨by decide, by decide⟩ ⟨by decide, by decide⟩ dX5_rivalCount_27 (kV ?_)
      rintro en' ⟨T8, rfl, ha8⟩
      refine g_aload_n hC dX5_rivalCount_30 rfl ?_
      refine g_get hC rfl rO rfl kl_X5 25 (by decide) kf_X5_59 rfl rfl dX5_rivalCount_31 ?_
      refine g_iload_n hC dX5_rivalCount_34 rfl ?_
      refine g_iald hC rfl rA1015 j rfl (by omega) (by decide) dX5_rivalCount_35 ?_
      refine g_if_ge (tgt := 42) hC dX5_rivalCount_36 (by decide) (fun c36 => ?_) (fun c36 => ?_)
      · refine g_iconst (v := 0) hC dX5_rivalCount_42 (by decide) ?_
        refine g_istore_n hC dX5_rivalCount_43 (by decide) ?_
        refine g_iconst (v := 0) hC dX5_rivalCount_44 (by decide) ?_
        refine g_istore hC dX5_rivalCount_45 (by decide) ?_
        have lv_ : ∀ (r : Nat) (k : Nat) (T1 : rM2), k + r = nMo M → T1 0 j = moF M j → T1 2 j = scF M j → GO l X b0 Z 0 0 lo (enR X lo M T1 e0) 47 [(0, .ref (lo 1000)), (1, .int (nI j)), (2, .int mg), (3, .int (rvF M j mg k)), (4, .int (nI k))] [] := by
          intro r
          induction r with
          | zero =>
            intro k T1 hk9 h0 h2
            have hk8 : k = nMo M := by omega
            subst hk8
            refine g_iload hC dX5_rivalCount_47 rfl ?_
            refine g_aload_n hC dX5_rivalCount_49 rfl ?_
            refine g_get hC rfl rO rfl kl_X5 4 (by decide) kf_X5_75 rfl rfl dX5_rivalCount_50 ?_
            refine g_icmp_ge (tgt := 110) hC dX5_rivalCount_53 (by decide) (fun c53 => ?_) (fun c53 => absurd (by rw [eM]; exact nI_le (by omega) (by omega)) c53)
            refine g_iload_n hC dX5_rivalCount_110 rfl ?_
            refine g_ireti hR dX5_rivalCount_111 rfl ?_
            clear hR hC hI
            refine pRf_i ?_ rfl
            have h1 := ha8.1
            have hw := wi_ne c19
            unfold sp_rivalCount
            rw [if_pos hp, if_pos hw, ej, if_neg]
            show ¬ moA (aG M j) < 0
            rw [← h1]; exact Int32.not_lt.mpr c36
          | succ r ihlv_ =>
            intro k T1 hk9 h0 h2
            refine g_iload hC dX5_rivalCount_47 rfl ?_
            refine g_aload_n hC dX5_rivalCount_49 rfl ?_
            refine g_get hC rfl rO rfl kl_X5 4 (by decide) kf_X5_75 rfl rfl dX5_rivalCount_50 ?_
            refine g_icmp_ge (tgt := 110) hC dX5_rivalCount_53 (by decide) (fun c53 => absurd c53 (by rw [eM]; exact nI_ge (by omega) (by omega))) (fun c53 => ?_)
            refine g_aload_n hC dX5_rivalCount_56 rfl ?_
            refine g_iload_n hC dX5_rivalCount_57 rfl ?_
            refine g_iload hC dX5_rivalCount_58 rfl ?_
            refine g_callV hC v_X5_findBest km_X5_138 (c_X5_findBest l X b0 lo _ _ e0 hM j k hj1 (by omega)) rfl rO rfl rfl rfl rfl (Nat.le_of_ble_eq_true rfl) ⟨by decide, by decide⟩ ⟨by decide, by decide⟩ dX5_rivalCount_60 (kV ?_)
            rintro en' ⟨T9, rfl, htkT9, hbkT9⟩
            refine g_iload_n hC dX5_rivalCount_63 rfl ?_
            refine g_iload hC dX5_rivalCount_64 rfl ?_
            refine g_aload_n hC dX5_rivalCount_66 rfl ?_
            refine g_get hC rfl rO rfl kl_X5 25 (by decide) kf_X5_59 rfl rfl dX5_rivalCount_67 ?_
            refine g_iload_n hC dX5_rivalCount_70 rfl ?_
            refine g_iald hC rfl rA1015 j rfl (by omega) (by decide) dX5_rivalCount_71 ?_
            refine g_icmp_eq (tgt := 101) hC dX5_rivalCount_72 (by decide) (fun c72 => ?_) (fun c72 => ?_)
            · refine g_iconst (v := 0) hC dX5_rivalCount_101 (by decide) ?_
              refine g_iadd hC dX5_rivalCount_102 ?_
              refine g_val (y := rvF M j mg (k + 1)) (by
                have hnn := fb_nn hM hj1 (show k < nMo M by omega)
                have e0' : T9 0 j = moF M j := by rw [htkT9 0 (by decide)]; exact h0
                have e2' : T9 2 j = scF M j := by rw [htkT9 2 (by decide)]; exact h2
                clear hC hR hI ihlv_
                rw [rvF_s]
                cases hfb : fb M j k with
                | none => first | (rw [hfb] at hbkT9; done) | (rw [hfb] at hbkT9; simp only [bOK] at hbkT9; grind)
                | some b => rw [hfb] at hbkT9 hnn; have h9 := hnn b rfl; simp only [bOK] at hbkT9; first | (dsimp only; done) | (dsimp only; grind) | grind) ?_
              refine g_istore_n hC dX5_rivalCount_103 (by decide) ?_
              refine g_iinc hC dX5_rivalCount_104 rfl (nI_inc k) (by decide) ?_
              refine g_goto (tgt := 47) hC dX5_rivalCount_107 (by decide) ?_
              exact g_lv (lv' := [(0, .ref (lo 1000)), (1, .int (nI j)), (2, .int mg), (3, .int (rvF M j mg (k + 1))), (4, .int (nI (k + 1)))]) ⟨rfl, rfl, rfl, rfl, rfl, trivial⟩ (ihlv_ (k + 1) T9 (by omega) (by rw [htkT9 0 (by decide)]; exact h0) (by rw [htkT9 2 (by decide)]; exact h2))
            · refine g_aload_n hC dX5_rivalCount_75 rfl ?_
              refine g_get hC rfl rO rfl kl_X5 20 (by decide) kf_X5_116 rfl rfl dX5_rivalCount_76 ?_
              refine g_if_lt (tgt := 101) hC dX5_rivalCount_79 (by decide) (fun c79 => ?_) (fun c79 => ?_)
              · refine g_iconst (v := 0) hC dX5_rivalCount_101 (by decide) ?_
                refine g_iadd hC dX5_rivalCount_102 ?_
                refine g_val (y := rvF M j mg (k + 1)) (by
                  have hnn := fb_nn hM hj1 (show k < nMo M by omega)
                  have e0' : T9 0 j = moF M j := by rw [htkT9 0 (by decide)]; exact h0
                  have e2' : T9 2 j = scF M j := by rw [htkT9 2 (by decide)]; exact h2
                  clear hC hR hI ihlv_
                  rw [rvF_s]
                  cases hfb : fb M j k with
                  | none => first | (rw [hfb] at hbkT9; done) | (rw [hfb] at hbkT9; simp only [bOK] at hbkT9; grind)
                  | some b => rw [hfb] at hbkT9 hnn; have h9 := hnn b rfl; simp only [bOK] at hbkT9; first | (dsimp only; done) | (dsimp only; grind) | grind) ?_
                refine g_istore_n hC dX5_rivalCount_103 (by decide) ?_
                refine g_iinc hC dX5_rivalCount_104 rfl (nI_inc k) (by decide) ?_
                refine g_goto (tgt := 47) hC dX5_rivalCount_107 (by decide) ?_
                exact g_lv (lv' := [(0, .ref (lo 1000)), (1, .int (nI j)), (2, .int mg), (3, .int (rvF M j mg (k + 1))), (4, .int (nI (k + 1)))]) ⟨rfl, rfl, rfl, rfl, rfl, trivial⟩ (ihlv_ (k + 1) T9 (by omega) (by rw [htkT9 0 (by decide)]; exact h0) (by rw [htkT9 2 (by decide)]; exact h2))
              · refine g_aload_n hC dX5_rivalCount_82 rfl ?_
                refine g_get hC rfl rO rfl kl_X5 20 (by decide) kf_X5_116 rfl rfl dX5_rivalCount_83 ?_
                refine g_aload_n hC dX5_rivalCount_86 rfl ?_
                refine g_get hC rfl rO rfl kl_X5 27 (by decide) kf_X5_65 rfl rfl dX5_rivalCount_87 ?_
                refine g_iload_n hC dX5_rivalCount_90 rfl ?_
                refine g_iald hC rfl rA1017 j rfl (by omega) (by decide) dX5_rivalCount_91 ?_
                refine g_iload_n hC dX5_rivalCount_92 rfl ?_
                refine g_iadd hC dX5_rivalCount_93 ?_
                refine g_icmp_gt (tgt := 101) hC dX5_rivalCount_94 (by decide) (fun c94 => ?_) (fun c94 => ?_)
                · refine g_iconst (v := 0) hC dX5_rivalCount_101 (by decide) ?_
                  refine g_iadd hC dX5_rivalCount_102 ?_
                  refine g_val (y := rvF M j mg (k + 1)) (by
                    have hnn := fb_nn hM hj1 (show k < nMo M by omega)
                    have e0' : T9 0 j = moF M j := by rw [htkT9 0 (by decide)]; exact h0
                    have e2' : T9 2 j = scF M j := by rw [htkT9 2 (by decide)]; exact h2
                    clear hC hR hI ihlv_
                    rw [rvF_s]
                    cases hfb : fb M j k with
                    | none => first | (rw [hfb] at hbkT9; done) | (rw [hfb] at hbkT9; simp only [bOK] at hbkT9; grind)
                    | some b => rw [hfb] at hbkT9 hnn; have h9 := hnn b rfl; simp only [bOK] at hbkT9; first | (dsimp only; done) | (dsimp only; grind) | grind) ?_
                  refine g_istore_n hC dX5_rivalCount_103 (by decide) ?_
                  refine g_iinc hC dX5_rivalCount_104 rfl (nI_inc k) (by decide) ?_
                  refine g_goto (tgt := 47) hC dX5_rivalCount_107 (by decide) ?_
                  exact g_lv (lv' := [(0, .ref (lo 1000)), (1, .int (nI j)), (2, .int mg), (3, .int (rvF M j mg (k + 1))), (4, .int (nI (k + 1)))]) ⟨rfl, rfl, rfl, rfl, rfl, trivial⟩ (ihlv_ (k + 1) T9 (by omega) (by rw [htkT9 0 (by decide)]; exact h0) (by rw [htkT9 2 (by decide)]; exact h2))
                · refine g_iconst (v := 1) hC dX5_rivalCount_97 (by decide) ?_
                  refine g_goto (tgt := 102) hC dX5_rivalCount_98 (by decide) ?_
                  refine g_iadd hC dX5_rivalCount_102 ?_
                  refine g_val (y := rvF M j mg (k + 1)) (by
                    have hnn := fb_nn hM hj1 (show k < nMo M by omega)
                    have e0' : T9 0 j = moF M j := by rw [htkT9 0 (by decide)]; exact h0
                    have e2' : T9 2 j = scF M j := by rw [htkT9 2 (by decide)]; exact h2
                    clear hC hR hI ihlv_
                    rw [rvF_s]
                    cases hfb : fb M j k with
                    | none => first | (rw [hfb] at hbkT9; done) | (rw [hfb] at hbkT9; simp only [bOK] at hbkT9; grind)
                    | some b => rw [hfb] at hbkT9 hnn; have h9 := hnn b rfl; simp only [bOK] at hbkT9; first | (dsimp only; done) | (dsimp only; grind) | grind) ?_
                  refine g_istore_n hC dX5_rivalCount_103 (by decide) ?_
                  refine g_iinc hC dX5_rivalCount_104 rfl (nI_inc k) (by decide) ?_
                  refine g_goto (tgt := 47) hC dX5_rivalCount_107 (by decide) ?_
                  exact g_lv (lv' := [(0, .ref (lo 1000)), (1, .int (nI j)), (2, .int mg), (3, .int (rvF M j mg (k + 1))), (4, .int (nI (k + 1)))]) ⟨rfl, rfl, rfl, rfl, rfl, trivial⟩ (ihlv_ (k + 1) T9 (by omega) (by rw [htkT9 0 (by decide)]; exact h0) (by rw [htkT9 2 (by decide)]; exact h2))
        exact g_lv (lv' := [(0, .ref (lo 1000)), (1, .int (nI j)), (2, .int mg), (3, .int 0), (4, .int (nI 0))]) ⟨rfl, rfl, rfl, rfl, rfl, trivial⟩ (lv_ (nMo M) 0 T8 (by omega) ha8.1 ha8.2.2.1)
      · refine g_bipush (v := (-6)) hC dX5_rivalCount_39 (by decide) ?_
        refine g_ireti hR dX5_rivalCount_41 rfl ?_
        clear hR hC hI
        refine pRf_i ?_ rfl
        have h1 := ha8.1
        have hw := wi_ne c19
        unfold sp_rivalCount
        rw [if_pos hp, if_pos hw, ej, if_pos]
        show moA (aG M j) < 0
        rw [← h1]; exact Int32.not_le.mp c36
    · refine g_bipush (v := (-3)) hC dX5_rivalCount_22 (by decide) ?_
      refine g_ireti hR dX5_rivalCount_24 rfl ?_
      clear hR hC hI
      refine pRf_i ?_ rfl
      grind [sp_rivalCount, wi]
  · refine g_bipush (v := (-2)) hC dX5_rivalCount_8 (by decide) ?_
    refine g_ireti hR dX5_rivalCount_10 rfl ?_
    clear hR hC hI
    refine pRf_i ?_ rfl
    grind [sp_rivalCount]

set_option maxHeartbeats 4000000 in
set_option maxRecDepth 100000 in
theorem c_X5_sheetsOf (l : Launch) (X : gX) (b0 : Nat) (lo : gL) (M T : rM2) (e0 : gE) (hM : Iv M) (p : Int32) : Ct l X b0 lo (enR X lo M T e0) yX5_sheetsOf cX5_sheetsOf 4 (some FieldType.int) (rM 6 152) [.ref (lo 1000), .int p] (pRf X lo e0 (sp_sheetsOf M p)) := by
  refine gMet (by decide) (Nat.le_of_ble_eq_true rfl) rfl ?_
  intro Z hC hI hR
  obtain ⟨hS, eS⟩ := Iv_nS hM
  refine g_aload_n hC dX5_sheetsOf_0 rfl ?_
  refine g_iload_n hC dX5_sheetsOf_1 rfl ?_
  refine g_callV hC v_X5_noMould km_X5_85 (c_X5_noMould l X b0 lo _ _ e0 _) rfl rO rfl rfl rfl rfl (Nat.le_of_ble_eq_true rfl) ⟨by decide, by decide⟩ ⟨by decide, by decide⟩ dX5_sheetsOf_2 (kX ?_)
  refine g_if_eq (tgt := 10) hC dX5_sheetsOf_5 (by decide) (fun c5 => ?_) (fun c5 => ?_)
  · have hp := ite_eq c5
    obtain ⟨i, hi, rfl, hi1, -⟩ := moOf hM hp
    have ei : nt (nI i) = i := nt_nI (by omega)
    refine g_aload_n hC dX5_sheetsOf_10 rfl ?_
    refine g_callV hC v_X5_assignAll km_X5_146 (c_X5_assignAll l X b0 lo _ _ e0 hM) rfl rO rfl rfl rfl rfl (Nat.le_of_ble_eq_true rfl) ⟨by decide, by decide⟩ ⟨by decide, by decide⟩ dX5_sheetsOf_11 (kV ?_)
    rintro en' ⟨T8, rfl, hs8⟩
    refine g_iconst (v := 0) hC dX5_sheetsOf_14 (by decide) ?_
    refine g_istore_n hC dX5_sheetsOf_15 (by decide) ?_
    refine g_iconst (v := 0) hC dX5_sheetsOf_16 (by decide) ?_
    refine g_istore_n hC dX5_sheetsOf_17 (by decide) ?_
    have lb : ∀ (r : Nat) (k : Nat), k + r = nSh M → GO l X b0 Z 0 0 lo (enR X lo M T8 e0) 18 [(0, .ref (lo 1000)), (1, .int (nI i)), (2, .int (bsF M (nI i) k)), (3, .int (nI k))] [] := by
      intro r
      induction r with
      | zero =>
        intro k hk9
        have hk8 : k = nSh M := by omega
        subst hk8
        refine g_iload_n hC dX5_sheetsOf_18 rfl ?_
        refine g_aload_n hC dX5_sheetsOf_19 rfl ?_
        refine g_get hC rfl rO rfl kl_X5 11 (by decide) kf_X5_99 rfl rfl dX5_sheetsOf_20 ?_
        refine g_icmp_ge (tgt := 52) hC dX5_sheetsOf_23 (by decide) (fun c23 => ?_) (fun c23 => absurd (by rw [eS]; exact nI_le (by omega) (by omega)) c23)
        refine g_iload_n hC dX5_sheetsOf_52 rfl ?_
        refine g_ireti hR dX5_sheetsOf_53 rfl ?_
        clear hR hC hI
        refine pRf_i ?_ rfl
        unfold sp_sheetsOf
        rw [if_pos hp]
      | succ r ihlb =>
        intro k hk9
        refine g_iload_n hC dX5_sheetsOf_18 rfl ?_
        refine g_aload_n hC dX5_sheetsOf_19 rfl ?_
        refine g_get hC rfl rO rfl kl_X5 11 (by decide) kf_X5_99 rfl rfl dX5_sheetsOf_20 ?_
        refine g_icmp_ge (tgt := 52) hC dX5_sheetsOf_23 (by decide) (fun c23 => absurd c23 (by rw [eS]; exact nI_ge (by omega) (by omega))) (fun c23 => ?_)
        refine g_iload_n hC dX5_sheetsOf_26 rfl ?_
        refine g_aload_n hC dX5_sheetsOf_27 rfl ?_
        refine g_get hC rfl rO rfl kl_X5 25 (by decide) kf_X5_59 rfl rfl dX5_sheetsOf_28 ?_
        refine g_iload_n hC dX5_sheetsOf_31 rfl ?_
        refine g_iald hC rfl rA1015 k rfl (by omega) (by decide) dX5_sheetsOf_32 ?_
        refine g_iload_n hC dX5_sheetsOf_33 rfl ?_
        refine g_icmp_ne (tgt := 43) hC dX5_sheetsOf_34 (by decide) (fun c34 => ?_) (fun c34 => ?_)
        · refine g_iconst (v := 0) hC dX5_sheetsOf_43 (by decide) ?_
          refine g_ior hC dX5_sheetsOf_44 ?_
          refine g_val (y := bsF M (nI i) (k + 1)) (by
            have h8 := (hs8 k (by omega)).1
            clear hC hR hI ihlb
            rw [bsF_s]
            grind) ?_
          refine g_istore_n hC dX5_sheetsOf_45 (by decide) ?_
          refine g_iinc hC dX5_sheetsOf_46 rfl (nI_inc k) (by decide) ?_
          refine g_goto (tgt := 18) hC dX5_sheetsOf_49 (by decide) ?_
          exact g_lv (lv' := [(0, .ref (lo 1000)), (1, .int (nI i)), (2, .int (bsF M (nI i) (k + 1))), (3, .int (nI (k + 1)))]) ⟨rfl, rfl, rfl, rfl, trivial⟩ (ihlb (k + 1) (by omega))
        · refine g_iconst (v := 1) hC dX5_sheetsOf_37 (by decide) ?_
          refine g_iload_n hC dX5_sheetsOf_38 rfl ?_
          refine g_ishl hC dX5_sheetsOf_39 ?_
          refine g_goto (tgt := 44) hC dX5_sheetsOf_40 (by decide) ?_
          refine g_ior hC dX5_sheetsOf_44 ?_
          refine g_val (y := bsF M (nI i) (k + 1)) (by
            have h8 := (hs8 k (by omega)).1
            clear hC hR hI ihlb
            rw [bsF_s]
            grind) ?_
          refine g_istore_n hC dX5_sheetsOf_45 (by decide) ?_
          refine g_iinc hC dX5_sheetsOf_46 rfl (nI_inc k) (by decide) ?_
          refine g_goto (tgt := 18) hC dX5_sheetsOf_49 (by decide) ?_
          exact g_lv (lv' := [(0, .ref (lo 1000)), (1, .int (nI i)), (2, .int (bsF M (nI i) (k + 1))), (3, .int (nI (k + 1)))]) ⟨rfl, rfl, rfl, rfl, trivial⟩ (ihlb (k + 1) (by omega))
    exact g_lv (lv' := [(0, .ref (lo 1000)), (1, .int (nI i)), (2, .int 0), (3, .int (nI 0))]) ⟨rfl, rfl, rfl, rfl, trivial⟩ (lb (nSh M) 0 (by omega))
  · refine g_iconst (v := (-1)) hC dX5_sheetsOf_8 (by decide) ?_
    refine g_ireti hR dX5_sheetsOf_9 rfl ?_
    clear hR hC hI
    refine pRf_i ?_ rfl
    grind [sp_sheetsOf]

set_option maxHeartbeats 4000000 in
set_option maxRecDepth 100000 in
theorem c_X5_isLower (l : Launch) (X : gX) (b0 : Nat) (lo : gL) (M T : rM2) (e0 : gE) (hM : Iv M) (hT : sOK M T (nSh M)) (a b : Nat) (ha : a < nSh M) (hb : b < nSh M) : Ct l X b0 lo (enR X lo M T e0) yX5_isLower cX5_isLower 3 (some FieldType.boolean) (rM 0 0) [.ref (lo 1000), .int (nI a), .int (nI b)] (pX (.int (if lowF M a b then 1 else 0)) lo (enR X lo M T e0)) := by
  refine gMet (by decide) (Nat.le_of_ble_eq_true rfl) rfl ?_
  intro Z hC hI hR
  have hS := (Iv_nS hM).1
  obtain ⟨a0, a1, -⟩ := hT a ha
  obtain ⟨d0, d1, -⟩ := hT b hb
  refine g_aload_n hC dX5_isLower_0 rfl ?_
  refine g_get hC rfl rO rfl kl_X5 25 (by decide) kf_X5_59 rfl rfl dX5_isLower_1 ?_
  refine g_iload_n hC dX5_isLower_4 rfl ?_
  refine g_iald hC rfl rA1015 a rfl (by omega) (by decide) dX5_isLower_5 ?_
  refine g_if_lt (tgt := 52) hC dX5_isLower_6 (by decide) (fun c6 => ?_) (fun c6 => ?_)
  · refine g_iconst (v := 0) hC dX5_isLower_52 (by decide) ?_
    refine g_ireti hR dX5_isLower_53 (by decide) ?_
    clear hR hC hI
    refine pXi ?_
    grind
  · refine g_aload_n hC dX5_isLower_9 rfl ?_
    refine g_get hC rfl rO rfl kl_X5 25 (by decide) kf_X5_59 rfl rfl dX5_isLower_10 ?_
    refine g_iload_n hC dX5_isLower_13 rfl ?_
    refine g_iald hC rfl rA1015 a rfl (by omega) (by decide) dX5_isLower_14 ?_
    refine g_aload_n hC dX5_isLower_15 rfl ?_
    refine g_get hC rfl rO rfl kl_X5 25 (by decide) kf_X5_59 rfl rfl dX5_isLower_16 ?_
    refine g_iload_n hC dX5_isLower_19 rfl ?_
    refine g_iald hC rfl rA1015 b rfl (by omega) (by decide) dX5_isLower_20 ?_
    refine g_icmp_ne (tgt := 52) hC dX5_isLower_21 (by decide) (fun c21 => ?_) (fun c21 => ?_)
    · refine g_iconst (v := 0) hC dX5_isLower_52 (by decide) ?_
      refine g_ireti hR dX5_isLower_53 (by decide) ?_
      clear hR hC hI
      refine pXi ?_
      grind
    · refine g_aload_n hC dX5_isLower_24 rfl ?_
      refine g_get hC rfl rO rfl kl_X5 26 (by decide) kf_X5_62 rfl rfl dX5_isLower_25 ?_
      refine g_iload_n hC dX5_isLower_28 rfl ?_
      refine g_iald hC rfl rA1016 a rfl (by omega) (by decide) dX5_isLower_29 ?_
      refine g_if_lt (tgt := 52) hC dX5_isLower_30 (by decide) (fun c30 => ?_) (fun c30 => ?_)
      · refine g_iconst (v := 0) hC dX5_isLower_52 (by decide) ?_
        refine g_ireti hR dX5_isLower_53 (by decide) ?_
        clear hR hC hI
        refine pXi ?_
        grind
      · refine g_aload_n hC dX5_isLower_33 rfl ?_
        refine g_get hC rfl rO rfl kl_X5 26 (by decide) kf_X5_62 rfl rfl dX5_isLower_34 ?_
        refine g_iload_n hC dX5_isLower_37 rfl ?_
        refine g_iald hC rfl rA1016 a rfl (by omega) (by decide) dX5_isLower_38 ?_
        refine g_aload_n hC dX5_isLower_39 rfl ?_
        refine g_get hC rfl rO rfl kl_X5 26 (by decide) kf_X5_62 rfl rfl dX5_isLower_40 ?_
        refine g_iload_n hC dX5_isLower_43 rfl ?_
        refine g_iald hC rfl rA1016 b rfl (by omega) (by decide) dX5_isLower_44 ?_
        refine g_icmp_ge (tgt := 52) hC dX5_isLower_45 (by decide) (fun c45 => ?_) (fun c45 => ?_)
        · refine g_iconst (v := 0) hC dX5_isLower_52 (by decide) ?_
          refine g_ireti hR dX5_isLower_53 (by decide) ?_
          clear hR hC hI
          refine pXi ?_
          grind
        · refine g_iconst (v := 1) hC dX5_isLower_48 (by decide) ?_
          refine g_goto (tgt := 53) hC dX5_isLower_49 (by decide) ?_
          refine g_ireti hR dX5_isLower_53 (by decide) ?_
          clear hR hC hI
          refine pXi ?_
          grind

set_option maxHeartbeats 4000000 in
set_option maxRecDepth 100000 in
theorem c_X5_earliestOf (l : Launch) (X : gX) (b0 : Nat) (lo : gL) (M T : rM2) (e0 : gE) (hM : Iv M) (hT : sOK M T (nSh M)) (j : Nat) (hj : j < nSh M) : Ct l X b0 lo (enR X lo M T e0) yX5_earliestOf cX5_earliestOf 4 (some FieldType.int) (rM 1 22) [.ref (lo 1000), .int (nI j)] (pX (.int (ea M j)) lo (enR X lo M T e0)) := by
  refine gMet (by decide) (Nat.le_of_ble_eq_true rfl) rfl ?_
  intro Z hC hI hR
  obtain ⟨hS, eS⟩ := Iv_nS hM
  refine g_aload_n hC dX5_earliestOf_0 rfl ?_
  refine g_get hC rfl rO rfl kl_X5 17 (by decide) kf_X5_53 rfl rfl dX5_earliestOf_1 ?_
  refine g_iload_n hC dX5_earliestOf_4 rfl ?_
  refine g_iald hC rfl rA1013 j rfl (by omega) (by decide) dX5_earliestOf_5 ?_
  refine g_istore_n hC dX5_earliestOf_6 (by decide) ?_
  refine g_iconst (v := 0) hC dX5_earliestOf_7 (by decide) ?_
  refine g_istore_n hC dX5_earliestOf_8 (by decide) ?_
  have le : ∀ (r : Nat) (k : Nat), k + r = nSh M → GO l X b0 Z 0 0 lo (enR X lo M T e0) 9 [(0, .ref (lo 1000)), (1, .int (nI j)), (2, .int (eaF M j k)), (3, .int (nI k))] [] := by
    intro r
    induction r with
    | zero =>
      intro k hk9
      have hk8 : k = nSh M := by omega
      subst hk8
      refine g_iload_n hC dX5_earliestOf_9 rfl ?_
      refine g_aload_n hC dX5_earliestOf_10 rfl ?_
      refine g_get hC rfl rO rfl kl_X5 11 (by decide) kf_X5_99 rfl rfl dX5_earliestOf_11 ?_
      refine g_icmp_ge (tgt := 53) hC dX5_earliestOf_14 (by decide) (fun c14 => ?_) (fun c14 => absurd (by rw [eS]; exact nI_le (by omega) (by omega)) c14)
      refine g_iload_n hC dX5_earliestOf_53 rfl ?_
      refine g_ireti hR dX5_earliestOf_54 rfl ?_
      clear hR hC hI
      exact pXi rfl
    | succ r ihle =>
      intro k hk9
      refine g_iload_n hC dX5_earliestOf_9 rfl ?_
      refine g_aload_n hC dX5_earliestOf_10 rfl ?_
      refine g_get hC rfl rO rfl kl_X5 11 (by decide) kf_X5_99 rfl rfl dX5_earliestOf_11 ?_
      refine g_icmp_ge (tgt := 53) hC dX5_earliestOf_14 (by decide) (fun c14 => absurd c14 (by rw [eS]; exact nI_ge (by omega) (by omega))) (fun c14 => ?_)
      refine g_aload_n hC dX5_earliestOf_17 rfl ?_
      refine g_iload_n hC dX5_earliestOf_18 rfl ?_
      refine g_iload_n hC dX5_earliestOf_19 rfl ?_
      refine g_callV hC v_X5_isLower km_X5_149 (c_X5_isLower l X b0 lo _ _ e0 hM hT k j (by omega) (by omega)) rfl rO rfl rfl rfl rfl (Nat.le_of_ble_eq_true rfl) ⟨by decide, by decide⟩ ⟨by decide, by decide⟩ dX5_earliestOf_20 (kX ?_)
      refine g_if_eq (tgt := 45) hC dX5_earliestOf_23 (by decide) (fun c23 => ?_) (fun c23 => ?_)
      · refine g_iload_n hC dX5_earliestOf_45 rfl ?_
        refine g_val (y := eaF M j (k + 1)) (by
          clear hC hR hI ihle
          rw [eaF_s]
          grind) ?_
        refine g_istore_n hC dX5_earliestOf_46 (by decide) ?_
        refine g_iinc hC dX5_earliestOf_47 rfl (nI_inc k) (by decide) ?_
        refine g_goto (tgt := 9) hC dX5_earliestOf_50 (by decide) ?_
        exact g_lv (lv' := [(0, .ref (lo 1000)), (1, .int (nI j)), (2, .int (eaF M j (k + 1))), (3, .int (nI (k + 1)))]) ⟨rfl, rfl, rfl, rfl, trivial⟩ (ihle (k + 1) (by omega))
      · refine g_aload_n hC dX5_earliestOf_26 rfl ?_
        refine g_get hC rfl rO rfl kl_X5 17 (by decide) kf_X5_53 rfl rfl dX5_earliestOf_27 ?_
        refine g_iload_n hC dX5_earliestOf_30 rfl ?_
        refine g_iald hC rfl rA1013 k rfl (by omega) (by decide) dX5_earliestOf_31 ?_
        refine g_iload_n hC dX5_earliestOf_32 rfl ?_
        refine g_icmp_le (tgt := 45) hC dX5_earliestOf_33 (by decide) (fun c33 => ?_) (fun c33 => ?_)
        · refine g_iload_n hC dX5_earliestOf_45 rfl ?_
          refine g_val (y := eaF M j (k + 1)) (by
            clear hC hR hI ihle
            rw [eaF_s]
            grind) ?_
          refine g_istore_n hC dX5_earliestOf_46 (by decide) ?_
          refine g_iinc hC dX5_earliestOf_47 rfl (nI_inc k) (by decide) ?_
          refine g_goto (tgt := 9) hC dX5_earliestOf_50 (by decide) ?_
          exact g_lv (lv' := [(0, .ref (lo 1000)), (1, .int (nI j)), (2, .int (eaF M j (k + 1))), (3, .int (nI (k + 1)))]) ⟨rfl, rfl, rfl, rfl, trivial⟩ (ihle (k + 1) (by omega))
        · refine g_aload_n hC dX5_earliestOf_36 rfl ?_
          refine g_get hC rfl rO rfl kl_X5 17 (by decide) kf_X5_53 rfl rfl dX5_earliestOf_37 ?_
          refine g_iload_n hC dX5_earliestOf_40 rfl ?_
          refine g_iald hC rfl rA1013 k rfl (by omega) (by decide) dX5_earliestOf_41 ?_
          refine g_goto (tgt := 46) hC dX5_earliestOf_42 (by decide) ?_
          refine g_val (y := eaF M j (k + 1)) (by
            clear hC hR hI ihle
            rw [eaF_s]
            grind) ?_
          refine g_istore_n hC dX5_earliestOf_46 (by decide) ?_
          refine g_iinc hC dX5_earliestOf_47 rfl (nI_inc k) (by decide) ?_
          refine g_goto (tgt := 9) hC dX5_earliestOf_50 (by decide) ?_
          exact g_lv (lv' := [(0, .ref (lo 1000)), (1, .int (nI j)), (2, .int (eaF M j (k + 1))), (3, .int (nI (k + 1)))]) ⟨rfl, rfl, rfl, rfl, trivial⟩ (ihle (k + 1) (by omega))
  exact g_lv (lv' := [(0, .ref (lo 1000)), (1, .int (nI j)), (2, .int (M 12 j)), (3, .int (nI 0))]) ⟨rfl, rfl, rfl, rfl, trivial⟩ (le (nSh M) 0 (by omega))

set_option maxHeartbeats 4000000 in
set_option maxRecDepth 100000 in
theorem c_X5_earliest (l : Launch) (X : gX) (b0 : Nat) (lo : gL) (M T : rM2) (e0 : gE) (hM : Iv M) (p : Int32) : Ct l X b0 lo (enR X lo M T e0) yX5_earliest cX5_earliest 2 (some FieldType.int) (rM 6 152) [.ref (lo 1000), .int p] (pRf X lo e0 (sp_earliest M p)) := by
  refine gMet (by decide) (Nat.le_of_ble_eq_true rfl) rfl ?_
  intro Z hC hI hR
  refine g_aload_n hC dX5_earliest_0 rfl ?_
  refine g_iload_n hC dX5_earliest_1 rfl ?_
  refine g_callV hC v_X5_noSheet km_X5_102 (c_X5_noSheet l X b0 lo _ _ e0 _) rfl rO rfl rfl rfl rfl (Nat.le_of_ble_eq_true rfl) ⟨by decide, by decide⟩ ⟨by decide, by decide⟩ dX5_earliest_2 (kX ?_)
  refine g_if_eq (tgt := 11) hC dX5_earliest_5 (by decide) (fun c5 => ?_) (fun c5 => ?_)
  · have hp := ite_eq c5
    obtain ⟨j, hj, rfl, hj1, -⟩ := shOf hM hp
    have ej : nt (nI j) = j := nt_nI (by omega)
    refine g_aload_n hC dX5_earliest_11 rfl ?_
    refine g_callV hC v_X5_assignAll km_X5_146 (c_X5_assignAll l X b0 lo _ _ e0 hM) rfl rO rfl rfl rfl rfl (Nat.le_of_ble_eq_true rfl) ⟨by decide, by decide⟩ ⟨by decide, by decide⟩ dX5_earliest_12 (kV ?_)
    rintro en' ⟨T8, rfl, hs8⟩
    refine g_aload_n hC dX5_earliest_15 rfl ?_
    refine g_iload_n hC dX5_earliest_16 rfl ?_
    refine g_callV hC v_X5_earliestOf km_X5_153 (c_X5_earliestOf l X b0 lo _ _ e0 hM hs8 j hj1) rfl rO rfl rfl rfl rfl (Nat.le_of_ble_eq_true rfl) ⟨by decide, by decide⟩ ⟨by decide, by decide⟩ dX5_earliest_17 (kX ?_)
    refine g_ireti hR dX5_earliest_20 rfl ?_
    clear hR hC hI
    refine pRf_i ?_ rfl
    unfold sp_earliest
    rw [if_pos hp, ej]
  · refine g_bipush (v := (-2)) hC dX5_earliest_8 (by decide) ?_
    refine g_ireti hR dX5_earliest_10 rfl ?_
    clear hR hC hI
    refine pRf_i ?_ rfl
    grind [sp_earliest]

set_option maxHeartbeats 4000000 in
set_option maxRecDepth 100000 in
theorem c_X5_latest (l : Launch) (X : gX) (b0 : Nat) (lo : gL) (M T : rM2) (e0 : gE) (hM : Iv M) (p : Int32) : Ct l X b0 lo (enR X lo M T e0) yX5_latest cX5_latest 4 (some FieldType.int) (rM 6 152) [.ref (lo 1000), .int p] (pRf X lo e0 (sp_latest M p)) := by
  refine gMet (by decide) (Nat.le_of_ble_eq_true rfl) rfl ?_
  intro Z hC hI hR
  obtain ⟨hS, eS⟩ := Iv_nS hM
  refine g_aload_n hC dX5_latest_0 rfl ?_
  refine g_iload_n hC dX5_latest_1 rfl ?_
  refine g_callV hC v_X5_noSheet km_X5_102 (c_X5_noSheet l X b0 lo _ _ e0 _) rfl rO rfl rfl rfl rfl (Nat.le_of_ble_eq_true rfl) ⟨by decide, by decide⟩ ⟨by decide, by decide⟩ dX5_latest_2 (kX ?_)
  refine g_if_eq (tgt := 11) hC dX5_latest_5 (by decide) (fun c5 => ?_) (fun c5 => ?_)
  · have hp := ite_eq c5
    obtain ⟨j, hj, rfl, hj1, -⟩ := shOf hM hp
    have ej : nt (nI j) = j := nt_nI (by omega)
    refine g_aload_n hC dX5_latest_11 rfl ?_
    refine g_callV hC v_X5_assignAll km_X5_146 (c_X5_assignAll l X b0 lo _ _ e0 hM) rfl rO rfl rfl rfl rfl (Nat.le_of_ble_eq_true rfl) ⟨by decide, by decide⟩ ⟨by decide, by decide⟩ dX5_latest_12 (kV ?_)
    rintro en' ⟨T8, rfl, hs8⟩
    refine g_aload_n hC dX5_latest_15 rfl ?_
    refine g_get hC rfl rO rfl kl_X5 18 (by decide) kf_X5_56 rfl rfl dX5_latest_16 ?_
    refine g_iload_n hC dX5_latest_19 rfl ?_
    refine g_iald hC rfl rA1014 j rfl (by omega) (by decide) dX5_latest_20 ?_
    refine g_istore_n hC dX5_latest_21 (by decide) ?_
    refine g_iconst (v := 0) hC dX5_latest_22 (by decide) ?_
    refine g_istore_n hC dX5_latest_23 (by decide) ?_
    have ln : ∀ (r : Nat) (k : Nat), k + r = nSh M → GO l X b0 Z 0 0 lo (enR X lo M T8 e0) 24 [(0, .ref (lo 1000)), (1, .int (nI j)), (2, .int (laF M j k)), (3, .int (nI k))] [] := by
      intro r
      induction r with
      | zero =>
        intro k hk9
        have hk8 : k = nSh M := by omega
        subst hk8
        refine g_iload_n hC dX5_latest_24 rfl ?_
        refine g_aload_n hC dX5_latest_25 rfl ?_
        refine g_get hC rfl rO rfl kl_X5 11 (by decide) kf_X5_99 rfl rfl dX5_latest_26 ?_
        refine g_icmp_ge (tgt := 68) hC dX5_latest_29 (by decide) (fun c29 => ?_) (fun c29 => absurd (by rw [eS]; exact nI_le (by omega) (by omega)) c29)
        refine g_iload_n hC dX5_latest_68 rfl ?_
        refine g_ireti hR dX5_latest_69 rfl ?_
        clear hR hC hI
        refine pRf_i ?_ rfl
        unfold sp_latest
        rw [if_pos hp, ej]
        rfl
      | succ r ihln =>
        intro k hk9
        refine g_iload_n hC dX5_latest_24 rfl ?_
        refine g_aload_n hC dX5_latest_25 rfl ?_
        refine g_get hC rfl rO rfl kl_X5 11 (by decide) kf_X5_99 rfl rfl dX5_latest_26 ?_
        refine g_icmp_ge (tgt := 68) hC dX5_latest_29 (by decide) (fun c29 => absurd c29 (by rw [eS]; exact nI_ge (by omega) (by omega))) (fun c29 => ?_)
        refine g_aload_n hC dX5_latest_32 rfl ?_
        refine g_iload_n hC dX5_latest_33 rfl ?_
        refine g_iload_n hC dX5_latest_34 rfl ?_
        refine g_callV hC v_X5_isLower km_X5_149 (c_X5_isLower l X b0 lo _ _ e0 hM hs8 j k (by omega) (by omega)) rfl rO rfl rfl rfl rfl (Nat.le_of_ble_eq_true rfl) ⟨by decide, by decide⟩ ⟨by decide, by decide⟩ dX5_latest_35 (kX ?_)
        refine g_if_eq (tgt := 60) hC dX5_latest_38 (by decide) (fun c38 => ?_) (fun c38 => ?_)
        · refine g_iload_n hC dX5_latest_60 rfl ?_
          refine g_val (y := laF M j (k + 1)) (by
            clear hC hR hI ihln
            rw [laF_s]
            grind) ?_
          refine g_istore_n hC dX5_latest_61 (by decide) ?_
          refine g_iinc hC dX5_latest_62 rfl (nI_inc k) (by decide) ?_
          refine g_goto (tgt := 24) hC dX5_latest_65 (by decide) ?_
          exact g_lv (lv' := [(0, .ref (lo 1000)), (1, .int (nI j)), (2, .int (laF M j (k + 1))), (3, .int (nI (k + 1)))]) ⟨rfl, rfl, rfl, rfl, trivial⟩ (ihln (k + 1) (by omega))
        · refine g_aload_n hC dX5_latest_41 rfl ?_
          refine g_get hC rfl rO rfl kl_X5 18 (by decide) kf_X5_56 rfl rfl dX5_latest_42 ?_
          refine g_iload_n hC dX5_latest_45 rfl ?_
          refine g_iald hC rfl rA1014 k rfl (by omega) (by decide) dX5_latest_46 ?_
          refine g_iload_n hC dX5_latest_47 rfl ?_
          refine g_icmp_ge (tgt := 60) hC dX5_latest_48 (by decide) (fun c48 => ?_) (fun c48 => ?_)
          · refine g_iload_n hC dX5_latest_60 rfl ?_
            refine g_val (y := laF M j (k + 1)) (by
              clear hC hR hI ihln
              rw [laF_s]
              grind) ?_
            refine g_istore_n hC dX5_latest_61 (by decide) ?_
            refine g_iinc hC dX5_latest_62 rfl (nI_inc k) (by decide) ?_
            refine g_goto (tgt := 24) hC dX5_latest_65 (by decide) ?_
            exact g_lv (lv' := [(0, .ref (lo 1000)), (1, .int (nI j)), (2, .int (laF M j (k + 1))), (3, .int (nI (k + 1)))]) ⟨rfl, rfl, rfl, rfl, trivial⟩ (ihln (k + 1) (by omega))
          · refine g_aload_n hC dX5_latest_51 rfl ?_
            refine g_get hC rfl rO rfl kl_X5 18 (by decide) kf_X5_56 rfl rfl dX5_latest_52 ?_
            refine g_iload_n hC dX5_latest_55 rfl ?_
            refine g_iald hC rfl rA1014 k rfl (by omega) (by decide) dX5_latest_56 ?_
            refine g_goto (tgt := 61) hC dX5_latest_57 (by decide) ?_
            refine g_val (y := laF M j (k + 1)) (by
              clear hC hR hI ihln
              rw [laF_s]
              grind) ?_
            refine g_istore_n hC dX5_latest_61 (by decide) ?_
            refine g_iinc hC dX5_latest_62 rfl (nI_inc k) (by decide) ?_
            refine g_goto (tgt := 24) hC dX5_latest_65 (by decide) ?_
            exact g_lv (lv' := [(0, .ref (lo 1000)), (1, .int (nI j)), (2, .int (laF M j (k + 1))), (3, .int (nI (k + 1)))]) ⟨rfl, rfl, rfl, rfl, trivial⟩ (ihln (k + 1) (by omega))
    exact g_lv (lv' := [(0, .ref (lo 1000)), (1, .int (nI j)), (2, .int (M 13 j)), (3, .int (nI 0))]) ⟨rfl, rfl, rfl, rfl, trivial⟩ (ln (nSh M) 0 (by omega))
  · refine g_bipush (v := (-2)) hC dX5_latest_8 (by decide) ?_
    refine g_ireti hR dX5_latest_10 rfl ?_
    clear hR hC hI
    refine pRf_i ?_ rfl
    grind [sp_latest]

set_option maxHeartbeats 4000000 in
set_option maxRecDepth 100000 in
theorem c_X5_isAhead (l : Launch) (X : gX) (b0 : Nat) (lo : gL) (M T : rM2) (e0 : gE) (hM : Iv M) (hT : sOK M T (nSh M)) (a b : Nat) (ha : a < nSh M) (hb : b < nSh M) : Ct l X b0 lo (enR X lo M T e0) yX5_isAhead cX5_isAhead 5 (some FieldType.boolean) (rM 2 45) [.ref (lo 1000), .int (nI a), .int (nI b)] (pX (.int (if ahF M a b then 1 else 0)) lo (enR X lo M T e0)) := by
  refine gMet (by decide) (Nat.le_of_ble_eq_true rfl) rfl ?_
  intro Z hC hI hR
  have hS := (Iv_nS hM).1
  obtain ⟨-, a1, -⟩ := hT a ha
  obtain ⟨-, d1, -⟩ := hT b hb
  have hab : (nI b ≤ nI a) ↔ b ≤ a := nI_leI (by omega) (by omega)
  refine g_aload_n hC dX5_isAhead_0 rfl ?_
  refine g_get hC rfl rO rfl kl_X5 26 (by decide) kf_X5_62 rfl rfl dX5_isAhead_1 ?_
  refine g_iload_n hC dX5_isAhead_4 rfl ?_
  refine g_iald hC rfl rA1016 a rfl (by omega) (by decide) dX5_isAhead_5 ?_
  refine g_aload_n hC dX5_isAhead_6 rfl ?_
  refine g_get hC rfl rO rfl kl_X5 26 (by decide) kf_X5_62 rfl rfl dX5_isAhead_7 ?_
  refine g_iload_n hC dX5_isAhead_10 rfl ?_
  refine g_iald hC rfl rA1016 b rfl (by omega) (by decide) dX5_isAhead_11 ?_
  refine g_icmp_eq (tgt := 36) hC dX5_isAhead_12 (by decide) (fun c12 => ?_) (fun c12 => ?_)
  · refine g_aload_n hC dX5_isAhead_36 rfl ?_
    refine g_iload_n hC dX5_isAhead_37 rfl ?_
    refine g_callV hC v_X5_earliestOf km_X5_153 (c_X5_earliestOf l X b0 lo _ _ e0 hM hT _ (by omega)) rfl rO rfl rfl rfl rfl (Nat.le_of_ble_eq_true rfl) ⟨by decide, by decide⟩ ⟨by decide, by decide⟩ dX5_isAhead_38 (kX ?_)
    refine g_istore_n hC dX5_isAhead_41 (by decide) ?_
    refine g_aload_n hC dX5_isAhead_42 rfl ?_
    refine g_iload_n hC dX5_isAhead_43 rfl ?_
    refine g_callV hC v_X5_earliestOf km_X5_153 (c_X5_earliestOf l X b0 lo _ _ e0 hM hT _ (by omega)) rfl rO rfl rfl rfl rfl (Nat.le_of_ble_eq_true rfl) ⟨by decide, by decide⟩ ⟨by decide, by decide⟩ dX5_isAhead_44 (kX ?_)
    refine g_istore hC dX5_isAhead_47 (by decide) ?_
    refine g_iload_n hC dX5_isAhead_49 rfl ?_
    refine g_iload hC dX5_isAhead_50 rfl ?_
    refine g_icmp_eq (tgt := 69) hC dX5_isAhead_52 (by decide) (fun c52 => ?_) (fun c52 => ?_)
    · refine g_iload_n hC dX5_isAhead_69 rfl ?_
      refine g_iload_n hC dX5_isAhead_70 rfl ?_
      refine g_icmp_ge (tgt := 78) hC dX5_isAhead_71 (by decide) (fun c71 => ?_) (fun c71 => ?_)
      · refine g_iconst (v := 0) hC dX5_isAhead_78 (by decide) ?_
        refine g_ireti hR dX5_isAhead_79 (by decide) ?_
        clear hR hC hI
        refine pXi ?_
        grind
      · refine g_iconst (v := 1) hC dX5_isAhead_74 (by decide) ?_
        refine g_goto (tgt := 79) hC dX5_isAhead_75 (by decide) ?_
        refine g_ireti hR dX5_isAhead_79 (by decide) ?_
        clear hR hC hI
        refine pXi ?_
        grind
    · refine g_iload_n hC dX5_isAhead_55 rfl ?_
      refine g_iload hC dX5_isAhead_56 rfl ?_
      refine g_icmp_ge (tgt := 65) hC dX5_isAhead_58 (by decide) (fun c58 => ?_) (fun c58 => ?_)
      · refine g_iconst (v := 0) hC dX5_isAhead_65 (by decide) ?_
        refine g_goto (tgt := 79) hC dX5_isAhead_66 (by decide) ?_
        refine g_ireti hR dX5_isAhead_79 (by decide) ?_
        clear hR hC hI
        refine pXi ?_
        grind
      · refine g_iconst (v := 1) hC dX5_isAhead_61 (by decide) ?_
        refine g_goto (tgt := 79) hC dX5_isAhead_62 (by decide) ?_
        refine g_ireti hR dX5_isAhead_79 (by decide) ?_
        clear hR hC hI
        refine pXi ?_
        grind
  · refine g_aload_n hC dX5_isAhead_15 rfl ?_
    refine g_get hC rfl rO rfl kl_X5 26 (by decide) kf_X5_62 rfl rfl dX5_isAhead_16 ?_
    refine g_iload_n hC dX5_isAhead_19 rfl ?_
    refine g_iald hC rfl rA1016 a rfl (by omega) (by decide) dX5_isAhead_20 ?_
    refine g_aload_n hC dX5_isAhead_21 rfl ?_
    refine g_get hC rfl rO rfl kl_X5 26 (by decide) kf_X5_62 rfl rfl dX5_isAhead_22 ?_
    refine g_iload_n hC dX5_isAhead_25 rfl ?_
    refine g_iald hC rfl rA1016 b rfl (by omega) (by decide) dX5_isAhead_26 ?_
    refine g_icmp_ge (tgt := 34) hC dX5_isAhead_27 (by decide) (fun c27 => ?_) (fun c27 => ?_)
    · refine g_iconst (v := 0) hC dX5_isAhead_34 (by decide) ?_
      refine g_ireti hR dX5_isAhead_35 (by decide) ?_
      clear hR hC hI
      refine pXi ?_
      grind
    · refine g_iconst (v := 1) hC dX5_isAhead_30 (by decide) ?_
      refine g_goto (tgt := 35) hC dX5_isAhead_31 (by decide) ?_
      refine g_ireti hR dX5_isAhead_35 (by decide) ?_
      clear hR hC hI
      refine pXi ?_
      grind

set_option maxHeartbeats 4000000 in
set_option maxRecDepth 100000 in
theorem c_X5_isPlaced (l : Launch) (X : gX) (b0 : Nat) (lo : gL) (M T : rM2) (e0 : gE) (hM : Iv M) (hT : sOK M T (nSh M)) (j : Nat) (hj : j < nSh M) (p : Int32) : Ct l X b0 lo (enR X lo M T e0) yX5_isPlaced cX5_isPlaced 3 (some FieldType.boolean) (rM 0 0) [.ref (lo 1000), .int (nI j), .int p] (pX (.int (if onF M j p then 1 else 0)) lo (enR X lo M T e0)) := by
  refine gMet (by decide) (Nat.le_of_ble_eq_true rfl) rfl ?_
  intro Z hC hI hR
  have hS := (Iv_nS hM).1
  obtain ⟨a0, a1, -⟩ := hT j hj
  refine g_aload_n hC dX5_isPlaced_0 rfl ?_
  refine g_get hC rfl rO rfl kl_X5 25 (by decide) kf_X5_59 rfl rfl dX5_isPlaced_1 ?_
  refine g_iload_n hC dX5_isPlaced_4 rfl ?_
  refine g_iald hC rfl rA1015 j rfl (by omega) (by decide) dX5_isPlaced_5 ?_
  refine g_iload_n hC dX5_isPlaced_6 rfl ?_
  refine g_icmp_ne (tgt := 23) hC dX5_isPlaced_7 (by decide) (fun c7 => ?_) (fun c7 => ?_)
  · refine g_iconst (v := 0) hC dX5_isPlaced_23 (by decide) ?_
    refine g_ireti hR dX5_isPlaced_24 (by decide) ?_
    clear hR hC hI
    refine pXi ?_
    grind
  · refine g_aload_n hC dX5_isPlaced_10 rfl ?_
    refine g_get hC rfl rO rfl kl_X5 26 (by decide) kf_X5_62 rfl rfl dX5_isPlaced_11 ?_
    refine g_iload_n hC dX5_isPlaced_14 rfl ?_
    refine g_iald hC rfl rA1016 j rfl (by omega) (by decide) dX5_isPlaced_15 ?_
    refine g_if_lt (tgt := 23) hC dX5_isPlaced_16 (by decide) (fun c16 => ?_) (fun c16 => ?_)
    · refine g_iconst (v := 0) hC dX5_isPlaced_23 (by decide) ?_
      refine g_ireti hR dX5_isPlaced_24 (by decide) ?_
      clear hR hC hI
      refine pXi ?_
      grind
    · refine g_iconst (v := 1) hC dX5_isPlaced_19 (by decide) ?_
      refine g_goto (tgt := 24) hC dX5_isPlaced_20 (by decide) ?_
      refine g_ireti hR dX5_isPlaced_24 (by decide) ?_
      clear hR hC hI
      refine pXi ?_
      grind
