/-! ===== the class: questions ===== -/
set_option maxHeartbeats 4000000 in
set_option maxRecDepth 100000 in
theorem c_X4_score (l : Launch) (X : gX) (b0 : Nat) (lo : gL) (L : Nat → Nat → Nat) (K C : rM3) (e0 : gE) (M : rM2) (hM : Iv M) (hs : Sm L K M) (hc : Sc C M) (p q : Int32) : Ct l X b0 lo (enC X lo L K C e0) yX4_score cX4_score 5 (some FieldType.int) (rM 5 127) [.ref (lo 0), .int p, .int q] (pKl X lo e0 (sp_score M p q)) := by
  refine gMet (by decide) (Nat.le_of_ble_eq_true rfl) rfl ?_
  intro Z hC hI hR
  rcases Classical.em (isSh M p) with hp | hp
  · obtain ⟨j, hj30, rfl, hjn, -⟩ := shOf hM hp
    have ej : nt (nI j) = j := nt_nI (by omega)
    have hj1 : j < L 2 1 := by rw [hs.2.1]; exact hjn
    have hj50 : j < 50 := by omega
    have hN : L 2 0 ≤ 10 := by rw [hs.1]; exact (Iv_nM hM).1
    have hSS : L 2 1 ≤ 30 := by rw [hs.2.1]; exact (Iv_nS hM).1
    obtain ⟨s1, s2, s3, s4, s5, s6, s7⟩ := hs.sh hjn
    refine g_aload_n hC dX4_score_0 rfl ?_
    refine g_iload_n hC dX4_score_1 rfl ?_
    refine g_callV hC v_X4_sheetOrNull km_X4_118 (c_X4_sheetOrNull_s l X b0 lo L _ _ e0 j hj1 hSS) rfl cO rfl rfl rfl rfl (Nat.le_of_ble_eq_true rfl) ⟨by decide, by decide⟩ ⟨by decide, by decide⟩ dX4_score_2 (kX ?_)
    refine g_astore_n hC dX4_score_5 (by decide) ?_
    refine g_aload_n hC dX4_score_6 rfl ?_
    refine g_ifnonnull (tgt := 13) hC dX4_score_7 (by decide) ?_
    rcases Classical.em (isMo M q) with hq | hq
    · obtain ⟨i, hi10, rfl, hin, -⟩ := moOf hM hq
      have ei : nt (nI i) = i := nt_nI (by omega)
      have hi1 : i < L 2 0 := by rw [hs.1]; exact hin
      have h25 : i < 25 := by omega
      refine g_aload_n hC dX4_score_13 rfl ?_
      refine g_iload_n hC dX4_score_14 rfl ?_
      refine g_callV hC v_X4_mouldOrNull km_X4_78 (c_X4_mouldOrNull_s l X b0 lo L _ _ e0 i hi1 hN) rfl cO rfl rfl rfl rfl (Nat.le_of_ble_eq_true rfl) ⟨by decide, by decide⟩ ⟨by decide, by decide⟩ dX4_score_15 (kX ?_)
      refine g_ifnonnull (tgt := 23) hC dX4_score_18 (by decide) ?_
      refine g_aload_n hC dX4_score_23 rfl ?_
      refine g_aload_n hC dX4_score_24 rfl ?_
      refine g_iload_n hC dX4_score_25 rfl ?_
      refine g_callV hC v_X4_matchOf km_X4_128 (c_X4_matchOf l X b0 lo L _ _ e0 M hM hs hc j i hjn hin) rfl cO rfl rfl rfl rfl (Nat.le_of_ble_eq_true rfl) ⟨by decide, by decide⟩ ⟨by decide, by decide⟩ dX4_score_26 (kW ?_)
      rintro en' ⟨C2, rfl, hsC2, hkC2, hbC2⟩
      refine g_astore hC dX4_score_29 (by decide) ?_
      refine g_aload hC dX4_score_31 rfl ?_
      refine g_get hC rfl (cT hj1 hj50 hi10) rfl kl_X0 1 (by decide) kf_X4_132 rfl rfl dX4_score_33 ?_
      refine g_if_eq (tgt := 47) hC dX4_score_36 (by decide) (fun c36 => ?_) (fun c36 => ?_)
      · refine g_bipush (v := (-6)) hC dX4_score_47 (by decide) ?_
        refine g_ireti hR dX4_score_49 rfl ?_
        clear hR hC hI
        have hb0 : bbF M (nI j) (nI i) = 0 := by grind [bbF]
        refine pKl_i ?_ hs hsC2
        show _ = (if bbF M (nI j) (nI i) < 0 then bbF M (nI j) (nI i) else match fb M (nt (nI j)) (nt (nI i)) with | none => -6 | some b => b.1)
        rw [hb0, ej, ei, if_neg (by decide)]
        cases hfb : fb M j i with
        | none => first | (rw [hfb] at hbC2; done) | (rw [hfb] at hbC2; exact absurd hbC2 c36)
        | some b =>
          rw [hfb] at hbC2
          first | exact hbC2.2.1 | exact absurd (hbC2.1.symm.trans c36) (by decide)
      · refine g_aload hC dX4_score_39 rfl ?_
        refine g_get hC rfl (cT hj1 hj50 hi10) rfl kl_X0 2 (by decide) kf_X4_138 rfl rfl dX4_score_41 ?_
        refine g_goto (tgt := 49) hC dX4_score_44 (by decide) ?_
        refine g_ireti hR dX4_score_49 rfl ?_
        clear hR hC hI
        have hb0 : bbF M (nI j) (nI i) = 0 := by grind [bbF]
        refine pKl_i ?_ hs hsC2
        show _ = (if bbF M (nI j) (nI i) < 0 then bbF M (nI j) (nI i) else match fb M (nt (nI j)) (nt (nI i)) with | none => -6 | some b => b.1)
        rw [hb0, ej, ei, if_neg (by decide)]
        cases hfb : fb M j i with
        | none => first | (rw [hfb] at hbC2; done) | (rw [hfb] at hbC2; exact absurd hbC2 c36)
        | some b =>
          rw [hfb] at hbC2
          first | exact hbC2.2.1 | exact absurd (hbC2.1.symm.trans c36) (by decide)
    · have hqn : ¬ (0 ≤ q ∧ q < nI (L 2 0)) := fun z => hq ⟨z.1, by have h2 := z.2; rw [hs.1, ← (Iv_nM hM).2] at h2; have := hM.2.2.2.1; grind⟩
      refine g_aload_n hC dX4_score_13 rfl ?_
      refine g_iload_n hC dX4_score_14 rfl ?_
      refine g_callV hC v_X4_mouldOrNull km_X4_78 (c_X4_mouldOrNull_n l X b0 lo L _ _ e0 q hqn) rfl cO rfl rfl rfl rfl (Nat.le_of_ble_eq_true rfl) ⟨by decide, by decide⟩ ⟨by decide, by decide⟩ dX4_score_15 (kX ?_)
      refine g_ifnonnullN hC dX4_score_18 ?_
      refine g_iconst (v := (-1)) hC dX4_score_21 (by decide) ?_
      refine g_ireti hR dX4_score_22 rfl ?_
      clear hR hC hI
      have hsp : sp_score M (nI j) q = (-1, M) := by unfold sp_score bbF; rw [if_pos hp, if_neg hq]; rfl
      rw [hsp]
      exact pKl_i rfl hs hc
  · have hpn : ¬ (0 ≤ p ∧ p < nI (L 2 1)) := fun z => hp ⟨z.1, by have h2 := z.2; rw [hs.2.1, ← (Iv_nS hM).2] at h2; have := hM.2.2.2.2.1; grind⟩
    refine g_aload_n hC dX4_score_0 rfl ?_
    refine g_iload_n hC dX4_score_1 rfl ?_
    refine g_callV hC v_X4_sheetOrNull km_X4_118 (c_X4_sheetOrNull_n l X b0 lo L _ _ e0 p hpn) rfl cO rfl rfl rfl rfl (Nat.le_of_ble_eq_true rfl) ⟨by decide, by decide⟩ ⟨by decide, by decide⟩ dX4_score_2 (kX ?_)
    refine g_astore_nN hC dX4_score_5 (by decide) ?_
    refine g_aload_nN hC dX4_score_6 rfl ?_
    refine g_ifnonnullN hC dX4_score_7 ?_
    refine g_bipush (v := (-2)) hC dX4_score_10 (by decide) ?_
    refine g_ireti hR dX4_score_12 rfl ?_
    clear hR hC hI
    have hsp : sp_score M p q = (-2, M) := by unfold sp_score bbF; rw [if_neg hp]; rfl
    rw [hsp]
    exact pKl_i rfl hs hc

set_option maxHeartbeats 4000000 in
set_option maxRecDepth 100000 in
theorem c_X4_placement (l : Launch) (X : gX) (b0 : Nat) (lo : gL) (L : Nat → Nat → Nat) (K C : rM3) (e0 : gE) (M : rM2) (hM : Iv M) (hs : Sm L K M) (hc : Sc C M) (p q w : Int32) : Ct l X b0 lo (enC X lo L K C e0) yX4_placement cX4_placement 6 (some FieldType.int) (rM 5 127) [.ref (lo 0), .int p, .int q, .int w] (pKl X lo e0 (sp_placement M p q w)) := by
  refine gMet (by decide) (Nat.le_of_ble_eq_true rfl) rfl ?_
  intro Z hC hI hR
  rcases Classical.em (isSh M p) with hp | hp
  · obtain ⟨j, hj30, rfl, hjn, -⟩ := shOf hM hp
    have ej : nt (nI j) = j := nt_nI (by omega)
    have hj1 : j < L 2 1 := by rw [hs.2.1]; exact hjn
    have hj50 : j < 50 := by omega
    have hN : L 2 0 ≤ 10 := by rw [hs.1]; exact (Iv_nM hM).1
    have hSS : L 2 1 ≤ 30 := by rw [hs.2.1]; exact (Iv_nS hM).1
    obtain ⟨s1, s2, s3, s4, s5, s6, s7⟩ := hs.sh hjn
    refine g_aload_n hC dX4_placement_0 rfl ?_
    refine g_iload_n hC dX4_placement_1 rfl ?_
    refine g_callV hC v_X4_sheetOrNull km_X4_118 (c_X4_sheetOrNull_s l X b0 lo L _ _ e0 j hj1 hSS) rfl cO rfl rfl rfl rfl (Nat.le_of_ble_eq_true rfl) ⟨by decide, by decide⟩ ⟨by decide, by decide⟩ dX4_placement_2 (kX ?_)
    refine g_astore hC dX4_placement_5 (by decide) ?_
    refine g_aload hC dX4_placement_7 rfl ?_
    refine g_ifnonnull (tgt := 15) hC dX4_placement_9 (by decide) ?_
    rcases Classical.em (isMo M q) with hq | hq
    · obtain ⟨i, hi10, rfl, hin, -⟩ := moOf hM hq
      have ei : nt (nI i) = i := nt_nI (by omega)
      have hi1 : i < L 2 0 := by rw [hs.1]; exact hin
      have h25 : i < 25 := by omega
      refine g_aload_n hC dX4_placement_15 rfl ?_
      refine g_iload_n hC dX4_placement_16 rfl ?_
      refine g_callV hC v_X4_mouldOrNull km_X4_78 (c_X4_mouldOrNull_s l X b0 lo L _ _ e0 i hi1 hN) rfl cO rfl rfl rfl rfl (Nat.le_of_ble_eq_true rfl) ⟨by decide, by decide⟩ ⟨by decide, by decide⟩ dX4_placement_17 (kX ?_)
      refine g_ifnonnull (tgt := 25) hC dX4_placement_20 (by decide) ?_
      refine g_iload_n hC dX4_placement_25 rfl ?_
      refine g_iconst (v := 0) hC dX4_placement_26 (by decide) ?_
      refine g_iconst (v := 3) hC dX4_placement_27 (by decide) ?_
      refine g_callS hC v_X4_isWithin km_X4_54 (c_X4_isWithin l X b0 lo _ _ _ _) rfl rfl (Nat.le_of_ble_eq_true rfl) ⟨by decide, by decide⟩ ⟨by decide, by decide⟩ dX4_placement_28 (kX ?_)
      refine g_if_ne (tgt := 37) hC dX4_placement_31 (by decide) (fun c31 => ?_) (fun c31 => ?_)
      · refine g_aload_n hC dX4_placement_37 rfl ?_
        refine g_aload hC dX4_placement_38 rfl ?_
        refine g_iload_n hC dX4_placement_40 rfl ?_
        refine g_callV hC v_X4_matchOf km_X4_128 (c_X4_matchOf l X b0 lo L _ _ e0 M hM hs hc j i hjn hin) rfl cO rfl rfl rfl rfl (Nat.le_of_ble_eq_true rfl) ⟨by decide, by decide⟩ ⟨by decide, by decide⟩ dX4_placement_41 (kW ?_)
        rintro en' ⟨C2, rfl, hsC2, hkC2, hbC2⟩
        refine g_astore hC dX4_placement_44 (by decide) ?_
        refine g_aload hC dX4_placement_46 rfl ?_
        refine g_get hC rfl (cT hj1 hj50 hi10) rfl kl_X0 1 (by decide) kf_X4_132 rfl rfl dX4_placement_48 ?_
        refine g_if_ne (tgt := 57) hC dX4_placement_51 (by decide) (fun c51 => ?_) (fun c51 => ?_)
        · have hw : w = 0 ∨ w = 1 ∨ w = 2 ∨ (w = 3 ∧ ¬ w = 0 ∧ ¬ w = 1 ∧ ¬ w = 2) := by have := wi_ne c31; grind
          refine g_iload_n hC dX4_placement_57 rfl ?_
          rcases hw with rfl | rfl | rfl | hw
          · refine g_tableIn (off := 26) (tgt := 84) hC dX4_placement_58 (by decide) (by decide) rfl (by decide) ?_
            refine g_aload hC dX4_placement_84 rfl ?_
            refine g_get hC rfl (cT hj1 hj50 hi10) rfl kl_X0 3 (by decide) kf_X4_141 rfl rfl dX4_placement_86 ?_
            refine g_ireti hR dX4_placement_89 rfl ?_
            clear hR hC hI
            have hb0 : bbF M (nI j) (nI i) = 0 := by grind [bbF]
            refine pKl_i ?_ hs hsC2
            show _ = (if bbF M (nI j) (nI i) < 0 then bbF M (nI j) (nI i) else if 0 ≤ (0 : Int32) ∧ (0 : Int32) ≤ 3 then (match fb M (nt (nI j)) (nt (nI i)) with | none => -6 | some b => if (0 : Int32) = 0 then b.2.1 else if (0 : Int32) = 1 then b.2.2.1 else if (0 : Int32) = 2 then b.2.2.2.1 else b.2.2.2.2) else -3)
            rw [hb0, ej, ei, if_neg (by decide), if_pos (by decide)]
            cases hfb : fb M j i with
            | none => rw [hfb] at hbC2; exact absurd hbC2 c51
            | some b => rw [hfb] at hbC2; exact hbC2.2.2.1
          · refine g_tableIn (off := 32) (tgt := 90) hC dX4_placement_58 (by decide) (by decide) rfl (by decide) ?_
            refine g_aload hC dX4_placement_90 rfl ?_
            refine g_get hC rfl (cT hj1 hj50 hi10) rfl kl_X0 4 (by decide) kf_X4_144 rfl rfl dX4_placement_92 ?_
            refine g_ireti hR dX4_placement_95 rfl ?_
            clear hR hC hI
            have hb0 : bbF M (nI j) (nI i) = 0 := by grind [bbF]
            refine pKl_i ?_ hs hsC2
            show _ = (if bbF M (nI j) (nI i) < 0 then bbF M (nI j) (nI i) else if 0 ≤ (1 : Int32) ∧ (1 : Int32) ≤ 3 then (match fb M (nt (nI j)) (nt (nI i)) with | none => -6 | some b => if (1 : Int32) = 0 then b.2.1 else if (1 : Int32) = 1 then b.2.2.1 else if (1 : Int32) = 2 then b.2.2.2.1 else b.2.2.2.2) else -3)
            rw [hb0, ej, ei, if_neg (by decide), if_pos (by decide)]
            cases hfb : fb M j i with
            | none => rw [hfb] at hbC2; exact absurd hbC2 c51
            | some b => rw [hfb] at hbC2; exact hbC2.2.2.2.1
          · refine g_tableIn (off := 38) (tgt := 96) hC dX4_placement_58 (by decide) (by decide) rfl (by decide) ?_
            refine g_aload hC dX4_placement_96 rfl ?_
            refine g_get hC rfl (cT hj1 hj50 hi10) rfl kl_X0 5 (by decide) kf_X4_147 rfl rfl dX4_placement_98 ?_
            refine g_ireti hR dX4_placement_101 rfl ?_
            clear hR hC hI
            have hb0 : bbF M (nI j) (nI i) = 0 := by grind [bbF]
            refine pKl_i ?_ hs hsC2
            show _ = (if bbF M (nI j) (nI i) < 0 then bbF M (nI j) (nI i) else if 0 ≤ (2 : Int32) ∧ (2 : Int32) ≤ 3 then (match fb M (nt (nI j)) (nt (nI i)) with | none => -6 | some b => if (2 : Int32) = 0 then b.2.1 else if (2 : Int32) = 1 then b.2.2.1 else if (2 : Int32) = 2 then b.2.2.2.1 else b.2.2.2.2) else -3)
            rw [hb0, ej, ei, if_neg (by decide), if_pos (by decide)]
            cases hfb : fb M j i with
            | none => rw [hfb] at hbC2; exact absurd hbC2 c51
            | some b => rw [hfb] at hbC2; exact hbC2.2.2.2.2.1
          · refine g_tableOut (tgt := 102) hC dX4_placement_58 (by rw [hw.1]; decide) (by decide) ?_
            refine g_aload hC dX4_placement_102 rfl ?_
            refine g_get hC rfl (cT hj1 hj50 hi10) rfl kl_X0 6 (by decide) kf_X4_150 rfl rfl dX4_placement_104 ?_
            refine g_iconst (v := (-1)) hC dX4_placement_107 (by decide) ?_
            refine g_icmp_ne (tgt := 116) hC dX4_placement_108 (by decide) (fun c108 => ?_) (fun c108 => ?_)
            · refine g_aload hC dX4_placement_116 rfl ?_
              refine g_get hC rfl (cT hj1 hj50 hi10) rfl kl_X0 6 (by decide) kf_X4_150 rfl rfl dX4_placement_118 ?_
              refine g_ireti hR dX4_placement_121 rfl ?_
              clear hR hC hI
              have hb0 : bbF M (nI j) (nI i) = 0 := by grind [bbF]
              refine pKl_i ?_ hs hsC2
              show _ = (if bbF M (nI j) (nI i) < 0 then bbF M (nI j) (nI i) else if 0 ≤ w ∧ w ≤ 3 then (match fb M (nt (nI j)) (nt (nI i)) with | none => -6 | some b => if w = 0 then b.2.1 else if w = 1 then b.2.2.1 else if w = 2 then b.2.2.2.1 else b.2.2.2.2) else -3)
              rw [hb0, ej, ei, if_neg (by decide), if_pos (wi_ne c31)]
              have hss := fb_S hM hjn hin
              cases hfb : fb M j i with
              | none => first | (rw [hfb] at hbC2; done) | (rw [hfb] at hbC2; exact absurd hbC2 c51)
              | some b =>
                rw [hfb] at hbC2 hss
                have h6 := hbC2.2.2.2.2.2
                have h7 := hss b rfl
                dsimp only
                rw [if_neg hw.2.1, if_neg hw.2.2.1, if_neg hw.2.2.2]
                unfold stC at h6
                clear hs hc hM hsC2
                grind
            · refine g_bipush (v := (-6)) hC dX4_placement_111 (by decide) ?_
              refine g_goto (tgt := 121) hC dX4_placement_113 (by decide) ?_
              refine g_ireti hR dX4_placement_121 rfl ?_
              clear hR hC hI
              have hb0 : bbF M (nI j) (nI i) = 0 := by grind [bbF]
              refine pKl_i ?_ hs hsC2
              show _ = (if bbF M (nI j) (nI i) < 0 then bbF M (nI j) (nI i) else if 0 ≤ w ∧ w ≤ 3 then (match fb M (nt (nI j)) (nt (nI i)) with | none => -6 | some b => if w = 0 then b.2.1 else if w = 1 then b.2.2.1 else if w = 2 then b.2.2.2.1 else b.2.2.2.2) else -3)
              rw [hb0, ej, ei, if_neg (by decide), if_pos (wi_ne c31)]
              have hss := fb_S hM hjn hin
              cases hfb : fb M j i with
              | none => first | (rw [hfb] at hbC2; done) | (rw [hfb] at hbC2; exact absurd hbC2 c51)
              | some b =>
                rw [hfb] at hbC2 hss
                have h6 := hbC2.2.2.2.2.2
                have h7 := hss b rfl
                dsimp only
                rw [if_neg hw.2.1, if_neg hw.2.2.1, if_neg hw.2.2.2]
                unfold stC at h6
                clear hs hc hM hsC2
                grind
        · refine g_bipush (v := (-6)) hC dX4_placement_54 (by decide) ?_
          refine g_ireti hR dX4_placement_56 rfl ?_
          clear hR hC hI
          have hb0 : bbF M (nI j) (nI i) = 0 := by grind [bbF]
          refine pKl_i ?_ hs hsC2
          show _ = (if bbF M (nI j) (nI i) < 0 then bbF M (nI j) (nI i) else if 0 ≤ w ∧ w ≤ 3 then (match fb M (nt (nI j)) (nt (nI i)) with | none => -6 | some b => if w = 0 then b.2.1 else if w = 1 then b.2.2.1 else if w = 2 then b.2.2.2.1 else b.2.2.2.2) else -3)
          rw [hb0, ej, ei, if_neg (by decide), if_pos (wi_ne c31)]
          cases hfb : fb M j i with
          | none => rfl
          | some b => rw [hfb] at hbC2; exact absurd (hbC2.1.symm.trans c51) (by decide)
      · refine g_bipush (v := (-3)) hC dX4_placement_34 (by decide) ?_
        refine g_ireti hR dX4_placement_36 rfl ?_
        clear hR hC hI
        have hb0 : bbF M (nI j) (nI i) = 0 := by grind [bbF]
        have hsp : sp_placement M (nI j) (nI i) w = (-3, M) := by unfold sp_placement; rw [hb0, if_neg (by decide), if_neg (wi_eq c31)]
        rw [hsp]
        exact pKl_i rfl hs hc
    · have hqn : ¬ (0 ≤ q ∧ q < nI (L 2 0)) := fun z => hq ⟨z.1, by have h2 := z.2; rw [hs.1, ← (Iv_nM hM).2] at h2; have := hM.2.2.2.1; grind⟩
      refine g_aload_n hC dX4_placement_15 rfl ?_
      refine g_iload_n hC dX4_placement_16 rfl ?_
      refine g_callV hC v_X4_mouldOrNull km_X4_78 (c_X4_mouldOrNull_n l X b0 lo L _ _ e0 q hqn) rfl cO rfl rfl rfl rfl (Nat.le_of_ble_eq_true rfl) ⟨by decide, by decide⟩ ⟨by decide, by decide⟩ dX4_placement_17 (kX ?_)
      refine g_ifnonnullN hC dX4_placement_20 ?_
      refine g_iconst (v := (-1)) hC dX4_placement_23 (by decide) ?_
      refine g_ireti hR dX4_placement_24 rfl ?_
      clear hR hC hI
      have hsp : sp_placement M (nI j) q w = (-1, M) := by unfold sp_placement bbF; rw [if_pos hp, if_neg hq]; rfl
      rw [hsp]
      exact pKl_i rfl hs hc
  · have hpn : ¬ (0 ≤ p ∧ p < nI (L 2 1)) := fun z => hp ⟨z.1, by have h2 := z.2; rw [hs.2.1, ← (Iv_nS hM).2] at h2; have := hM.2.2.2.2.1; grind⟩
    refine g_aload_n hC dX4_placement_0 rfl ?_
    refine g_iload_n hC dX4_placement_1 rfl ?_
    refine g_callV hC v_X4_sheetOrNull km_X4_118 (c_X4_sheetOrNull_n l X b0 lo L _ _ e0 p hpn) rfl cO rfl rfl rfl rfl (Nat.le_of_ble_eq_true rfl) ⟨by decide, by decide⟩ ⟨by decide, by decide⟩ dX4_placement_2 (kX ?_)
    refine g_astoreN hC dX4_placement_5 (by decide) ?_
    refine g_aloadN hC dX4_placement_7 rfl ?_
    refine g_ifnonnullN hC dX4_placement_9 ?_
    refine g_bipush (v := (-2)) hC dX4_placement_12 (by decide) ?_
    refine g_ireti hR dX4_placement_14 rfl ?_
    clear hR hC hI
    have hsp : sp_placement M p q w = (-2, M) := by unfold sp_placement bbF; rw [if_neg hp]; rfl
    rw [hsp]
    exact pKl_i rfl hs hc

set_option maxHeartbeats 4000000 in
set_option maxRecDepth 100000 in
theorem c_X4_assignedMould (l : Launch) (X : gX) (b0 : Nat) (lo : gL) (L : Nat → Nat → Nat) (K C : rM3) (e0 : gE) (M : rM2) (hM : Iv M) (hs : Sm L K M) (hc : Sc C M) (p : Int32) : Ct l X b0 lo (enC X lo L K C e0) yX4_assignedMould cX4_assignedMould 3 (some FieldType.int) (rM 6 152) [.ref (lo 0), .int p] (pKl X lo e0 (sp_assignedMould M p)) := by
  refine gMet (by decide) (Nat.le_of_ble_eq_true rfl) rfl ?_
  intro Z hC hI hR
  rcases Classical.em (isSh M p) with hp | hp
  · obtain ⟨j, hj30, rfl, hjn, -⟩ := shOf hM hp
    have ej : nt (nI j) = j := nt_nI (by omega)
    have hj1 : j < L 2 1 := by rw [hs.2.1]; exact hjn
    have hj50 : j < 50 := by omega
    have hN : L 2 0 ≤ 10 := by rw [hs.1]; exact (Iv_nM hM).1
    have hSS : L 2 1 ≤ 30 := by rw [hs.2.1]; exact (Iv_nS hM).1
    obtain ⟨s1, s2, s3, s4, s5, s6, s7⟩ := hs.sh hjn
    refine g_aload_n hC dX4_assignedMould_0 rfl ?_
    refine g_iload_n hC dX4_assignedMould_1 rfl ?_
    refine g_callV hC v_X4_sheetOrNull km_X4_118 (c_X4_sheetOrNull_s l X b0 lo L _ _ e0 j hj1 hSS) rfl cO rfl rfl rfl rfl (Nat.le_of_ble_eq_true rfl) ⟨by decide, by decide⟩ ⟨by decide, by decide⟩ dX4_assignedMould_2 (kX ?_)
    refine g_astore_n hC dX4_assignedMould_5 (by decide) ?_
    refine g_aload_n hC dX4_assignedMould_6 rfl ?_
    refine g_ifnonnull (tgt := 15) hC dX4_assignedMould_7 (by decide) ?_
    refine g_aload_n hC dX4_assignedMould_15 rfl ?_
    refine g_aload_n hC dX4_assignedMould_16 rfl ?_
    refine g_callV hC v_X4_mouldFor km_X4_153 (c_X4_mouldFor l X b0 lo L _ _ e0 M hM hs hc j hjn) rfl cO rfl rfl rfl rfl (Nat.le_of_ble_eq_true rfl) ⟨by decide, by decide⟩ ⟨by decide, by decide⟩ dX4_assignedMould_17 (kI ?_)
    rintro r1 en' ⟨rfl, C2, rfl, hsC2, hkC2⟩
    refine g_ireti hR dX4_assignedMould_20 rfl ?_
    clear hR hC hI
    have hsp : sp_assignedMould M (nI j) = (moF M j, M) := by unfold sp_assignedMould; rw [if_pos hp, ej]
    rw [hsp]
    exact pKl_i rfl hs hsC2
  · have hpn : ¬ (0 ≤ p ∧ p < nI (L 2 1)) := fun z => hp ⟨z.1, by have h2 := z.2; rw [hs.2.1, ← (Iv_nS hM).2] at h2; have := hM.2.2.2.2.1; grind⟩
    refine g_aload_n hC dX4_assignedMould_0 rfl ?_
    refine g_iload_n hC dX4_assignedMould_1 rfl ?_
    refine g_callV hC v_X4_sheetOrNull km_X4_118 (c_X4_sheetOrNull_n l X b0 lo L _ _ e0 p hpn) rfl cO rfl rfl rfl rfl (Nat.le_of_ble_eq_true rfl) ⟨by decide, by decide⟩ ⟨by decide, by decide⟩ dX4_assignedMould_2 (kX ?_)
    refine g_astore_nN hC dX4_assignedMould_5 (by decide) ?_
    refine g_aload_nN hC dX4_assignedMould_6 rfl ?_
    refine g_ifnonnullN hC dX4_assignedMould_7 ?_
    refine g_bipush (v := (-2)) hC dX4_assignedMould_10 (by decide) ?_
    refine g_goto (tgt := 20) hC dX4_assignedMould_12 (by decide) ?_
    refine g_ireti hR dX4_assignedMould_20 rfl ?_
    clear hR hC hI
    have hsp : sp_assignedMould M p = (-2, M) := by unfold sp_assignedMould; rw [if_neg hp]
    rw [hsp]
    exact pKl_i rfl hs hc

set_option maxHeartbeats 4000000 in
set_option maxRecDepth 100000 in
theorem c_X4_rivalCount (l : Launch) (X : gX) (b0 : Nat) (lo : gL) (L : Nat → Nat → Nat) (K C : rM3) (e0 : gE) (M : rM2) (hM : Iv M) (hs : Sm L K M) (hc : Sc C M) (p mg : Int32) : Ct l X b0 lo (enC X lo L K C e0) yX4_rivalCount cX4_rivalCount 9 (some FieldType.int) (rM 6 152) [.ref (lo 0), .int p, .int mg] (pKl X lo e0 (sp_rivalCount M p mg)) := by
  refine gMet (by decide) (Nat.le_of_ble_eq_true rfl) rfl ?_
  intro Z hC hI hR
  rcases Classical.em (isSh M p) with hp | hp
  · obtain ⟨j, hj30, rfl, hjn, -⟩ := shOf hM hp
    have ej : nt (nI j) = j := nt_nI (by omega)
    have hj1 : j < L 2 1 := by rw [hs.2.1]; exact hjn
    have hj50 : j < 50 := by omega
    have hN : L 2 0 ≤ 10 := by rw [hs.1]; exact (Iv_nM hM).1
    have hSS : L 2 1 ≤ 30 := by rw [hs.2.1]; exact (Iv_nS hM).1
    obtain ⟨s1, s2, s3, s4, s5, s6, s7⟩ := hs.sh hjn
    refine g_aload_n hC dX4_rivalCount_0 rfl ?_
    refine g_iload_n hC dX4_rivalCount_1 rfl ?_
    refine g_callV hC v_X4_sheetOrNull km_X4_118 (c_X4_sheetOrNull_s l X b0 lo L _ _ e0 j hj1 hSS) rfl cO rfl rfl rfl rfl (Nat.le_of_ble_eq_true rfl) ⟨by decide, by decide⟩ ⟨by decide, by decide⟩ dX4_rivalCount_2 (kX ?_)
    refine g_astore_n hC dX4_rivalCount_5 (by decide) ?_
    refine g_aload_n hC dX4_rivalCount_6 rfl ?_
    refine g_ifnonnull (tgt := 13) hC dX4_rivalCount_7 (by decide) ?_
    refine g_iload_n hC dX4_rivalCount_13 rfl ?_
    refine g_iconst (v := 0) hC dX4_rivalCount_14 (by decide) ?_
    refine g_sipush (v := 1000) hC dX4_rivalCount_15 (by decide) ?_
    refine g_callS hC v_X4_isWithin km_X4_54 (c_X4_isWithin l X b0 lo _ _ _ _) rfl rfl (Nat.le_of_ble_eq_true rfl) ⟨by decide, by decide⟩ ⟨by decide, by decide⟩ dX4_rivalCount_18 (kX ?_)
    refine g_if_ne (tgt := 27) hC dX4_rivalCount_21 (by decide) (fun c21 => ?_) (fun c21 => ?_)
    · refine g_aload_n hC dX4_rivalCount_27 rfl ?_
      refine g_aload_n hC dX4_rivalCount_28 rfl ?_
      refine g_callV hC v_X4_mouldFor km_X4_153 (c_X4_mouldFor l X b0 lo L _ _ e0 M hM hs hc j hjn) rfl cO rfl rfl rfl rfl (Nat.le_of_ble_eq_true rfl) ⟨by decide, by decide⟩ ⟨by decide, by decide⟩ dX4_rivalCount_29 (kI ?_)
      rintro r1 en' ⟨rfl, C2, rfl, hsC2, hkC2⟩
      refine g_istore hC dX4_rivalCount_32 (by decide) ?_
      refine g_iload hC dX4_rivalCount_34 rfl ?_
      refine g_bipush (v := (-6)) hC dX4_rivalCount_36 (by decide) ?_
      refine g_icmp_ne (tgt := 44) hC dX4_rivalCount_38 (by decide) (fun c38 => ?_) (fun c38 => ?_)
      · have hnn : ¬ moF M j < 0 := by have := moF_ok (j := j) hM; grind
        obtain ⟨a, b, ha, hmi0, hia, hfa, -, hsc⟩ := aG_of hnn
        obtain ⟨i, hi, hmi, hfi⟩ : ∃ i, i < nMo M ∧ moF M j = nI i ∧ fb M j i = some b := ⟨a.1, hia, hmi0, hfa⟩
        have hN10 := (Iv_nM hM).1
        have hi1 : i < L 2 0 := by rw [hs.1]; exact hi
        have h25 : i < 25 := by omega
        have hi10 : i < 10 := by omega
        refine g_aload_n hC dX4_rivalCount_44 rfl ?_
        refine g_aload_n hC dX4_rivalCount_45 rfl ?_
        refine g_iload hC dX4_rivalCount_46 rfl ?_
        refine g_val hmi ?_
        refine g_callV hC v_X4_matchOf km_X4_128 (c_X4_matchOf l X b0 lo L _ _ e0 M hM hs hsC2 j i hjn hi) rfl cO rfl rfl rfl rfl (Nat.le_of_ble_eq_true rfl) ⟨by decide, by decide⟩ ⟨by decide, by decide⟩ dX4_rivalCount_48 (kW ?_)
        rintro en' ⟨C3, rfl, hsC3, hkC3, hbC3⟩
        refine g_get hC rfl (cT hj1 hj50 hi10) rfl kl_X0 2 (by decide) kf_X4_138 rfl rfl dX4_rivalCount_51 ?_
        refine g_val (y := scF M j) (by rw [hfi] at hbC3; rw [hsc]; exact hbC3.2.1) ?_
        refine g_iload_n hC dX4_rivalCount_54 rfl ?_
        refine g_iadd hC dX4_rivalCount_55 ?_
        refine g_istore hC dX4_rivalCount_56 (by decide) ?_
        refine g_lv (lv' := [(0, .ref (lo 0)), (1, .int (nI j)), (2, .int mg), (3, .ref (lo (200 + 16 * j))), (4, .int (nI i)), (5, .int (scF M j + mg))]) ⟨rfl, rfl, rfl, rfl, (by show some (Value.int (moF M j)) = _; rw [hmi]), rfl, trivial⟩ ?_
        refine g_iconst (v := 0) hC dX4_rivalCount_58 (by decide) ?_
        refine g_istore hC dX4_rivalCount_59 (by decide) ?_
        refine g_iconst (v := 0) hC dX4_rivalCount_61 (by decide) ?_
        refine g_istore hC dX4_rivalCount_62 (by decide) ?_
        have lr : ∀ (r : Nat) (k : Nat) (C1 : rM3), k + r = nMo M → Sc C1 M → GO l X b0 Z 0 0 lo (enC X lo L K C1 e0) 64 [(0, .ref (lo 0)), (2, .int mg), (3, .ref (lo (200 + 16 * j))), (4, .int (nI i)), (5, .int (scF M j + mg)), (6, .int (rvF M j mg k)), (7, .int (nI k))] [] := by
          intro r
          induction r with
          | zero =>
            intro k C1 hk9 hc1
            have hk8 : k = nMo M := by omega
            subst hk8
            refine g_iload hC dX4_rivalCount_64 rfl ?_
            refine g_aload_n hC dX4_rivalCount_66 rfl ?_
            refine g_get hC rfl cO rfl kl_X4 5 (by decide) kf_X4_29 rfl rfl dX4_rivalCount_67 ?_
            refine g_icmp_ge (tgt := 116) hC dX4_rivalCount_70 (by decide) (fun c70 => ?_) (fun c70 => absurd (by rw [hs.1]; exact nI_le (by omega) (by omega)) c70)
            refine g_iload hC dX4_rivalCount_116 rfl ?_
            refine g_ireti hR dX4_rivalCount_118 rfl ?_
            clear hR hC hI
            have hsp : sp_rivalCount M (nI j) mg = (rvF M j mg (nMo M), M) := by unfold sp_rivalCount; rw [if_pos hp, if_pos (wi_ne c21), ej, if_neg hnn]
            rw [hsp]
            exact pKl_i rfl hs hc1
          | succ r ihlr =>
            intro k C1 hk9 hc1
            have hk1 : k < nMo M := by omega
            have hk10 : k < 10 := by omega
            refine g_iload hC dX4_rivalCount_64 rfl ?_
            refine g_aload_n hC dX4_rivalCount_66 rfl ?_
            refine g_get hC rfl cO rfl kl_X4 5 (by decide) kf_X4_29 rfl rfl dX4_rivalCount_67 ?_
            refine g_icmp_ge (tgt := 116) hC dX4_rivalCount_70 (by decide) (fun c70 => absurd c70 (by rw [hs.1]; exact nI_ge (by omega) (by omega))) (fun c70 => ?_)
            refine g_aload_n hC dX4_rivalCount_73 rfl ?_
            refine g_aload_n hC dX4_rivalCount_74 rfl ?_
            refine g_iload hC dX4_rivalCount_75 rfl ?_
            refine g_callV hC v_X4_matchOf km_X4_128 (c_X4_matchOf l X b0 lo L _ _ e0 M hM hs hc1 j k hjn hk1) rfl cO rfl rfl rfl rfl (Nat.le_of_ble_eq_true rfl) ⟨by decide, by decide⟩ ⟨by decide, by decide⟩ dX4_rivalCount_77 (kW ?_)
            rintro en' ⟨C4, rfl, hsC4, hkC4, hbC4⟩
            refine g_astore hC dX4_rivalCount_80 (by decide) ?_
            refine g_iload hC dX4_rivalCount_82 rfl ?_
            refine g_iload hC dX4_rivalCount_84 rfl ?_
            refine g_icmp_eq (tgt := 110) hC dX4_rivalCount_86 (by decide) (fun c86 => ?_) (fun c86 => ?_)
            · have hst : rvF M j mg (k + 1) = rvF M j mg k := by
                rw [rvF_s, hmi]
                have hz : ∀ z : Int32, z + 0 = z := fun z => by grind
                cases hfb : fb M j k with
                | none =>
                  rw [hfb] at hbC4
                  exact hz _
                | some b =>
                  rw [hfb] at hbC4
                  have h2 := hbC4.2.1
                  dsimp only
                  rw [if_neg, hz]
                  rintro ⟨z1, z2⟩
                  first
                  | exact z1 c86
                  | exact absurd (hbC4.1.symm.trans c94) (by decide)
                  | (rw [← h2] at z2; exact absurd z2 (Int32.not_le.mpr c104))
              refine g_iinc hC dX4_rivalCount_110 rfl (nI_inc k) (by decide) ?_
              refine g_goto (tgt := 64) hC dX4_rivalCount_113 (by decide) ?_
              exact g_lv (lv' := [(0, .ref (lo 0)), (2, .int mg), (3, .ref (lo (200 + 16 * j))), (4, .int (nI i)), (5, .int (scF M j + mg)), (6, .int (rvF M j mg (k + 1))), (7, .int (nI (k + 1)))]) ⟨rfl, rfl, rfl, rfl, rfl, (by rw [hst]; rfl), rfl, trivial⟩ (ihlr (k + 1) C4 (by omega) hsC4)
            · refine g_aload hC dX4_rivalCount_89 rfl ?_
              refine g_get hC rfl (cT hj1 hj50 hk10) rfl kl_X0 1 (by decide) kf_X4_132 rfl rfl dX4_rivalCount_91 ?_
              refine g_if_eq (tgt := 110) hC dX4_rivalCount_94 (by decide) (fun c94 => ?_) (fun c94 => ?_)
              · have hst : rvF M j mg (k + 1) = rvF M j mg k := by
                  rw [rvF_s, hmi]
                  have hz : ∀ z : Int32, z + 0 = z := fun z => by grind
                  cases hfb : fb M j k with
                  | none =>
                    rw [hfb] at hbC4
                    exact hz _
                  | some b =>
                    rw [hfb] at hbC4
                    have h2 := hbC4.2.1
                    dsimp only
                    rw [if_neg, hz]
                    rintro ⟨z1, z2⟩
                    first
                    | exact z1 c86
                    | exact absurd (hbC4.1.symm.trans c94) (by decide)
                    | (rw [← h2] at z2; exact absurd z2 (Int32.not_le.mpr c104))
                refine g_iinc hC dX4_rivalCount_110 rfl (nI_inc k) (by decide) ?_
                refine g_goto (tgt := 64) hC dX4_rivalCount_113 (by decide) ?_
                exact g_lv (lv' := [(0, .ref (lo 0)), (2, .int mg), (3, .ref (lo (200 + 16 * j))), (4, .int (nI i)), (5, .int (scF M j + mg)), (6, .int (rvF M j mg (k + 1))), (7, .int (nI (k + 1)))]) ⟨rfl, rfl, rfl, rfl, rfl, (by rw [hst]; rfl), rfl, trivial⟩ (ihlr (k + 1) C4 (by omega) hsC4)
              · refine g_aload hC dX4_rivalCount_97 rfl ?_
                refine g_get hC rfl (cT hj1 hj50 hk10) rfl kl_X0 2 (by decide) kf_X4_138 rfl rfl dX4_rivalCount_99 ?_
                refine g_iload hC dX4_rivalCount_102 rfl ?_
                refine g_icmp_gt (tgt := 110) hC dX4_rivalCount_104 (by decide) (fun c104 => ?_) (fun c104 => ?_)
                · have hst : rvF M j mg (k + 1) = rvF M j mg k := by
                    rw [rvF_s, hmi]
                    have hz : ∀ z : Int32, z + 0 = z := fun z => by grind
                    cases hfb : fb M j k with
                    | none =>
                      rw [hfb] at hbC4
                      exact hz _
                    | some b =>
                      rw [hfb] at hbC4
                      have h2 := hbC4.2.1
                      dsimp only
                      rw [if_neg, hz]
                      rintro ⟨z1, z2⟩
                      first
                      | exact z1 c86
                      | exact absurd (hbC4.1.symm.trans c94) (by decide)
                      | (rw [← h2] at z2; exact absurd z2 (Int32.not_le.mpr c104))
                  refine g_iinc hC dX4_rivalCount_110 rfl (nI_inc k) (by decide) ?_
                  refine g_goto (tgt := 64) hC dX4_rivalCount_113 (by decide) ?_
                  exact g_lv (lv' := [(0, .ref (lo 0)), (2, .int mg), (3, .ref (lo (200 + 16 * j))), (4, .int (nI i)), (5, .int (scF M j + mg)), (6, .int (rvF M j mg (k + 1))), (7, .int (nI (k + 1)))]) ⟨rfl, rfl, rfl, rfl, rfl, (by rw [hst]; rfl), rfl, trivial⟩ (ihlr (k + 1) C4 (by omega) hsC4)
                · refine g_iinc hC dX4_rivalCount_107 rfl rfl (by decide) ?_
                  have hst : rvF M j mg (k + 1) = rvF M j mg k + Int32.ofInt 1 := by
                    rw [rvF_s, hmi]
                    have hz : ∀ z : Int32, z + 0 = z := fun z => by grind
                    cases hfb : fb M j k with
                    | none =>
                      rw [hfb] at hbC4
                      exact absurd hbC4 c94
                    | some b =>
                      rw [hfb] at hbC4
                      have h2 := hbC4.2.1
                      dsimp only
                      rw [if_pos ⟨c86, by rw [← h2]; exact Int32.not_lt.mp c104⟩]; rfl
                  refine g_iinc hC dX4_rivalCount_110 rfl (nI_inc k) (by decide) ?_
                  refine g_goto (tgt := 64) hC dX4_rivalCount_113 (by decide) ?_
                  exact g_lv (lv' := [(0, .ref (lo 0)), (2, .int mg), (3, .ref (lo (200 + 16 * j))), (4, .int (nI i)), (5, .int (scF M j + mg)), (6, .int (rvF M j mg (k + 1))), (7, .int (nI (k + 1)))]) ⟨rfl, rfl, rfl, rfl, rfl, (by rw [hst]; rfl), rfl, trivial⟩ (ihlr (k + 1) C4 (by omega) hsC4)
        exact g_lv (lv' := [(0, .ref (lo 0)), (2, .int mg), (3, .ref (lo (200 + 16 * j))), (4, .int (nI i)), (5, .int (scF M j + mg)), (6, .int 0), (7, .int (nI 0))]) ⟨rfl, rfl, rfl, rfl, rfl, rfl, rfl, trivial⟩ (lr (nMo M) 0 C3 (by omega) hsC3)
      · refine g_bipush (v := (-6)) hC dX4_rivalCount_41 (by decide) ?_
        refine g_ireti hR dX4_rivalCount_43 rfl ?_
        clear hR hC hI
        have hsp : sp_rivalCount M (nI j) mg = (-6, M) := by unfold sp_rivalCount; rw [if_pos hp, if_pos (wi_ne c21), ej, if_pos (by rw [c38]; decide)]
        rw [hsp]
        exact pKl_i rfl hs hsC2
    · refine g_bipush (v := (-3)) hC dX4_rivalCount_24 (by decide) ?_
      refine g_ireti hR dX4_rivalCount_26 rfl ?_
      clear hR hC hI
      have hsp : sp_rivalCount M (nI j) mg = (-3, M) := by unfold sp_rivalCount; rw [if_pos hp, if_neg (wi_eq c21)]
      rw [hsp]
      exact pKl_i rfl hs hc
  · have hpn : ¬ (0 ≤ p ∧ p < nI (L 2 1)) := fun z => hp ⟨z.1, by have h2 := z.2; rw [hs.2.1, ← (Iv_nS hM).2] at h2; have := hM.2.2.2.2.1; grind⟩
    refine g_aload_n hC dX4_rivalCount_0 rfl ?_
    refine g_iload_n hC dX4_rivalCount_1 rfl ?_
    refine g_callV hC v_X4_sheetOrNull km_X4_118 (c_X4_sheetOrNull_n l X b0 lo L _ _ e0 p hpn) rfl cO rfl rfl rfl rfl (Nat.le_of_ble_eq_true rfl) ⟨by decide, by decide⟩ ⟨by decide, by decide⟩ dX4_rivalCount_2 (kX ?_)
    refine g_astore_nN hC dX4_rivalCount_5 (by decide) ?_
    refine g_aload_nN hC dX4_rivalCount_6 rfl ?_
    refine g_ifnonnullN hC dX4_rivalCount_7 ?_
    refine g_bipush (v := (-2)) hC dX4_rivalCount_10 (by decide) ?_
    refine g_ireti hR dX4_rivalCount_12 rfl ?_
    clear hR hC hI
    have hsp : sp_rivalCount M p mg = (-2, M) := by unfold sp_rivalCount; rw [if_neg hp]
    rw [hsp]
    exact pKl_i rfl hs hc

set_option maxHeartbeats 4000000 in
set_option maxRecDepth 100000 in
theorem c_X4_sheetsOf (l : Launch) (X : gX) (b0 : Nat) (lo : gL) (L : Nat → Nat → Nat) (K C : rM3) (e0 : gE) (M : rM2) (hM : Iv M) (hs : Sm L K M) (hc : Sc C M) (p : Int32) : Ct l X b0 lo (enC X lo L K C e0) yX4_sheetsOf cX4_sheetsOf 4 (some FieldType.int) (rM 6 152) [.ref (lo 0), .int p] (pKl X lo e0 (sp_sheetsOf M p)) := by
  refine gMet (by decide) (Nat.le_of_ble_eq_true rfl) rfl ?_
  intro Z hC hI hR
  have hS30 := (Iv_nS hM).1
  rcases Classical.em (isMo M p) with hp | hp
  · obtain ⟨i, hi10, rfl, hin, -⟩ := moOf hM hp
    have ei : nt (nI i) = i := nt_nI (by omega)
    have hi1 : i < L 2 0 := by rw [hs.1]; exact hin
    have h25 : i < 25 := by omega
    have hN : L 2 0 ≤ 10 := by rw [hs.1]; exact (Iv_nM hM).1
    have hSS : L 2 1 ≤ 30 := by rw [hs.2.1]; exact (Iv_nS hM).1
    obtain ⟨g1, g2, g3, g4, g5, g6⟩ := hs.mo hin
    have hMi := hM.2.2.2.2.2.2.1 i hin
    refine g_aload_n hC dX4_sheetsOf_0 rfl ?_
    refine g_iload_n hC dX4_sheetsOf_1 rfl ?_
    refine g_callV hC v_X4_mouldOrNull km_X4_78 (c_X4_mouldOrNull_s l X b0 lo L _ _ e0 i hi1 hN) rfl cO rfl rfl rfl rfl (Nat.le_of_ble_eq_true rfl) ⟨by decide, by decide⟩ ⟨by decide, by decide⟩ dX4_sheetsOf_2 (kX ?_)
    refine g_ifnonnull (tgt := 10) hC dX4_sheetsOf_5 (by decide) ?_
    refine g_iconst (v := 0) hC dX4_sheetsOf_10 (by decide) ?_
    refine g_istore_n hC dX4_sheetsOf_11 (by decide) ?_
    refine g_iconst (v := 0) hC dX4_sheetsOf_12 (by decide) ?_
    refine g_istore_n hC dX4_sheetsOf_13 (by decide) ?_
    have lb : ∀ (r : Nat) (j : Nat) (C1 : rM3), j + r = nSh M → Sc C1 M → GO l X b0 Z 0 0 lo (enC X lo L K C1 e0) 14 [(0, .ref (lo 0)), (1, .int (nI i)), (2, .int (bsF M (nI i) j)), (3, .int (nI j))] [] := by
      intro r
      induction r with
      | zero =>
        intro j C1 hj9 hc1
        have hj8 : j = nSh M := by omega
        subst hj8
        refine g_iload_n hC dX4_sheetsOf_14 rfl ?_
        refine g_aload_n hC dX4_sheetsOf_15 rfl ?_
        refine g_get hC rfl cO rfl kl_X4 7 (by decide) kf_X4_38 rfl rfl dX4_sheetsOf_16 ?_
        refine g_icmp_ge (tgt := 48) hC dX4_sheetsOf_19 (by decide) (fun c19 => ?_) (fun c19 => absurd (by rw [hs.2.1]; exact nI_le (by omega) (by omega)) c19)
        refine g_iload_n hC dX4_sheetsOf_48 rfl ?_
        refine g_ireti hR dX4_sheetsOf_49 rfl ?_
        clear hR hC hI
        have hsp : sp_sheetsOf M (nI i) = (bsF M (nI i) (nSh M), M) := by unfold sp_sheetsOf; rw [if_pos hp]
        rw [hsp]
        exact pKl_i rfl hs hc1
      | succ r ihlb =>
        intro j C1 hj9 hc1
        have hjn : j < nSh M := by omega
        have hj1 : j < L 2 1 := by rw [hs.2.1]; exact hjn
        have hj50 : j < 50 := by omega
        refine g_iload_n hC dX4_sheetsOf_14 rfl ?_
        refine g_aload_n hC dX4_sheetsOf_15 rfl ?_
        refine g_get hC rfl cO rfl kl_X4 7 (by decide) kf_X4_38 rfl rfl dX4_sheetsOf_16 ?_
        refine g_icmp_ge (tgt := 48) hC dX4_sheetsOf_19 (by decide) (fun c19 => absurd c19 (by rw [hs.2.1]; exact nI_ge (by omega) (by omega))) (fun c19 => ?_)
        refine g_aload_n hC dX4_sheetsOf_22 rfl ?_
        refine g_aload_n hC dX4_sheetsOf_23 rfl ?_
        refine g_get hC rfl cO rfl kl_X4 6 (by decide) kf_X4_34 rfl rfl dX4_sheetsOf_24 ?_
        refine g_iload_n hC dX4_sheetsOf_27 rfl ?_
        refine g_aald (t0 := 2) hC rfl cA3 rfl j rfl (by omega) (by decide) (if_pos hj1) dX4_sheetsOf_28 ?_
        refine g_callV hC v_X4_mouldFor km_X4_153 (c_X4_mouldFor l X b0 lo L _ _ e0 M hM hs hc1 j hjn) rfl cO rfl rfl rfl rfl (Nat.le_of_ble_eq_true rfl) ⟨by decide, by decide⟩ ⟨by decide, by decide⟩ dX4_sheetsOf_29 (kI ?_)
        rintro r1 en' ⟨rfl, C2, rfl, hsC2, hkC2⟩
        refine g_iload_n hC dX4_sheetsOf_32 rfl ?_
        refine g_icmp_ne (tgt := 42) hC dX4_sheetsOf_33 (by decide) (fun c33 => ?_) (fun c33 => ?_)
        · have hst : bsF M (nI i) (j + 1) = bsF M (nI i) j := by rw [bsF_s, if_neg c33]; exact Int32.or_zero
          refine g_iinc hC dX4_sheetsOf_42 rfl (nI_inc j) (by decide) ?_
          refine g_goto (tgt := 14) hC dX4_sheetsOf_45 (by decide) ?_
          exact g_lv (lv' := [(0, .ref (lo 0)), (1, .int (nI i)), (2, .int (bsF M (nI i) (j + 1))), (3, .int (nI (j + 1)))]) ⟨rfl, rfl, (by rw [hst]; rfl), rfl, trivial⟩ (ihlb (j + 1) C2 (by omega) hsC2)
        · refine g_iload_n hC dX4_sheetsOf_36 rfl ?_
          refine g_iconst (v := 1) hC dX4_sheetsOf_37 (by decide) ?_
          refine g_iload_n hC dX4_sheetsOf_38 rfl ?_
          refine g_ishl hC dX4_sheetsOf_39 ?_
          refine g_ior hC dX4_sheetsOf_40 ?_
          refine g_istore_n hC dX4_sheetsOf_41 (by decide) ?_
          have hst : bsF M (nI i) (j + 1) = bsF M (nI i) j ||| 1 <<< (nI j &&& 31) := by rw [bsF_s, if_pos c33]
          refine g_iinc hC dX4_sheetsOf_42 rfl (nI_inc j) (by decide) ?_
          refine g_goto (tgt := 14) hC dX4_sheetsOf_45 (by decide) ?_
          exact g_lv (lv' := [(0, .ref (lo 0)), (1, .int (nI i)), (2, .int (bsF M (nI i) (j + 1))), (3, .int (nI (j + 1)))]) ⟨rfl, rfl, (by rw [hst]; rfl), rfl, trivial⟩ (ihlb (j + 1) C2 (by omega) hsC2)
    exact g_lv (lv' := [(0, .ref (lo 0)), (1, .int (nI i)), (2, .int 0), (3, .int (nI 0))]) ⟨rfl, rfl, rfl, rfl, trivial⟩ (lb (nSh M) 0 C (by omega) hc)
  · have hpn : ¬ (0 ≤ p ∧ p < nI (L 2 0)) := fun z => hp ⟨z.1, by have h2 := z.2; rw [hs.1, ← (Iv_nM hM).2] at h2; have := hM.2.2.2.1; grind⟩
    refine g_aload_n hC dX4_sheetsOf_0 rfl ?_
    refine g_iload_n hC dX4_sheetsOf_1 rfl ?_
    refine g_callV hC v_X4_mouldOrNull km_X4_78 (c_X4_mouldOrNull_n l X b0 lo L _ _ e0 p hpn) rfl cO rfl rfl rfl rfl (Nat.le_of_ble_eq_true rfl) ⟨by decide, by decide⟩ ⟨by decide, by decide⟩ dX4_sheetsOf_2 (kX ?_)
    refine g_ifnonnullN hC dX4_sheetsOf_5 ?_
    refine g_iconst (v := (-1)) hC dX4_sheetsOf_8 (by decide) ?_
    refine g_ireti hR dX4_sheetsOf_9 rfl ?_
    clear hR hC hI
    have hsp : sp_sheetsOf M p = (-1, M) := by unfold sp_sheetsOf; rw [if_neg hp]
    rw [hsp]
    exact pKl_i rfl hs hc
