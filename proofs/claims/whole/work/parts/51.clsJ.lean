/-! ===== the class: sheetAt, contradictionCount ===== -/
theorem Sc.row {C C1 : rM3} {M : rM2} (h : Sc C M) (e : C1 8 = C 8) : Sc C1 M := fun j i hj hi => by
  have h2 := h j i hj hi
  unfold mtB at *
  rw [e]
  exact h2
theorem cc_iff {M : rM2} (hM : Iv M) {pm : Int32} {a b : Nat} (ha : a < nSh M) (hb : b < nSh M) (hp : 0 ≤ pm) : slG M pm a b ↔ (moF M a = pm ∧ lowF M a b) := by
  rw [slG_iff (soF_ok hM ha) (soF_ok hM hb)]
  unfold lowF
  grind

set_option maxHeartbeats 4000000 in
set_option maxRecDepth 100000 in
theorem c_X4_sheetAt (l : Launch) (X : gX) (b0 : Nat) (lo : gL) (L : Nat → Nat → Nat) (K C : rM3) (e0 : gE) (M : rM2) (hM : Iv M) (hs : Sm L K M) (hc : Sc C M) (p pl : Int32) : Ct l X b0 lo (enC X lo L K C e0) yX4_sheetAt cX4_sheetAt 4 (some FieldType.int) (rM 7 174) [.ref (lo 0), .int p, .int pl] (pKl X lo e0 (sp_sheetAt M p pl)) := by
  refine gMet (by decide) (Nat.le_of_ble_eq_true rfl) rfl ?_
  intro Z hC hI hR
  have hS30 := (Iv_nS hM).1
  rcases Classical.em (isMo M p) with hp | hp
  · obtain ⟨i, hi10, rfl, hin, -⟩ := moOf hM hp
    have ei : nt (nI i) = i := nt_nI (by omega)
    have hi1 : i < L 2 0 := by rw [hs.1]; exact hin
    have h25 : i < 25 := by omega
    have hN : L 2 0 ≤ 10 := by rw [hs.1]; exact (Iv_nM hM).1
    have hSS : L 2 1 ≤ 30 := by rw [hs.2.1]; exact (Iv_nS hM).1
    obtain ⟨g1, g2, g3, g4, g5, g6⟩ := hs.mo hin
    have hMi := hM.2.2.2.2.2.2.1 i hin
    refine g_aload_n hC dX4_sheetAt_0 rfl ?_
    refine g_iload_n hC dX4_sheetAt_1 rfl ?_
    refine g_callV hC v_X4_mouldOrNull km_X4_78 (c_X4_mouldOrNull_s l X b0 lo L _ _ e0 i hi1 hN) rfl cO rfl rfl rfl rfl (Nat.le_of_ble_eq_true rfl) ⟨by decide, by decide⟩ ⟨by decide, by decide⟩ dX4_sheetAt_2 (kX ?_)
    refine g_ifnonnull (tgt := 10) hC dX4_sheetAt_5 (by decide) ?_
    refine g_iload_n hC dX4_sheetAt_10 rfl ?_
    refine g_if_ge (tgt := 17) hC dX4_sheetAt_11 (by decide) (fun c11 => ?_) (fun c11 => ?_)
    · refine g_aload_n hC dX4_sheetAt_17 rfl ?_
      refine g_iload_n hC dX4_sheetAt_18 rfl ?_
      refine g_callV hC v_X4_gatherStates km_X4_157 (c_X4_gatherStates l X b0 lo L _ _ e0 M hM hs hc _) rfl cO rfl rfl rfl rfl (Nat.le_of_ble_eq_true rfl) ⟨by decide, by decide⟩ ⟨by decide, by decide⟩ dX4_sheetAt_19 (kV ?_)
      rintro en' ⟨C7, rfl, hs7, hg7⟩
      refine g_iconst (v := 0) hC dX4_sheetAt_22 (by decide) ?_
      refine g_istore_n hC dX4_sheetAt_23 (by decide) ?_
      have l1 : ∀ (r : Nat) (x : Nat) (C1 : rM3), x + r = nSh M → Sc C1 M → gO C1 M (nI i) → eO C1 M (nI i) x → GO l X b0 Z 0 0 lo (enC X lo L K C1 e0) 24 [(0, .ref (lo 0)), (1, .int (nI i)), (2, .int pl), (3, .int (nI x))] [] := by
        intro r
        induction r with
        | zero =>
          intro x C1 hx9 hc1 hg1 he1
          have hx8 : x = nSh M := by omega
          subst hx8
          refine g_iload_n hC dX4_sheetAt_24 rfl ?_
          refine g_aload_n hC dX4_sheetAt_25 rfl ?_
          refine g_get hC rfl cO rfl kl_X4 7 (by decide) kf_X4_38 rfl rfl dX4_sheetAt_26 ?_
          refine g_icmp_ge (tgt := 49) hC dX4_sheetAt_29 (by decide) (fun c29 => ?_) (fun c29 => absurd (by rw [hs.2.1]; exact nI_le (by omega) (by omega)) c29)
          refine g_iconst (v := 0) hC dX4_sheetAt_49 (by decide) ?_
          refine g_istore_n hC dX4_sheetAt_50 (by decide) ?_
          have l2 : ∀ (r : Nat) (k : Nat), k + r = nSh M → atF M (nI i) pl 0 (nSh M) = atF M (nI i) pl k r → GO l X b0 Z 0 0 lo (enC X lo L K C1 e0) 51 [(0, .ref (lo 0)), (1, .int (nI i)), (2, .int pl), (3, .int (nI k))] [] := by
            intro r
            induction r with
            | zero =>
              intro k hk9 hat
              have hk8 : k = nSh M := by omega
              subst hk8
              refine g_iload_n hC dX4_sheetAt_51 rfl ?_
              refine g_aload_n hC dX4_sheetAt_52 rfl ?_
              refine g_get hC rfl cO rfl kl_X4 7 (by decide) kf_X4_38 rfl rfl dX4_sheetAt_53 ?_
              refine g_icmp_ge (tgt := 86) hC dX4_sheetAt_56 (by decide) (fun c56 => ?_) (fun c56 => absurd (by rw [hs.2.1]; exact nI_le (by omega) (by omega)) c56)
              refine g_bipush (v := (-6)) hC dX4_sheetAt_86 (by decide) ?_
              refine g_ireti hR dX4_sheetAt_88 rfl ?_
              clear hR hC hI
              have hsp : sp_sheetAt M (nI i) pl = (-6, M) := by
                unfold sp_sheetAt
                rw [if_pos hp, if_neg (Int32.not_lt.mpr c11), hat]
                rfl
              rw [hsp]
              exact pKl_i rfl hs hc1
            | succ r ihl2 =>
              intro k hk9 hat
              have hkn : k < nSh M := by omega
              have gk := hg1 k hkn
              have son := stG_on (M := M) (p := nI i) (soF_ok hM hkn) (nI_pos' (by omega))
              refine g_iload_n hC dX4_sheetAt_51 rfl ?_
              refine g_aload_n hC dX4_sheetAt_52 rfl ?_
              refine g_get hC rfl cO rfl kl_X4 7 (by decide) kf_X4_38 rfl rfl dX4_sheetAt_53 ?_
              refine g_icmp_ge (tgt := 86) hC dX4_sheetAt_56 (by decide) (fun c56 => absurd c56 (by rw [hs.2.1]; exact nI_ge (by omega) (by omega))) (fun c56 => ?_)
              refine g_aload_n hC dX4_sheetAt_59 rfl ?_
              refine g_get hC rfl cO rfl kl_X4 9 (by decide) kf_X4_48 rfl rfl dX4_sheetAt_60 ?_
              refine g_iload_n hC dX4_sheetAt_63 rfl ?_
              refine g_iald hC rfl cA6 k rfl (by omega) (by decide) dX4_sheetAt_64 ?_
              refine g_iconst (v := (-1)) hC dX4_sheetAt_65 (by decide) ?_
              refine g_icmp_eq (tgt := 80) hC dX4_sheetAt_66 (by decide) (fun c66 => ?_) (fun c66 => ?_)
              · have hat2 : atF M (nI i) pl 0 (nSh M) = atF M (nI i) pl (k + 1) r := by
                  rw [hat, (show atF M (nI i) pl k (r + 1) = (if onF M k (nI i) ∧ anF M (nI i) k (nSh M) = pl then nI k else atF M (nI i) pl (k + 1) r) from rfl)]
                  refine if_neg (fun z => ?_)
                  first
                  | exact absurd (by rw [← gk]; exact c66) (son.mpr z.1)
                  | exact c75 (by rw [pcG_eq hM (nI_pos' (by omega)) hkn z.1 (Nat.le_refl _)]; exact z.2)
                refine g_iinc hC dX4_sheetAt_80 rfl (nI_inc k) (by decide) ?_
                refine g_goto (tgt := 51) hC dX4_sheetAt_83 (by decide) ?_
                exact g_lv (lv' := [(0, .ref (lo 0)), (1, .int (nI i)), (2, .int pl), (3, .int (nI (k + 1)))]) ⟨rfl, rfl, rfl, rfl, trivial⟩ (ihl2 (k + 1) (by omega) hat2)
              · refine g_aload_n hC dX4_sheetAt_69 rfl ?_
                refine g_iload_n hC dX4_sheetAt_70 rfl ?_
                refine g_callV hC v_X4_placeOf km_X4_163 (c_X4_placeOf l X b0 lo L _ _ e0 M hM hs _ hg1 he1 k hkn) rfl cO rfl rfl rfl rfl (Nat.le_of_ble_eq_true rfl) ⟨by decide, by decide⟩ ⟨by decide, by decide⟩ dX4_sheetAt_71 (kX ?_)
                refine g_iload_n hC dX4_sheetAt_74 rfl ?_
                refine g_icmp_ne (tgt := 80) hC dX4_sheetAt_75 (by decide) (fun c75 => ?_) (fun c75 => ?_)
                · have hat2 : atF M (nI i) pl 0 (nSh M) = atF M (nI i) pl (k + 1) r := by
                    rw [hat, (show atF M (nI i) pl k (r + 1) = (if onF M k (nI i) ∧ anF M (nI i) k (nSh M) = pl then nI k else atF M (nI i) pl (k + 1) r) from rfl)]
                    refine if_neg (fun z => ?_)
                    first
                    | exact absurd (by rw [← gk]; exact c66) (son.mpr z.1)
                    | exact c75 (by rw [pcG_eq hM (nI_pos' (by omega)) hkn z.1 (Nat.le_refl _)]; exact z.2)
                  refine g_iinc hC dX4_sheetAt_80 rfl (nI_inc k) (by decide) ?_
                  refine g_goto (tgt := 51) hC dX4_sheetAt_83 (by decide) ?_
                  exact g_lv (lv' := [(0, .ref (lo 0)), (1, .int (nI i)), (2, .int pl), (3, .int (nI (k + 1)))]) ⟨rfl, rfl, rfl, rfl, trivial⟩ (ihl2 (k + 1) (by omega) hat2)
                · refine g_iload_n hC dX4_sheetAt_78 rfl ?_
                  refine g_ireti hR dX4_sheetAt_79 rfl ?_
                  clear hR hC hI
                  have hon : onF M k (nI i) := son.mp (by rw [← gk]; exact c66)
                  have hsp : sp_sheetAt M (nI i) pl = (nI k, M) := by
                    unfold sp_sheetAt
                    rw [if_pos hp, if_neg (Int32.not_lt.mpr c11), hat, (show atF M (nI i) pl k (r + 1) = (if onF M k (nI i) ∧ anF M (nI i) k (nSh M) = pl then nI k else atF M (nI i) pl (k + 1) r) from rfl), if_pos ⟨hon, by rw [← pcG_eq hM (nI_pos' (by omega)) hkn hon (Nat.le_refl _)]; exact c75⟩]
                  rw [hsp]
                  exact pKl_i rfl hs hc1
          exact g_lv (lv' := [(0, .ref (lo 0)), (1, .int (nI i)), (2, .int pl), (3, .int (nI 0))]) ⟨rfl, rfl, rfl, rfl, trivial⟩ (l2 (nSh M) 0 (by omega) rfl)
        | succ r ihl1 =>
          intro x C1 hx9 hc1 hg1 he1
          have hxn : x < nSh M := by omega
          have hx1 : x < L 2 1 := by rw [hs.2.1]; exact hxn
          have hx50 : x < 50 := by omega
          refine g_iload_n hC dX4_sheetAt_24 rfl ?_
          refine g_aload_n hC dX4_sheetAt_25 rfl ?_
          refine g_get hC rfl cO rfl kl_X4 7 (by decide) kf_X4_38 rfl rfl dX4_sheetAt_26 ?_
          refine g_icmp_ge (tgt := 49) hC dX4_sheetAt_29 (by decide) (fun c29 => absurd c29 (by rw [hs.2.1]; exact nI_ge (by omega) (by omega))) (fun c29 => ?_)
          refine g_aload_n hC dX4_sheetAt_32 rfl ?_
          refine g_get hC rfl cO rfl kl_X4 10 (by decide) kf_X4_51 rfl rfl dX4_sheetAt_33 ?_
          refine g_iload_n hC dX4_sheetAt_36 rfl ?_
          refine g_aload_n hC dX4_sheetAt_37 rfl ?_
          refine g_iload_n hC dX4_sheetAt_38 rfl ?_
          refine g_callV hC v_X4_earliestOf km_X4_160 (c_X4_earliestOf l X b0 lo L _ _ e0 M hM hs _ hg1 x hxn) rfl cO rfl rfl rfl rfl (Nat.le_of_ble_eq_true rfl) ⟨by decide, by decide⟩ ⟨by decide, by decide⟩ dX4_sheetAt_39 (kX ?_)
          refine g_iast hC rfl cA7 x rfl (by omega) (by decide) dX4_sheetAt_42 (fun en41 hen41 => ?_)
          replace hen41 := cQ7 hen41
          obtain ⟨C41, hC41, hen41⟩ := hen41
          subst hen41
          refine g_iinc hC dX4_sheetAt_43 rfl (nI_inc x) (by decide) ?_
          refine g_goto (tgt := 24) hC dX4_sheetAt_46 (by decide) ?_
          exact g_lv (lv' := [(0, .ref (lo 0)), (1, .int (nI i)), (2, .int pl), (3, .int (nI (x + 1)))]) ⟨rfl, rfl, rfl, rfl, trivial⟩ (ihl1 (x + 1) C41 (by omega) (hc1.row (by rw [hC41]; exact up3_b (by decide))) (fun y hy => by rw [hC41, up3_b (by decide)]; exact hg1 y hy) (fun y hy => by
            rw [hC41, up3_self]
            by_cases hyx : y = x
            · rw [hyx, pk_us]
            · rw [pk_un hyx]; exact he1 y (by omega)))
      exact g_lv (lv' := [(0, .ref (lo 0)), (1, .int (nI i)), (2, .int pl), (3, .int (nI 0))]) ⟨rfl, rfl, rfl, rfl, trivial⟩ (l1 (nSh M) 0 C7 (by omega) hs7 hg7 (fun y hy => absurd hy (by omega)))
    · refine g_bipush (v := (-3)) hC dX4_sheetAt_14 (by decide) ?_
      refine g_ireti hR dX4_sheetAt_16 rfl ?_
      clear hR hC hI
      have hsp : sp_sheetAt M (nI i) pl = (-3, M) := by unfold sp_sheetAt; rw [if_pos hp, if_pos (Int32.not_le.mp c11)]
      rw [hsp]
      exact pKl_i rfl hs hc
  · have hpn : ¬ (0 ≤ p ∧ p < nI (L 2 0)) := fun z => hp ⟨z.1, by have h2 := z.2; rw [hs.1, ← (Iv_nM hM).2] at h2; have := hM.2.2.2.1; grind⟩
    refine g_aload_n hC dX4_sheetAt_0 rfl ?_
    refine g_iload_n hC dX4_sheetAt_1 rfl ?_
    refine g_callV hC v_X4_mouldOrNull km_X4_78 (c_X4_mouldOrNull_n l X b0 lo L _ _ e0 p hpn) rfl cO rfl rfl rfl rfl (Nat.le_of_ble_eq_true rfl) ⟨by decide, by decide⟩ ⟨by decide, by decide⟩ dX4_sheetAt_2 (kX ?_)
    refine g_ifnonnullN hC dX4_sheetAt_5 ?_
    refine g_iconst (v := (-1)) hC dX4_sheetAt_8 (by decide) ?_
    refine g_ireti hR dX4_sheetAt_9 rfl ?_
    clear hR hC hI
    have hsp : sp_sheetAt M p pl = (-1, M) := by unfold sp_sheetAt; rw [if_neg hp]
    rw [hsp]
    exact pKl_i rfl hs hc

set_option maxHeartbeats 4000000 in
set_option maxRecDepth 100000 in
theorem c_X4_contradictionCount (l : Launch) (X : gX) (b0 : Nat) (lo : gL) (L : Nat → Nat → Nat) (K C : rM3) (e0 : gE) (M : rM2) (hM : Iv M) (hs : Sm L K M) (hc : Sc C M) (p : Int32) : Ct l X b0 lo (enC X lo L K C e0) yX4_contradictionCount cX4_contradictionCount 5 (some FieldType.int) (rM 7 174) [.ref (lo 0), .int p] (pKl X lo e0 (sp_contradictionCount M p)) := by
  refine gMet (by decide) (Nat.le_of_ble_eq_true rfl) rfl ?_
  intro Z hC hI hR
  have hS30 := (Iv_nS hM).1
  rcases Classical.em (isMo M p) with hp | hp
  · obtain ⟨i, hi10, rfl, hin, -⟩ := moOf hM hp
    have ei : nt (nI i) = i := nt_nI (by omega)
    have hi1 : i < L 2 0 := by rw [hs.1]; exact hin
    have h25 : i < 25 := by omega
    have hN : L 2 0 ≤ 10 := by rw [hs.1]; exact (Iv_nM hM).1
    have hSS : L 2 1 ≤ 30 := by rw [hs.2.1]; exact (Iv_nS hM).1
    obtain ⟨g1, g2, g3, g4, g5, g6⟩ := hs.mo hin
    have hMi := hM.2.2.2.2.2.2.1 i hin
    refine g_aload_n hC dX4_contradictionCount_0 rfl ?_
    refine g_iload_n hC dX4_contradictionCount_1 rfl ?_
    refine g_callV hC v_X4_mouldOrNull km_X4_78 (c_X4_mouldOrNull_s l X b0 lo L _ _ e0 i hi1 hN) rfl cO rfl rfl rfl rfl (Nat.le_of_ble_eq_true rfl) ⟨by decide, by decide⟩ ⟨by decide, by decide⟩ dX4_contradictionCount_2 (kX ?_)
    refine g_ifnonnull (tgt := 10) hC dX4_contradictionCount_5 (by decide) ?_
    refine g_aload_n hC dX4_contradictionCount_10 rfl ?_
    refine g_iload_n hC dX4_contradictionCount_11 rfl ?_
    refine g_callV hC v_X4_gatherStates km_X4_157 (c_X4_gatherStates l X b0 lo L _ _ e0 M hM hs hc _) rfl cO rfl rfl rfl rfl (Nat.le_of_ble_eq_true rfl) ⟨by decide, by decide⟩ ⟨by decide, by decide⟩ dX4_contradictionCount_12 (kV ?_)
    rintro en' ⟨C7, rfl, hs7, hg7⟩
    refine g_iconst (v := 0) hC dX4_contradictionCount_15 (by decide) ?_
    refine g_istore_n hC dX4_contradictionCount_16 (by decide) ?_
    refine g_iconst (v := 0) hC dX4_contradictionCount_17 (by decide) ?_
    refine g_istore_n hC dX4_contradictionCount_18 (by decide) ?_
    have la : ∀ (r : Nat) (a : Nat), a + r = nSh M → GO l X b0 Z 0 0 lo (enC X lo L K C7 e0) 19 [(0, .ref (lo 0)), (1, .int (nI i)), (2, .int (ccF M (nI i) a)), (3, .int (nI a))] [] := by
      intro r
      induction r with
      | zero =>
        intro a ha9
        have ha8 : a = nSh M := by omega
        subst ha8
        refine g_iload_n hC dX4_contradictionCount_19 rfl ?_
        refine g_aload_n hC dX4_contradictionCount_20 rfl ?_
        refine g_get hC rfl cO rfl kl_X4 7 (by decide) kf_X4_38 rfl rfl dX4_contradictionCount_21 ?_
        refine g_icmp_ge (tgt := 86) hC dX4_contradictionCount_24 (by decide) (fun c24 => ?_) (fun c24 => absurd (by rw [hs.2.1]; exact nI_le (by omega) (by omega)) c24)
        refine g_iload_n hC dX4_contradictionCount_86 rfl ?_
        refine g_ireti hR dX4_contradictionCount_87 rfl ?_
        clear hR hC hI
        have hsp : sp_contradictionCount M (nI i) = (ccF M (nI i) (nSh M), M) := by unfold sp_contradictionCount; rw [if_pos hp]
        rw [hsp]
        exact pKl_i rfl hs hs7
      | succ r ihla =>
        intro a ha9
        have han : a < nSh M := by omega
        have ha1 : a < L 2 1 := by rw [hs.2.1]; exact han
        have ha50 : a < 50 := by omega
        refine g_iload_n hC dX4_contradictionCount_19 rfl ?_
        refine g_aload_n hC dX4_contradictionCount_20 rfl ?_
        refine g_get hC rfl cO rfl kl_X4 7 (by decide) kf_X4_38 rfl rfl dX4_contradictionCount_21 ?_
        refine g_icmp_ge (tgt := 86) hC dX4_contradictionCount_24 (by decide) (fun c24 => absurd c24 (by rw [hs.2.1]; exact nI_ge (by omega) (by omega))) (fun c24 => ?_)
        refine g_iconst (v := 0) hC dX4_contradictionCount_27 (by decide) ?_
        refine g_istore hC dX4_contradictionCount_28 (by decide) ?_
        have lb : ∀ (r : Nat) (b : Nat), b + r = nSh M → GO l X b0 Z 0 0 lo (enC X lo L K C7 e0) 30 [(0, .ref (lo 0)), (1, .int (nI i)), (2, .int (ccI M (nI i) a b (ccF M (nI i) a))), (3, .int (nI a)), (4, .int (nI b))] [] := by
          intro r
          induction r with
          | zero =>
            intro b hb9
            have hb8 : b = nSh M := by omega
            subst hb8
            refine g_iload hC dX4_contradictionCount_30 rfl ?_
            refine g_aload_n hC dX4_contradictionCount_32 rfl ?_
            refine g_get hC rfl cO rfl kl_X4 7 (by decide) kf_X4_38 rfl rfl dX4_contradictionCount_33 ?_
            refine g_icmp_ge (tgt := 80) hC dX4_contradictionCount_36 (by decide) (fun c36 => ?_) (fun c36 => absurd (by rw [hs.2.1]; exact nI_le (by omega) (by omega)) c36)
            refine g_iinc hC dX4_contradictionCount_80 rfl (nI_inc a) (by decide) ?_
            refine g_goto (tgt := 19) hC dX4_contradictionCount_83 (by decide) ?_
            exact g_lv (lv' := [(0, .ref (lo 0)), (1, .int (nI i)), (2, .int (ccF M (nI i) (a + 1))), (3, .int (nI (a + 1)))]) ⟨rfl, rfl, rfl, rfl, trivial⟩ (ihla (a + 1) (by omega))
          | succ r ihlb =>
            intro b hb9
            have hbn : b < nSh M := by omega
            have hb1 : b < L 2 1 := by rw [hs.2.1]; exact hbn
            have hb50 : b < 50 := by omega
            refine g_iload hC dX4_contradictionCount_30 rfl ?_
            refine g_aload_n hC dX4_contradictionCount_32 rfl ?_
            refine g_get hC rfl cO rfl kl_X4 7 (by decide) kf_X4_38 rfl rfl dX4_contradictionCount_33 ?_
            refine g_icmp_ge (tgt := 80) hC dX4_contradictionCount_36 (by decide) (fun c36 => absurd c36 (by rw [hs.2.1]; exact nI_ge (by omega) (by omega))) (fun c36 => ?_)
            refine g_aload_n hC dX4_contradictionCount_39 rfl ?_
            refine g_iload_n hC dX4_contradictionCount_40 rfl ?_
            refine g_iload hC dX4_contradictionCount_41 rfl ?_
            refine g_callV hC v_X4_isLowerState km_X4_169 (c_X4_isLowerState l X b0 lo L _ _ e0 M hM hs _ hg7 a b (by omega) (by omega)) rfl cO rfl rfl rfl rfl (Nat.le_of_ble_eq_true rfl) ⟨by decide, by decide⟩ ⟨by decide, by decide⟩ dX4_contradictionCount_43 (kX ?_)
            refine g_if_eq (tgt := 74) hC dX4_contradictionCount_46 (by decide) (fun c46 => ?_) (fun c46 => ?_)
            · have f1 := (hs.sh han).2.2.2.2.1
              have f2 := (hs.sh hbn).2.2.2.2.2.1
              have hci := cc_iff (M := M) (pm := nI i) hM han hbn (nI_pos' (by omega))
              have hz : ∀ z : Int32, z + 0 = z := fun z => by grind
              have hst : ccI M (nI i) a (b + 1) (ccF M (nI i) a) = ccI M (nI i) a b (ccF M (nI i) a) := by
                rw [ccI_s, if_neg, hz]
                intro z
                first
                | exact ito_eq c46 (hci.mpr ⟨z.1, z.2.1⟩)
                | (have c := c68; rw [f1, f2] at c; exact absurd z.2.2 (Int32.not_lt.mpr c))
              refine g_iinc hC dX4_contradictionCount_74 rfl (nI_inc b) (by decide) ?_
              refine g_goto (tgt := 30) hC dX4_contradictionCount_77 (by decide) ?_
              exact g_lv (lv' := [(0, .ref (lo 0)), (1, .int (nI i)), (2, .int (ccI M (nI i) a (b + 1) (ccF M (nI i) a))), (3, .int (nI a)), (4, .int (nI (b + 1)))]) ⟨rfl, rfl, (by rw [hst]; rfl), rfl, rfl, trivial⟩ (ihlb (b + 1) (by omega))
            · refine g_aload_n hC dX4_contradictionCount_49 rfl ?_
              refine g_get hC rfl cO rfl kl_X4 6 (by decide) kf_X4_34 rfl rfl dX4_contradictionCount_50 ?_
              refine g_iload_n hC dX4_contradictionCount_53 rfl ?_
              refine g_aald (t0 := 2) hC rfl cA3 rfl a rfl (by omega) (by decide) (if_pos ha1) dX4_contradictionCount_54 ?_
              refine g_get hC rfl (cS ha1 ha50) rfl kl_X2 4 (by decide) kf_X4_122 rfl rfl dX4_contradictionCount_55 ?_
              refine g_aload_n hC dX4_contradictionCount_58 rfl ?_
              refine g_get hC rfl cO rfl kl_X4 6 (by decide) kf_X4_34 rfl rfl dX4_contradictionCount_59 ?_
              refine g_iload hC dX4_contradictionCount_62 rfl ?_
              refine g_aald (t0 := 2) hC rfl cA3 rfl b rfl (by omega) (by decide) (if_pos hb1) dX4_contradictionCount_64 ?_
              refine g_get hC rfl (cS hb1 hb50) rfl kl_X2 5 (by decide) kf_X4_125 rfl rfl dX4_contradictionCount_65 ?_
              refine g_icmp_le (tgt := 74) hC dX4_contradictionCount_68 (by decide) (fun c68 => ?_) (fun c68 => ?_)
              · have f1 := (hs.sh han).2.2.2.2.1
                have f2 := (hs.sh hbn).2.2.2.2.2.1
                have hci := cc_iff (M := M) (pm := nI i) hM han hbn (nI_pos' (by omega))
                have hz : ∀ z : Int32, z + 0 = z := fun z => by grind
                have hst : ccI M (nI i) a (b + 1) (ccF M (nI i) a) = ccI M (nI i) a b (ccF M (nI i) a) := by
                  rw [ccI_s, if_neg, hz]
                  intro z
                  first
                  | exact ito_eq c46 (hci.mpr ⟨z.1, z.2.1⟩)
                  | (have c := c68; rw [f1, f2] at c; exact absurd z.2.2 (Int32.not_lt.mpr c))
                refine g_iinc hC dX4_contradictionCount_74 rfl (nI_inc b) (by decide) ?_
                refine g_goto (tgt := 30) hC dX4_contradictionCount_77 (by decide) ?_
                exact g_lv (lv' := [(0, .ref (lo 0)), (1, .int (nI i)), (2, .int (ccI M (nI i) a (b + 1) (ccF M (nI i) a))), (3, .int (nI a)), (4, .int (nI (b + 1)))]) ⟨rfl, rfl, (by rw [hst]; rfl), rfl, rfl, trivial⟩ (ihlb (b + 1) (by omega))
              · refine g_iinc hC dX4_contradictionCount_71 rfl rfl (by decide) ?_
                have f1 := (hs.sh han).2.2.2.2.1
                have f2 := (hs.sh hbn).2.2.2.2.2.1
                have hci := cc_iff (M := M) (pm := nI i) hM han hbn (nI_pos' (by omega))
                have hz : ∀ z : Int32, z + 0 = z := fun z => by grind
                have hst : ccI M (nI i) a (b + 1) (ccF M (nI i) a) = ccI M (nI i) a b (ccF M (nI i) a) + Int32.ofInt 1 := by
                  have hsl := hci.mp (ito_ne c46)
                  rw [ccI_s, if_pos ⟨hsl.1, hsl.2, by rw [← f1, ← f2]; exact Int32.not_le.mp c68⟩]
                  rfl
                refine g_iinc hC dX4_contradictionCount_74 rfl (nI_inc b) (by decide) ?_
                refine g_goto (tgt := 30) hC dX4_contradictionCount_77 (by decide) ?_
                exact g_lv (lv' := [(0, .ref (lo 0)), (1, .int (nI i)), (2, .int (ccI M (nI i) a (b + 1) (ccF M (nI i) a))), (3, .int (nI a)), (4, .int (nI (b + 1)))]) ⟨rfl, rfl, (by rw [hst]; rfl), rfl, rfl, trivial⟩ (ihlb (b + 1) (by omega))
        exact g_lv (lv' := [(0, .ref (lo 0)), (1, .int (nI i)), (2, .int (ccF M (nI i) a)), (3, .int (nI a)), (4, .int (nI 0))]) ⟨rfl, rfl, rfl, rfl, rfl, trivial⟩ (lb (nSh M) 0 (by omega))
    exact g_lv (lv' := [(0, .ref (lo 0)), (1, .int (nI i)), (2, .int 0), (3, .int (nI 0))]) ⟨rfl, rfl, rfl, rfl, trivial⟩ (la (nSh M) 0 (by omega))
  · have hpn : ¬ (0 ≤ p ∧ p < nI (L 2 0)) := fun z => hp ⟨z.1, by have h2 := z.2; rw [hs.1, ← (Iv_nM hM).2] at h2; have := hM.2.2.2.1; grind⟩
    refine g_aload_n hC dX4_contradictionCount_0 rfl ?_
    refine g_iload_n hC dX4_contradictionCount_1 rfl ?_
    refine g_callV hC v_X4_mouldOrNull km_X4_78 (c_X4_mouldOrNull_n l X b0 lo L _ _ e0 p hpn) rfl cO rfl rfl rfl rfl (Nat.le_of_ble_eq_true rfl) ⟨by decide, by decide⟩ ⟨by decide, by decide⟩ dX4_contradictionCount_2 (kX ?_)
    refine g_ifnonnullN hC dX4_contradictionCount_5 ?_
    refine g_iconst (v := (-1)) hC dX4_contradictionCount_8 (by decide) ?_
    refine g_ireti hR dX4_contradictionCount_9 rfl ?_
    clear hR hC hI
    have hsp : sp_contradictionCount M p = (-1, M) := by unfold sp_contradictionCount; rw [if_neg hp]
    rw [hsp]
    exact pKl_i rfl hs hc
