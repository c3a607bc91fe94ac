/-! ===== the reference: order and contradictions ===== -/
set_option maxHeartbeats 4000000 in
set_option maxRecDepth 100000 in
theorem c_X5_sheetAt (l : Launch) (X : gX) (b0 : Nat) (lo : gL) (M T : rM2) (e0 : gE) (hM : Iv M) (p pl : Int32) : Ct l X b0 lo (enR X lo M T e0) yX5_sheetAt cX5_sheetAt 6 (some FieldType.int) (rM 6 152) [.ref (lo 1000), .int p, .int pl] (pRf X lo e0 (sp_sheetAt M p pl)) := by
  refine gMet (by decide) (Nat.le_of_ble_eq_true rfl) rfl ?_
  intro Z hC hI hR
  obtain ⟨hS, eS⟩ := Iv_nS hM
  refine g_aload_n hC dX5_sheetAt_0 rfl ?_
  refine g_iload_n hC dX5_sheetAt_1 rfl ?_
  refine g_callV hC v_X5_noMould km_X5_85 (c_X5_noMould l X b0 lo _ _ e0 _) rfl rO rfl rfl rfl rfl (Nat.le_of_ble_eq_true rfl) ⟨by decide, by decide⟩ ⟨by decide, by decide⟩ dX5_sheetAt_2 (kX ?_)
  refine g_if_eq (tgt := 10) hC dX5_sheetAt_5 (by decide) (fun c5 => ?_) (fun c5 => ?_)
  · have hp := ite_eq c5
    obtain ⟨i, hi, rfl, hi1, -⟩ := moOf hM hp
    have ei : nt (nI i) = i := nt_nI (by omega)
    refine g_iload_n hC dX5_sheetAt_10 rfl ?_
    refine g_if_ge (tgt := 17) hC dX5_sheetAt_11 (by decide) (fun c11 => ?_) (fun c11 => ?_)
    · refine g_aload_n hC dX5_sheetAt_17 rfl ?_
      refine g_callV hC v_X5_assignAll km_X5_146 (c_X5_assignAll l X b0 lo _ _ e0 hM) rfl rO rfl rfl rfl rfl (Nat.le_of_ble_eq_true rfl) ⟨by decide, by decide⟩ ⟨by decide, by decide⟩ dX5_sheetAt_18 (kV ?_)
      rintro en' ⟨T8, rfl, hs8⟩
      refine g_iconst (v := 0) hC dX5_sheetAt_21 (by decide) ?_
      refine g_istore_n hC dX5_sheetAt_22 (by decide) ?_
      have lk : ∀ (r : Nat) (k : Nat), k + r = nSh M → atF M (nI i) pl 0 (nSh M) = atF M (nI i) pl k r → GO l X b0 Z 0 0 lo (enR X lo M T8 e0) 23 [(0, .ref (lo 1000)), (1, .int (nI i)), (2, .int pl), (3, .int (nI k))] [] := by
        intro r
        induction r with
        | zero =>
          intro k hk9 hat
          have hk8 : k = nSh M := by omega
          subst hk8
          refine g_iload_n hC dX5_sheetAt_23 rfl ?_
          refine g_aload_n hC dX5_sheetAt_24 rfl ?_
          refine g_get hC rfl rO rfl kl_X5 11 (by decide) kf_X5_99 rfl rfl dX5_sheetAt_25 ?_
          refine g_icmp_ge (tgt := 120) hC dX5_sheetAt_28 (by decide) (fun c28 => ?_) (fun c28 => absurd (by rw [eS]; exact nI_le (by omega) (by omega)) c28)
          refine g_bipush (v := (-6)) hC dX5_sheetAt_120 (by decide) ?_
          refine g_ireti hR dX5_sheetAt_122 rfl ?_
          clear hR hC hI
          refine pRf_i ?_ rfl
          unfold sp_sheetAt
          rw [if_pos hp, if_neg (Int32.not_lt.mpr c11), hat]
          rfl
        | succ r ihlk =>
          intro k hk9 hat
          refine g_iload_n hC dX5_sheetAt_23 rfl ?_
          refine g_aload_n hC dX5_sheetAt_24 rfl ?_
          refine g_get hC rfl rO rfl kl_X5 11 (by decide) kf_X5_99 rfl rfl dX5_sheetAt_25 ?_
          refine g_icmp_ge (tgt := 120) hC dX5_sheetAt_28 (by decide) (fun c28 => absurd c28 (by rw [eS]; exact nI_ge (by omega) (by omega))) (fun c28 => ?_)
          refine g_iconst (v := 0) hC dX5_sheetAt_31 (by decide) ?_
          refine g_istore hC dX5_sheetAt_32 (by decide) ?_
          refine g_iconst (v := 0) hC dX5_sheetAt_34 (by decide) ?_
          refine g_istore hC dX5_sheetAt_35 (by decide) ?_
          have lx : ∀ (r : Nat) (x : Nat), x + r = nSh M → GO l X b0 Z 0 0 lo (enR X lo M T8 e0) 37 [(0, .ref (lo 1000)), (1, .int (nI i)), (2, .int pl), (3, .int (nI k)), (4, .int (anF M (nI i) k x)), (5, .int (nI x))] [] := by
            intro r
            induction r with
            | zero =>
              intro x hx9
              have hx8 : x = nSh M := by omega
              subst hx8
              refine g_iload hC dX5_sheetAt_37 rfl ?_
              refine g_aload_n hC dX5_sheetAt_39 rfl ?_
              refine g_get hC rfl rO rfl kl_X5 11 (by decide) kf_X5_99 rfl rfl dX5_sheetAt_40 ?_
              refine g_icmp_ge (tgt := 97) hC dX5_sheetAt_43 (by decide) (fun c43 => ?_) (fun c43 => absurd (by rw [eS]; exact nI_le (by omega) (by omega)) c43)
              refine g_aload_n hC dX5_sheetAt_97 rfl ?_
              refine g_iload_n hC dX5_sheetAt_98 rfl ?_
              refine g_iload_n hC dX5_sheetAt_99 rfl ?_
              refine g_callV hC v_X5_isPlaced km_X5_157 (c_X5_isPlaced l X b0 lo _ _ e0 hM hs8 k (by omega) _) rfl rO rfl rfl rfl rfl (Nat.le_of_ble_eq_true rfl) ⟨by decide, by decide⟩ ⟨by decide, by decide⟩ dX5_sheetAt_100 (kX ?_)
              refine g_if_eq (tgt := 114) hC dX5_sheetAt_103 (by decide) (fun c103 => ?_) (fun c103 => ?_)
              · have hat2 : atF M (nI i) pl 0 (nSh M) = atF M (nI i) pl (k + 1) r := by
                  rw [hat, (show atF M (nI i) pl k (r + 1) = (if onF M k (nI i) ∧ anF M (nI i) k (nSh M) = pl then nI k else atF M (nI i) pl (k + 1) r) from rfl)]
                  exact if_neg (by clear hC hR hI ihlk hat; grind)
                refine g_iinc hC dX5_sheetAt_114 rfl (nI_inc k) (by decide) ?_
                refine g_goto (tgt := 23) hC dX5_sheetAt_117 (by decide) ?_
                exact g_lv (lv' := [(0, .ref (lo 1000)), (1, .int (nI i)), (2, .int pl), (3, .int (nI (k + 1)))]) ⟨rfl, rfl, rfl, rfl, trivial⟩ (ihlk (k + 1) (by omega) hat2)
              · refine g_iload hC dX5_sheetAt_106 rfl ?_
                refine g_iload_n hC dX5_sheetAt_108 rfl ?_
                refine g_icmp_ne (tgt := 114) hC dX5_sheetAt_109 (by decide) (fun c109 => ?_) (fun c109 => ?_)
                · have hat2 : atF M (nI i) pl 0 (nSh M) = atF M (nI i) pl (k + 1) r := by
                    rw [hat, (show atF M (nI i) pl k (r + 1) = (if onF M k (nI i) ∧ anF M (nI i) k (nSh M) = pl then nI k else atF M (nI i) pl (k + 1) r) from rfl)]
                    exact if_neg (by clear hC hR hI ihlk hat; grind)
                  refine g_iinc hC dX5_sheetAt_114 rfl (nI_inc k) (by decide) ?_
                  refine g_goto (tgt := 23) hC dX5_sheetAt_117 (by decide) ?_
                  exact g_lv (lv' := [(0, .ref (lo 1000)), (1, .int (nI i)), (2, .int pl), (3, .int (nI (k + 1)))]) ⟨rfl, rfl, rfl, rfl, trivial⟩ (ihlk (k + 1) (by omega) hat2)
                · refine g_iload_n hC dX5_sheetAt_112 rfl ?_
                  refine g_ireti hR dX5_sheetAt_113 rfl ?_
                  clear hR hC hI
                  refine pRf_i ?_ rfl
                  unfold sp_sheetAt
                  rw [if_pos hp, if_neg (Int32.not_lt.mpr c11), hat, (show atF M (nI i) pl k (r + 1) = (if onF M k (nI i) ∧ anF M (nI i) k (nSh M) = pl then nI k else atF M (nI i) pl (k + 1) r) from rfl), if_pos (by clear hat ihlk; grind)]
            | succ r ihlx =>
              intro x hx9
              refine g_iload hC dX5_sheetAt_37 rfl ?_
              refine g_aload_n hC dX5_sheetAt_39 rfl ?_
              refine g_get hC rfl rO rfl kl_X5 11 (by decide) kf_X5_99 rfl rfl dX5_sheetAt_40 ?_
              refine g_icmp_ge (tgt := 97) hC dX5_sheetAt_43 (by decide) (fun c43 => absurd c43 (by rw [eS]; exact nI_ge (by omega) (by omega))) (fun c43 => ?_)
              refine g_iload hC dX5_sheetAt_46 rfl ?_
              refine g_aload_n hC dX5_sheetAt_48 rfl ?_
              refine g_iload_n hC dX5_sheetAt_49 rfl ?_
              refine g_iload_n hC dX5_sheetAt_50 rfl ?_
              refine g_callV hC v_X5_isPlaced km_X5_157 (c_X5_isPlaced l X b0 lo _ _ e0 hM hs8 k (by omega) _) rfl rO rfl rfl rfl rfl (Nat.le_of_ble_eq_true rfl) ⟨by decide, by decide⟩ ⟨by decide, by decide⟩ dX5_sheetAt_51 (kX ?_)
              refine g_if_eq (tgt := 87) hC dX5_sheetAt_54 (by decide) (fun c54 => ?_) (fun c54 => ?_)
              · refine g_iconst (v := 0) hC dX5_sheetAt_87 (by decide) ?_
                refine g_iadd hC dX5_sheetAt_88 ?_
                refine g_val (y := anF M (nI i) k (x + 1)) (by
                  have hxk0 : (nI x = nI k) ↔ x = k := nI_eq (by omega) (by omega)
                  clear hC hR hI ihlx ihlk
                  rw [anF_s]
                  grind) ?_
                refine g_istore hC dX5_sheetAt_89 (by decide) ?_
                refine g_iinc hC dX5_sheetAt_91 rfl (nI_inc x) (by decide) ?_
                refine g_goto (tgt := 37) hC dX5_sheetAt_94 (by decide) ?_
                exact g_lv (lv' := [(0, .ref (lo 1000)), (1, .int (nI i)), (2, .int pl), (3, .int (nI k)), (4, .int (anF M (nI i) k (x + 1))), (5, .int (nI (x + 1)))]) ⟨rfl, rfl, rfl, rfl, rfl, rfl, trivial⟩ (ihlx (x + 1) (by omega))
              · refine g_aload_n hC dX5_sheetAt_57 rfl ?_
                refine g_iload hC dX5_sheetAt_58 rfl ?_
                refine g_iload_n hC dX5_sheetAt_60 rfl ?_
                refine g_callV hC v_X5_isPlaced km_X5_157 (c_X5_isPlaced l X b0 lo _ _ e0 hM hs8 x (by omega) _) rfl rO rfl rfl rfl rfl (Nat.le_of_ble_eq_true rfl) ⟨by decide, by decide⟩ ⟨by decide, by decide⟩ dX5_sheetAt_61 (kX ?_)
                refine g_if_eq (tgt := 87) hC dX5_sheetAt_64 (by decide) (fun c64 => ?_) (fun c64 => ?_)
                · refine g_iconst (v := 0) hC dX5_sheetAt_87 (by decide) ?_
                  refine g_iadd hC dX5_sheetAt_88 ?_
                  refine g_val (y := anF M (nI i) k (x + 1)) (by
                    have hxk0 : (nI x = nI k) ↔ x = k := nI_eq (by omega) (by omega)
                    clear hC hR hI ihlx ihlk
                    rw [anF_s]
                    grind) ?_
                  refine g_istore hC dX5_sheetAt_89 (by decide) ?_
                  refine g_iinc hC dX5_sheetAt_91 rfl (nI_inc x) (by decide) ?_
                  refine g_goto (tgt := 37) hC dX5_sheetAt_94 (by decide) ?_
                  exact g_lv (lv' := [(0, .ref (lo 1000)), (1, .int (nI i)), (2, .int pl), (3, .int (nI k)), (4, .int (anF M (nI i) k (x + 1))), (5, .int (nI (x + 1)))]) ⟨rfl, rfl, rfl, rfl, rfl, rfl, trivial⟩ (ihlx (x + 1) (by omega))
                · refine g_iload hC dX5_sheetAt_67 rfl ?_
                  refine g_iload_n hC dX5_sheetAt_69 rfl ?_
                  refine g_icmp_eq (tgt := 87) hC dX5_sheetAt_70 (by decide) (fun c70 => ?_) (fun c70 => ?_)
                  · refine g_iconst (v := 0) hC dX5_sheetAt_87 (by decide) ?_
                    refine g_iadd hC dX5_sheetAt_88 ?_
                    refine g_val (y := anF M (nI i) k (x + 1)) (by
                      have hxk0 : (nI x = nI k) ↔ x = k := nI_eq (by omega) (by omega)
                      clear hC hR hI ihlx ihlk
                      rw [anF_s]
                      grind) ?_
                    refine g_istore hC dX5_sheetAt_89 (by decide) ?_
                    refine g_iinc hC dX5_sheetAt_91 rfl (nI_inc x) (by decide) ?_
                    refine g_goto (tgt := 37) hC dX5_sheetAt_94 (by decide) ?_
                    exact g_lv (lv' := [(0, .ref (lo 1000)), (1, .int (nI i)), (2, .int pl), (3, .int (nI k)), (4, .int (anF M (nI i) k (x + 1))), (5, .int (nI (x + 1)))]) ⟨rfl, rfl, rfl, rfl, rfl, rfl, trivial⟩ (ihlx (x + 1) (by omega))
                  · have hxk : x ≠ k := fun z => c70 (by rw [z])
                    refine g_aload_n hC dX5_sheetAt_73 rfl ?_
                    refine g_iload hC dX5_sheetAt_74 rfl ?_
                    refine g_iload_n hC dX5_sheetAt_76 rfl ?_
                    refine g_callV hC v_X5_isAhead km_X5_160 (c_X5_isAhead l X b0 lo _ _ e0 hM hs8 x k (by omega) (by omega)) rfl rO rfl rfl rfl rfl (Nat.le_of_ble_eq_true rfl) ⟨by decide, by decide⟩ ⟨by decide, by decide⟩ dX5_sheetAt_77 (kX ?_)
                    refine g_if_eq (tgt := 87) hC dX5_sheetAt_80 (by decide) (fun c80 => ?_) (fun c80 => ?_)
                    · refine g_iconst (v := 0) hC dX5_sheetAt_87 (by decide) ?_
                      refine g_iadd hC dX5_sheetAt_88 ?_
                      refine g_val (y := anF M (nI i) k (x + 1)) (by
                        have hxk0 : (nI x = nI k) ↔ x = k := nI_eq (by omega) (by omega)
                        clear hC hR hI ihlx ihlk
                        rw [anF_s]
                        grind) ?_
                      refine g_istore hC dX5_sheetAt_89 (by decide) ?_
                      refine g_iinc hC dX5_sheetAt_91 rfl (nI_inc x) (by decide) ?_
                      refine g_goto (tgt := 37) hC dX5_sheetAt_94 (by decide) ?_
                      exact g_lv (lv' := [(0, .ref (lo 1000)), (1, .int (nI i)), (2, .int pl), (3, .int (nI k)), (4, .int (anF M (nI i) k (x + 1))), (5, .int (nI (x + 1)))]) ⟨rfl, rfl, rfl, rfl, rfl, rfl, trivial⟩ (ihlx (x + 1) (by omega))
                    · refine g_iconst (v := 1) hC dX5_sheetAt_83 (by decide) ?_
                      refine g_goto (tgt := 88) hC dX5_sheetAt_84 (by decide) ?_
                      refine g_iadd hC dX5_sheetAt_88 ?_
                      refine g_val (y := anF M (nI i) k (x + 1)) (by
                        have hxk0 : (nI x = nI k) ↔ x = k := nI_eq (by omega) (by omega)
                        clear hC hR hI ihlx ihlk
                        rw [anF_s]
                        grind) ?_
                      refine g_istore hC dX5_sheetAt_89 (by decide) ?_
                      refine g_iinc hC dX5_sheetAt_91 rfl (nI_inc x) (by decide) ?_
                      refine g_goto (tgt := 37) hC dX5_sheetAt_94 (by decide) ?_
                      exact g_lv (lv' := [(0, .ref (lo 1000)), (1, .int (nI i)), (2, .int pl), (3, .int (nI k)), (4, .int (anF M (nI i) k (x + 1))), (5, .int (nI (x + 1)))]) ⟨rfl, rfl, rfl, rfl, rfl, rfl, trivial⟩ (ihlx (x + 1) (by omega))
          exact g_lv (lv' := [(0, .ref (lo 1000)), (1, .int (nI i)), (2, .int pl), (3, .int (nI k)), (4, .int 0), (5, .int (nI 0))]) ⟨rfl, rfl, rfl, rfl, rfl, rfl, trivial⟩ (lx (nSh M) 0 (by omega))
      exact g_lv (lv' := [(0, .ref (lo 1000)), (1, .int (nI i)), (2, .int pl), (3, .int (nI 0))]) ⟨rfl, rfl, rfl, rfl, trivial⟩ (lk (nSh M) 0 (by omega) rfl)
    · refine g_bipush (v := (-3)) hC dX5_sheetAt_14 (by decide) ?_
      refine g_ireti hR dX5_sheetAt_16 rfl ?_
      clear hR hC hI
      refine pRf_i ?_ rfl
      grind [sp_sheetAt]
  · refine g_iconst (v := (-1)) hC dX5_sheetAt_8 (by decide) ?_
    refine g_ireti hR dX5_sheetAt_9 rfl ?_
    clear hR hC hI
    refine pRf_i ?_ rfl
    grind [sp_sheetAt]

set_option maxHeartbeats 4000000 in
set_option maxRecDepth 100000 in
theorem c_X5_contradictionCount (l : Launch) (X : gX) (b0 : Nat) (lo : gL) (M T : rM2) (e0 : gE) (hM : Iv M) (p : Int32) : Ct l X b0 lo (enR X lo M T e0) yX5_contradictionCount cX5_contradictionCount 5 (some FieldType.int) (rM 6 152) [.ref (lo 1000), .int p] (pRf X lo e0 (sp_contradictionCount M p)) := by
  refine gMet (by decide) (Nat.le_of_ble_eq_true rfl) rfl ?_
  intro Z hC hI hR
  obtain ⟨hS, eS⟩ := Iv_nS hM
  refine g_aload_n hC dX5_contradictionCount_0 rfl ?_
  refine g_iload_n hC dX5_contradictionCount_1 rfl ?_
  refine g_callV hC v_X5_noMould km_X5_85 (c_X5_noMould l X b0 lo _ _ e0 _) rfl rO rfl rfl rfl rfl (Nat.le_of_ble_eq_true rfl) ⟨by decide, by decide⟩ ⟨by decide, by decide⟩ dX5_contradictionCount_2 (kX ?_)
  refine g_if_eq (tgt := 10) hC dX5_contradictionCount_5 (by decide) (fun c5 => ?_) (fun c5 => ?_)
  · have hp := ite_eq c5
    obtain ⟨i, hi, rfl, hi1, -⟩ := moOf hM hp
    have ei : nt (nI i) = i := nt_nI (by omega)
    refine g_aload_n hC dX5_contradictionCount_10 rfl ?_
    refine g_callV hC v_X5_assignAll km_X5_146 (c_X5_assignAll l X b0 lo _ _ e0 hM) rfl rO rfl rfl rfl rfl (Nat.le_of_ble_eq_true rfl) ⟨by decide, by decide⟩ ⟨by decide, by decide⟩ dX5_contradictionCount_11 (kV ?_)
    rintro en' ⟨T8, rfl, hs8⟩
    refine g_iconst (v := 0) hC dX5_contradictionCount_14 (by decide) ?_
    refine g_istore_n hC dX5_contradictionCount_15 (by decide) ?_
    refine g_iconst (v := 0) hC dX5_contradictionCount_16 (by decide) ?_
    refine g_istore_n hC dX5_contradictionCount_17 (by decide) ?_
    have la : ∀ (r : Nat) (a : Nat), a + r = nSh M → GO l X b0 Z 0 0 lo (enR X lo M T8 e0) 18 [(0, .ref (lo 1000)), (1, .int (nI i)), (2, .int (ccF M (nI i) a)), (3, .int (nI a))] [] := by
      intro r
      induction r with
      | zero =>
        intro a ha9
        have ha8 : a = nSh M := by omega
        subst ha8
        refine g_iload_n hC dX5_contradictionCount_18 rfl ?_
        refine g_aload_n hC dX5_contradictionCount_19 rfl ?_
        refine g_get hC rfl rO rfl kl_X5 11 (by decide) kf_X5_99 rfl rfl dX5_contradictionCount_20 ?_
        refine g_icmp_ge (tgt := 94) hC dX5_contradictionCount_23 (by decide) (fun c23 => ?_) (fun c23 => absurd (by rw [eS]; exact nI_le (by omega) (by omega)) c23)
        refine g_iload_n hC dX5_contradictionCount_94 rfl ?_
        refine g_ireti hR dX5_contradictionCount_95 rfl ?_
        clear hR hC hI
        refine pRf_i ?_ rfl
        unfold sp_contradictionCount
        rw [if_pos hp]
      | succ r ihla =>
        intro a ha9
        refine g_iload_n hC dX5_contradictionCount_18 rfl ?_
        refine g_aload_n hC dX5_contradictionCount_19 rfl ?_
        refine g_get hC rfl rO rfl kl_X5 11 (by decide) kf_X5_99 rfl rfl dX5_contradictionCount_20 ?_
        refine g_icmp_ge (tgt := 94) hC dX5_contradictionCount_23 (by decide) (fun c23 => absurd c23 (by rw [eS]; exact nI_ge (by omega) (by omega))) (fun c23 => ?_)
        refine g_iconst (v := 0) hC dX5_contradictionCount_26 (by decide) ?_
        refine g_istore hC dX5_contradictionCount_27 (by decide) ?_
        have lb : ∀ (r : Nat) (b : Nat), b + r = nSh M → GO l X b0 Z 0 0 lo (enR X lo M T8 e0) 29 [(0, .ref (lo 1000)), (1, .int (nI i)), (2, .int (ccI M (nI i) a b (ccF M (nI i) a))), (3, .int (nI a)), (4, .int (nI b))] [] := by
          intro r
          induction r with
          | zero =>
            intro b hb9
            have hb8 : b = nSh M := by omega
            subst hb8
            refine g_iload hC dX5_contradictionCount_29 rfl ?_
            refine g_aload_n hC dX5_contradictionCount_31 rfl ?_
            refine g_get hC rfl rO rfl kl_X5 11 (by decide) kf_X5_99 rfl rfl dX5_contradictionCount_32 ?_
            refine g_icmp_ge (tgt := 88) hC dX5_contradictionCount_35 (by decide) (fun c35 => ?_) (fun c35 => absurd (by rw [eS]; exact nI_le (by omega) (by omega)) c35)
            refine g_iinc hC dX5_contradictionCount_88 rfl (nI_inc a) (by decide) ?_
            refine g_goto (tgt := 18) hC dX5_contradictionCount_91 (by decide) ?_
            exact g_lv (lv' := [(0, .ref (lo 1000)), (1, .int (nI i)), (2, .int (ccF M (nI i) (a + 1))), (3, .int (nI (a + 1)))]) ⟨rfl, rfl, rfl, rfl, trivial⟩ (ihla (a + 1) (by omega))
          | succ r ihlb =>
            intro b hb9
            refine g_iload hC dX5_contradictionCount_29 rfl ?_
            refine g_aload_n hC dX5_contradictionCount_31 rfl ?_
            refine g_get hC rfl rO rfl kl_X5 11 (by decide) kf_X5_99 rfl rfl dX5_contradictionCount_32 ?_
            refine g_icmp_ge (tgt := 88) hC dX5_contradictionCount_35 (by decide) (fun c35 => absurd c35 (by rw [eS]; exact nI_ge (by omega) (by omega))) (fun c35 => ?_)
            refine g_iload_n hC dX5_contradictionCount_38 rfl ?_
            refine g_aload_n hC dX5_contradictionCount_39 rfl ?_
            refine g_get hC rfl rO rfl kl_X5 25 (by decide) kf_X5_59 rfl rfl dX5_contradictionCount_40 ?_
            refine g_iload_n hC dX5_contradictionCount_43 rfl ?_
            refine g_iald hC rfl rA1015 a rfl (by omega) (by decide) dX5_contradictionCount_44 ?_
            refine g_iload_n hC dX5_contradictionCount_45 rfl ?_
            refine g_icmp_ne (tgt := 79) hC dX5_contradictionCount_46 (by decide) (fun c46 => ?_) (fun c46 => ?_)
            · refine g_iconst (v := 0) hC dX5_contradictionCount_79 (by decide) ?_
              refine g_iadd hC dX5_contradictionCount_80 ?_
              refine g_val (y := ccI M (nI i) a (b + 1) (ccF M (nI i) a)) (by
                have h8 := (hs8 a (by omega)).1
                clear hC hR hI ihlb ihla
                rw [ccI_s]
                grind) ?_
              refine g_istore_n hC dX5_contradictionCount_81 (by decide) ?_
              refine g_iinc hC dX5_contradictionCount_82 rfl (nI_inc b) (by decide) ?_
              refine g_goto (tgt := 29) hC dX5_contradictionCount_85 (by decide) ?_
              exact g_lv (lv' := [(0, .ref (lo 1000)), (1, .int (nI i)), (2, .int (ccI M (nI i) a (b + 1) (ccF M (nI i) a))), (3, .int (nI a)), (4, .int (nI (b + 1)))]) ⟨rfl, rfl, rfl, rfl, rfl, trivial⟩ (ihlb (b + 1) (by omega))
            · refine g_aload_n hC dX5_contradictionCount_49 rfl ?_
              refine g_iload_n hC dX5_contradictionCount_50 rfl ?_
              refine g_iload hC dX5_contradictionCount_51 rfl ?_
              refine g_callV hC v_X5_isLower km_X5_149 (c_X5_isLower l X b0 lo _ _ e0 hM hs8 a b (by omega) (by omega)) rfl rO rfl rfl rfl rfl (Nat.le_of_ble_eq_true rfl) ⟨by decide, by decide⟩ ⟨by decide, by decide⟩ dX5_contradictionCount_53 (kX ?_)
              refine g_if_eq (tgt := 79) hC dX5_contradictionCount_56 (by decide) (fun c56 => ?_) (fun c56 => ?_)
              · refine g_iconst (v := 0) hC dX5_contradictionCount_79 (by decide) ?_
                refine g_iadd hC dX5_contradictionCount_80 ?_
                refine g_val (y := ccI M (nI i) a (b + 1) (ccF M (nI i) a)) (by
                  have h8 := (hs8 a (by omega)).1
                  clear hC hR hI ihlb ihla
                  rw [ccI_s]
                  grind) ?_
                refine g_istore_n hC dX5_contradictionCount_81 (by decide) ?_
                refine g_iinc hC dX5_contradictionCount_82 rfl (nI_inc b) (by decide) ?_
                refine g_goto (tgt := 29) hC dX5_contradictionCount_85 (by decide) ?_
                exact g_lv (lv' := [(0, .ref (lo 1000)), (1, .int (nI i)), (2, .int (ccI M (nI i) a (b + 1) (ccF M (nI i) a))), (3, .int (nI a)), (4, .int (nI (b + 1)))]) ⟨rfl, rfl, rfl, rfl, rfl, trivial⟩ (ihlb (b + 1) (by omega))
              · refine g_aload_n hC dX5_contradictionCount_59 rfl ?_
                refine g_get hC rfl rO rfl kl_X5 17 (by decide) kf_X5_53 rfl rfl dX5_contradictionCount_60 ?_
                refine g_iload_n hC dX5_contradictionCount_63 rfl ?_
                refine g_iald hC rfl rA1013 a rfl (by omega) (by decide) dX5_contradictionCount_64 ?_
                refine g_aload_n hC dX5_contradictionCount_65 rfl ?_
                refine g_get hC rfl rO rfl kl_X5 18 (by decide) kf_X5_56 rfl rfl dX5_contradictionCount_66 ?_
                refine g_iload hC dX5_contradictionCount_69 rfl ?_
                refine g_iald hC rfl rA1014 b rfl (by omega) (by decide) dX5_contradictionCount_71 ?_
                refine g_icmp_le (tgt := 79) hC dX5_contradictionCount_72 (by decide) (fun c72 => ?_) (fun c72 => ?_)
                · refine g_iconst (v := 0) hC dX5_contradictionCount_79 (by decide) ?_
                  refine g_iadd hC dX5_contradictionCount_80 ?_
                  refine g_val (y := ccI M (nI i) a (b + 1) (ccF M (nI i) a)) (by
                    have h8 := (hs8 a (by omega)).1
                    clear hC hR hI ihlb ihla
                    rw [ccI_s]
                    grind) ?_
                  refine g_istore_n hC dX5_contradictionCount_81 (by decide) ?_
                  refine g_iinc hC dX5_contradictionCount_82 rfl (nI_inc b) (by decide) ?_
                  refine g_goto (tgt := 29) hC dX5_contradictionCount_85 (by decide) ?_
                  exact g_lv (lv' := [(0, .ref (lo 1000)), (1, .int (nI i)), (2, .int (ccI M (nI i) a (b + 1) (ccF M (nI i) a))), (3, .int (nI a)), (4, .int (nI (b + 1)))]) ⟨rfl, rfl, rfl, rfl, rfl, trivial⟩ (ihlb (b + 1) (by omega))
                · refine g_iconst (v := 1) hC dX5_contradictionCount_75 (by decide) ?_
                  refine g_goto (tgt := 80) hC dX5_contradictionCount_76 (by decide) ?_
                  refine g_iadd hC dX5_contradictionCount_80 ?_
                  refine g_val (y := ccI M (nI i) a (b + 1) (ccF M (nI i) a)) (by
                    have h8 := (hs8 a (by omega)).1
                    clear hC hR hI ihlb ihla
                    rw [ccI_s]
                    grind) ?_
                  refine g_istore_n hC dX5_contradictionCount_81 (by decide) ?_
                  refine g_iinc hC dX5_contradictionCount_82 rfl (nI_inc b) (by decide) ?_
                  refine g_goto (tgt := 29) hC dX5_contradictionCount_85 (by decide) ?_
                  exact g_lv (lv' := [(0, .ref (lo 1000)), (1, .int (nI i)), (2, .int (ccI M (nI i) a (b + 1) (ccF M (nI i) a))), (3, .int (nI a)), (4, .int (nI (b + 1)))]) ⟨rfl, rfl, rfl, rfl, rfl, trivial⟩ (ihlb (b + 1) (by omega))
        exact g_lv (lv' := [(0, .ref (lo 1000)), (1, .int (nI i)), (2, .int (ccF M (nI i) a)), (3, .int (nI a)), (4, .int (nI 0))]) ⟨rfl, rfl, rfl, rfl, rfl, trivial⟩ (lb (nSh M) 0 (by omega))
    exact g_lv (lv' := [(0, .ref (lo 1000)), (1, .int (nI i)), (2, .int 0), (3, .int (nI 0))]) ⟨rfl, rfl, rfl, rfl, trivial⟩ (la (nSh M) 0 (by omega))
  · refine g_iconst (v := (-1)) hC dX5_contradictionCount_8 (by decide) ?_
    refine g_ireti hR dX5_contradictionCount_9 rfl ?_
    clear hR hC hI
    refine pRf_i ?_ rfl
    grind [sp_contradictionCount]
