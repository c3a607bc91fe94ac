/-! ===== the reference: addMould, addSheet ===== -/
set_option maxHeartbeats 4000000 in
set_option maxRecDepth 100000 in
theorem c_X5_addMould (l : Launch) (X : gX) (b0 : Nat) (lo : gL) (M T : rM2) (e0 : gE) (hM : Iv M) (iv x y : Int32) : Ct l X b0 lo (enR X lo M T e0) yX5_addMould cX5_addMould 5 (some FieldType.int) (rM 2 45) [.ref (lo 1000), .int iv, .int x, .int y] (pRf X lo e0 (sp_addMould M iv x y)) := by
  refine gMet (by decide) (Nat.le_of_ble_eq_true rfl) rfl ?_
  intro Z hC hI hR
  have hM0 := hM
  obtain ⟨n, hn, en⟩ := natOf (n := 10) hM.1 rfl (by decide)
  have hn2 : nt (M 20 1) = n := by rw [en]; exact nt_nI (by omega)
  obtain ⟨i, hi, ei⟩ := natOf (n := 10) hM.2.2.2.1 rfl (by decide)
  have hi2 : nMo M = i := by unfold nMo; rw [ei]; exact nt_nI (by omega)
  refine g_aload_n hC dX5_addMould_0 rfl ?_
  refine g_get hC rfl rO rfl kl_X5 1 (by decide) kf_X5_68 rfl rfl dX5_addMould_1 ?_
  refine g_iconst (v := 3) hC dX5_addMould_4 (by decide) ?_
  refine g_icmp_ge (tgt := 11) hC dX5_addMould_5 (by decide) (fun c5 => ?_) (fun c5 => ?_)
  · refine g_aload_n hC dX5_addMould_11 rfl ?_
    refine g_iload_n hC dX5_addMould_12 rfl ?_
    refine g_iload_n hC dX5_addMould_13 rfl ?_
    refine g_iload_n hC dX5_addMould_14 rfl ?_
    refine g_callV hC v_X5_isMark km_X5_78 (c_X5_isMark l X b0 lo _ _ e0 hM _ _ _) rfl rO rfl rfl rfl rfl (Nat.le_of_ble_eq_true rfl) ⟨by decide, by decide⟩ ⟨by decide, by decide⟩ dX5_addMould_15 (kX ?_)
    refine g_if_ne (tgt := 24) hC dX5_addMould_18 (by decide) (fun c18 => ?_) (fun c18 => ?_)
    · refine g_aload_n hC dX5_addMould_24 rfl ?_
      refine g_get hC rfl rO rfl kl_X5 4 (by decide) kf_X5_75 rfl rfl dX5_addMould_25 ?_
      refine g_bipush (v := 10) hC dX5_addMould_28 (by decide) ?_
      refine g_icmp_ne (tgt := 36) hC dX5_addMould_30 (by decide) (fun c30 => ?_) (fun c30 => ?_)
      · have hi9 : i < 10 := by
          rcases Nat.lt_or_ge i 10 with q | q
          · exact q
          · exact absurd (by rw [ei, show i = 10 by omega]; rfl) c30
        refine g_aload_n hC dX5_addMould_36 rfl ?_
        refine g_get hC rfl rO rfl kl_X5 5 (by decide) kf_X5_20 rfl rfl dX5_addMould_37 ?_
        refine g_aload_n hC dX5_addMould_40 rfl ?_
        refine g_get hC rfl rO rfl kl_X5 4 (by decide) kf_X5_75 rfl rfl dX5_addMould_41 ?_
        refine g_aload_n hC dX5_addMould_44 rfl ?_
        refine g_get hC rfl rO rfl kl_X5 1 (by decide) kf_X5_68 rfl rfl dX5_addMould_45 ?_
        refine g_iast hC rfl rA1002 i ei (by omega) (by decide) dX5_addMould_48 (fun en20 hen20 => ?_)
        replace hen20 := rQ1002 hen20
        obtain ⟨M20, hM20, hen20⟩ := hen20
        subst hen20
        refine g_iconst (v := 0) hC dX5_addMould_49 (by decide) ?_
        refine g_istore hC dX5_addMould_50 (by decide) ?_
        have lp : ∀ (r : Nat) (k : Nat) (M1 : rM2), k + r = n → M1 = cp2 (up2 M 1 i (M 20 1)) 2 (10 * i) k → GO l X b0 Z 0 0 lo (enR X lo M1 T e0) 52 [(0, .ref (lo 1000)), (1, .int iv), (2, .int x), (3, .int y), (4, .int (nI k))] [] := by
          intro r
          induction r with
          | zero =>
            intro k M1 hk hM1
            have hkn : k = n := by omega
            subst hkn
            refine g_iload hC dX5_addMould_52 rfl ?_
            refine g_aload_n hC dX5_addMould_54 rfl ?_
            refine g_get hC rfl rO rfl kl_X5 1 (by decide) kf_X5_68 rfl rfl dX5_addMould_55 ?_
            refine g_icmp_ge (tgt := 89) hC dX5_addMould_58 (by decide) (fun c58 => ?_) (fun c58 => absurd (by rw [hM1]; show M 20 1 ≤ _; rw [en]; exact nI_le (by omega) (by omega)) c58)
            refine g_aload_n hC dX5_addMould_89 rfl ?_
            refine g_get hC rfl rO rfl kl_X5 7 (by decide) kf_X5_26 rfl rfl dX5_addMould_90 ?_
            refine g_aload_n hC dX5_addMould_93 rfl ?_
            refine g_get hC rfl rO rfl kl_X5 4 (by decide) kf_X5_75 rfl rfl dX5_addMould_94 ?_
            refine g_iload_n hC dX5_addMould_97 rfl ?_
            refine g_iast hC rfl rA1004 i (by rw [hM1]; exact ei) (by omega) (by decide) dX5_addMould_98 (fun en21 hen21 => ?_)
            replace hen21 := rQ1004 hen21
            obtain ⟨M21, hM21, hen21⟩ := hen21
            subst hen21
            refine g_aload_n hC dX5_addMould_99 rfl ?_
            refine g_get hC rfl rO rfl kl_X5 8 (by decide) kf_X5_29 rfl rfl dX5_addMould_100 ?_
            refine g_aload_n hC dX5_addMould_103 rfl ?_
            refine g_get hC rfl rO rfl kl_X5 4 (by decide) kf_X5_75 rfl rfl dX5_addMould_104 ?_
            refine g_iconst (v := 0) hC dX5_addMould_107 (by decide) ?_
            refine g_iast hC rfl rA1005 i (by rw [hM21, hM1]; exact ei) (by omega) (by decide) dX5_addMould_108 (fun en22 hen22 => ?_)
            replace hen22 := rQ1005 hen22
            obtain ⟨M22, hM22, hen22⟩ := hen22
            subst hen22
            refine g_aload_n hC dX5_addMould_109 rfl ?_
            refine g_aload_n hC dX5_addMould_110 rfl ?_
            refine g_get hC rfl rO rfl kl_X5 4 (by decide) kf_X5_75 rfl rfl dX5_addMould_111 ?_
            have e4 : M22 20 4 = nI i := (by rw [hM22, hM21, hM1]; exact ei)
            have e40 : M22 4 i = nI 0 := by rw [hM22, up2_self, pk_us]; rfl
            refine g_val e4 ?_
            refine g_iload_n hC dX5_addMould_114 rfl ?_
            refine g_iload_n hC dX5_addMould_115 rfl ?_
            refine g_callV hC v_X5_putState km_X5_81 (c_X5_putState l X b0 lo _ _ e0 i (by omega) 0 (by decide) e40 _ _) rfl rO rfl rfl rfl rfl (Nat.le_of_ble_eq_true rfl) ⟨by decide, by decide⟩ ⟨by decide, by decide⟩ dX5_addMould_116 (kV ?_)
            rintro en' rfl
            refine g_aload_n hC dX5_addMould_119 rfl ?_
            refine g_dup hC dX5_addMould_120 rfl ?_
            refine g_get hC rfl rO rfl kl_X5 4 (by decide) kf_X5_75 rfl rfl dX5_addMould_121 ?_
            refine g_iconst (v := 1) hC dX5_addMould_124 (by decide) ?_
            refine g_iadd hC dX5_addMould_125 ?_
            refine g_put (ty := .int) hC rfl rO rfl kl_X5 4 (by decide) kf_X5_75 rfl tyX5 tyX5_ok nmX5 rfl (by decide +kernel) rfl rfl (Nat.le_of_ble_eq_true rfl) dX5_addMould_126 (fun en23 hen23 => ?_)
            replace hen23 := rP4 hen23
            obtain ⟨M23, hM23, hen23⟩ := hen23
            subst hen23
            refine g_aload_n hC dX5_addMould_129 rfl ?_
            refine g_get hC rfl rO rfl kl_X5 4 (by decide) kf_X5_75 rfl rfl dX5_addMould_130 ?_
            refine g_iconst (v := 1) hC dX5_addMould_133 (by decide) ?_
            refine g_isub hC dX5_addMould_134 ?_
            refine g_ireti hR dX5_addMould_135 rfl ?_
            clear hR hC hI
            have hP : psM M22 i x y 20 4 = M 20 4 := by
              rw [hM22, hM21, hM1]
              simp +decide [psM, up2, cp2]
            subst hM23
            subst hM22
            subst hM21
            subst hM1
            refine pRf_i ?_ ?_
            · simp +decide only [up2_self, pk_us, hP]
              grind [sp_addMould]
            · rw [hP]
              grind [sp_addMould, adM]
          | succ r ihlp =>
            intro k M1 hk hM1
            refine g_iload hC dX5_addMould_52 rfl ?_
            refine g_aload_n hC dX5_addMould_54 rfl ?_
            refine g_get hC rfl rO rfl kl_X5 1 (by decide) kf_X5_68 rfl rfl dX5_addMould_55 ?_
            refine g_icmp_ge (tgt := 89) hC dX5_addMould_58 (by decide) (fun c58 => absurd c58 (by rw [hM1]; show ¬ M 20 1 ≤ _; rw [en]; exact nI_ge (by omega) (by omega))) (fun c58 => ?_)
            refine g_aload_n hC dX5_addMould_61 rfl ?_
            refine g_get hC rfl rO rfl kl_X5 6 (by decide) kf_X5_23 rfl rfl dX5_addMould_62 ?_
            refine g_bipush (v := 10) hC dX5_addMould_65 (by decide) ?_
            refine g_aload_n hC dX5_addMould_67 rfl ?_
            refine g_get hC rfl rO rfl kl_X5 4 (by decide) kf_X5_75 rfl rfl dX5_addMould_68 ?_
            refine g_imul hC dX5_addMould_71 ?_
            refine g_iload hC dX5_addMould_72 rfl ?_
            refine g_iadd hC dX5_addMould_74 ?_
            refine g_aload_n hC dX5_addMould_75 rfl ?_
            refine g_get hC rfl rO rfl kl_X5 0 (by decide) kf_X5_7 rfl rfl dX5_addMould_76 ?_
            refine g_iload hC dX5_addMould_79 rfl ?_
            refine g_iald hC rfl rA1001 k rfl (by omega) (by decide) dX5_addMould_81 ?_
            refine g_iast hC rfl rA1003 (10 * i + k) (ix10 (by rw [hM1]; exact ei) rfl) (by omega) (by decide) dX5_addMould_82 (fun en24 hen24 => ?_)
            replace hen24 := rQ1003 hen24
            obtain ⟨M24, hM24, hen24⟩ := hen24
            subst hen24
            refine g_iinc hC dX5_addMould_83 rfl (nI_inc k) (by decide) ?_
            refine g_goto (tgt := 52) hC dX5_addMould_86 (by decide) ?_
            exact g_lv (lv' := [(0, .ref (lo 1000)), (1, .int iv), (2, .int x), (3, .int y), (4, .int (nI (k + 1)))]) ⟨rfl, rfl, rfl, rfl, rfl, trivial⟩ (ihlp (k + 1) M24 (by omega) (by rw [hM24, hM1]; exact cp2_succ (by decide)))
        exact g_lv (lv' := [(0, .ref (lo 1000)), (1, .int iv), (2, .int x), (3, .int y), (4, .int (nI 0))]) ⟨rfl, rfl, rfl, rfl, rfl, trivial⟩ (lp n 0 M20 (by omega) (by rw [hM20, cp2_0]))
      · refine g_bipush (v := (-5)) hC dX5_addMould_33 (by decide) ?_
        refine g_ireti hR dX5_addMould_35 rfl ?_
        clear hR hC hI
        refine pRf_i ?_ ?_ <;> (try simp +decide only [up2_row, up2_self, pk_us]) <;> grind [sp_addMould]
    · refine g_bipush (v := (-3)) hC dX5_addMould_21 (by decide) ?_
      refine g_ireti hR dX5_addMould_23 rfl ?_
      clear hR hC hI
      refine pRf_i ?_ ?_ <;> (try simp +decide only [up2_row, up2_self, pk_us]) <;> grind [sp_addMould]
  · refine g_bipush (v := (-4)) hC dX5_addMould_8 (by decide) ?_
    refine g_ireti hR dX5_addMould_10 rfl ?_
    clear hR hC hI
    refine pRf_i ?_ ?_ <;> (try simp +decide only [up2_row, up2_self, pk_us]) <;> grind [sp_addMould]

set_option maxHeartbeats 4000000 in
set_option maxRecDepth 100000 in
theorem c_X5_addSheet (l : Launch) (X : gX) (b0 : Nat) (lo : gL) (M T : rM2) (e0 : gE) (hM : Iv M) (iv x y : Int32) : Ct l X b0 lo (enR X lo M T e0) yX5_addSheet cX5_addSheet 5 (some FieldType.int) (rM 2 45) [.ref (lo 1000), .int iv, .int x, .int y] (pRf X lo e0 (sp_addSheet M iv x y)) := by
  refine gMet (by decide) (Nat.le_of_ble_eq_true rfl) rfl ?_
  intro Z hC hI hR
  have hM0 := hM
  obtain ⟨n, hn, en⟩ := natOf (n := 10) hM.1 rfl (by decide)
  have hn2 : nt (M 20 1) = n := by rw [en]; exact nt_nI (by omega)
  obtain ⟨i, hi, ei⟩ := natOf (n := 30) hM.2.2.2.2.1 rfl (by decide)
  have hi2 : nSh M = i := by unfold nSh; rw [ei]; exact nt_nI (by omega)
  refine g_aload_n hC dX5_addSheet_0 rfl ?_
  refine g_get hC rfl rO rfl kl_X5 1 (by decide) kf_X5_68 rfl rfl dX5_addSheet_1 ?_
  refine g_iconst (v := 2) hC dX5_addSheet_4 (by decide) ?_
  refine g_icmp_ge (tgt := 11) hC dX5_addSheet_5 (by decide) (fun c5 => ?_) (fun c5 => ?_)
  · refine g_iload_n hC dX5_addSheet_11 rfl ?_
    refine g_iconst (v := (-1)) hC dX5_addSheet_12 (by decide) ?_
    refine g_icmp_eq (tgt := 29) hC dX5_addSheet_13 (by decide) (fun c13 => ?_) (fun c13 => ?_)
    · refine g_aload_n hC dX5_addSheet_29 rfl ?_
      refine g_get hC rfl rO rfl kl_X5 11 (by decide) kf_X5_99 rfl rfl dX5_addSheet_30 ?_
      refine g_bipush (v := 30) hC dX5_addSheet_33 (by decide) ?_
      refine g_icmp_ne (tgt := 41) hC dX5_addSheet_35 (by decide) (fun c35 => ?_) (fun c35 => ?_)
      · have hi9 : i < 30 := by
          rcases Nat.lt_or_ge i 30 with q | q
          · exact q
          · exact absurd (by rw [ei, show i = 30 by omega]; rfl) c35
        refine g_aload_n hC dX5_addSheet_41 rfl ?_
        refine g_get hC rfl rO rfl kl_X5 12 (by decide) kf_X5_38 rfl rfl dX5_addSheet_42 ?_
        refine g_aload_n hC dX5_addSheet_45 rfl ?_
        refine g_get hC rfl rO rfl kl_X5 11 (by decide) kf_X5_99 rfl rfl dX5_addSheet_46 ?_
        refine g_aload_n hC dX5_addSheet_49 rfl ?_
        refine g_get hC rfl rO rfl kl_X5 1 (by decide) kf_X5_68 rfl rfl dX5_addSheet_50 ?_
        refine g_iast hC rfl rA1008 i ei (by omega) (by decide) dX5_addSheet_53 (fun en25 hen25 => ?_)
        replace hen25 := rQ1008 hen25
        obtain ⟨M25, hM25, hen25⟩ := hen25
        subst hen25
        refine g_iconst (v := 0) hC dX5_addSheet_54 (by decide) ?_
        refine g_istore hC dX5_addSheet_55 (by decide) ?_
        have lp : ∀ (r : Nat) (k : Nat) (M1 : rM2), k + r = n → M1 = cp2 (up2 M 7 i (M 20 1)) 8 (10 * i) k → GO l X b0 Z 0 0 lo (enR X lo M1 T e0) 57 [(0, .ref (lo 1000)), (1, .int iv), (2, .int x), (3, .int y), (4, .int (nI k))] [] := by
          intro r
          induction r with
          | zero =>
            intro k M1 hk hM1
            have hkn : k = n := by omega
            subst hkn
            refine g_iload hC dX5_addSheet_57 rfl ?_
            refine g_aload_n hC dX5_addSheet_59 rfl ?_
            refine g_get hC rfl rO rfl kl_X5 1 (by decide) kf_X5_68 rfl rfl dX5_addSheet_60 ?_
            refine g_icmp_ge (tgt := 94) hC dX5_addSheet_63 (by decide) (fun c63 => ?_) (fun c63 => absurd (by rw [hM1]; show M 20 1 ≤ _; rw [en]; exact nI_le (by omega) (by omega)) c63)
            refine g_aload_n hC dX5_addSheet_94 rfl ?_
            refine g_get hC rfl rO rfl kl_X5 14 (by decide) kf_X5_44 rfl rfl dX5_addSheet_95 ?_
            refine g_aload_n hC dX5_addSheet_98 rfl ?_
            refine g_get hC rfl rO rfl kl_X5 11 (by decide) kf_X5_99 rfl rfl dX5_addSheet_99 ?_
            refine g_iload_n hC dX5_addSheet_102 rfl ?_
            refine g_iast hC rfl rA1010 i (by rw [hM1]; exact ei) (by omega) (by decide) dX5_addSheet_103 (fun en26 hen26 => ?_)
            replace hen26 := rQ1010 hen26
            obtain ⟨M26, hM26, hen26⟩ := hen26
            subst hen26
            refine g_aload_n hC dX5_addSheet_104 rfl ?_
            refine g_get hC rfl rO rfl kl_X5 15 (by decide) kf_X5_47 rfl rfl dX5_addSheet_105 ?_
            refine g_aload_n hC dX5_addSheet_108 rfl ?_
            refine g_get hC rfl rO rfl kl_X5 11 (by decide) kf_X5_99 rfl rfl dX5_addSheet_109 ?_
            refine g_iload_n hC dX5_addSheet_112 rfl ?_
            refine g_iast hC rfl rA1011 i (by rw [hM26, hM1]; exact ei) (by omega) (by decide) dX5_addSheet_113 (fun en27 hen27 => ?_)
            replace hen27 := rQ1011 hen27
            obtain ⟨M27, hM27, hen27⟩ := hen27
            subst hen27
            refine g_aload_n hC dX5_addSheet_114 rfl ?_
            refine g_get hC rfl rO rfl kl_X5 16 (by decide) kf_X5_50 rfl rfl dX5_addSheet_115 ?_
            refine g_aload_n hC dX5_addSheet_118 rfl ?_
            refine g_get hC rfl rO rfl kl_X5 11 (by decide) kf_X5_99 rfl rfl dX5_addSheet_119 ?_
            refine g_iload_n hC dX5_addSheet_122 rfl ?_
            refine g_iast hC rfl rA1012 i (by rw [hM27, hM26, hM1]; exact ei) (by omega) (by decide) dX5_addSheet_123 (fun en28 hen28 => ?_)
            replace hen28 := rQ1012 hen28
            obtain ⟨M28, hM28, hen28⟩ := hen28
            subst hen28
            refine g_aload_n hC dX5_addSheet_124 rfl ?_
            refine g_get hC rfl rO rfl kl_X5 17 (by decide) kf_X5_53 rfl rfl dX5_addSheet_125 ?_
            refine g_aload_n hC dX5_addSheet_128 rfl ?_
            refine g_get hC rfl rO rfl kl_X5 11 (by decide) kf_X5_99 rfl rfl dX5_addSheet_129 ?_
            refine g_iconst (v := 0) hC dX5_addSheet_132 (by decide) ?_
            refine g_iast hC rfl rA1013 i (by rw [hM28, hM27, hM26, hM1]; exact ei) (by omega) (by decide) dX5_addSheet_133 (fun en29 hen29 => ?_)
            replace hen29 := rQ1013 hen29
            obtain ⟨M29, hM29, hen29⟩ := hen29
            subst hen29
            refine g_aload_n hC dX5_addSheet_134 rfl ?_
            refine g_get hC rfl rO rfl kl_X5 18 (by decide) kf_X5_56 rfl rfl dX5_addSheet_135 ?_
            refine g_aload_n hC dX5_addSheet_138 rfl ?_
            refine g_get hC rfl rO rfl kl_X5 11 (by decide) kf_X5_99 rfl rfl dX5_addSheet_139 ?_
            refine g_sipush (v := 9999) hC dX5_addSheet_142 (by decide) ?_
            refine g_iast hC rfl rA1014 i (by rw [hM29, hM28, hM27, hM26, hM1]; exact ei) (by omega) (by decide) dX5_addSheet_145 (fun en30 hen30 => ?_)
            replace hen30 := rQ1014 hen30
            obtain ⟨M30, hM30, hen30⟩ := hen30
            subst hen30
            refine g_aload_n hC dX5_addSheet_146 rfl ?_
            refine g_dup hC dX5_addSheet_147 rfl ?_
            refine g_get hC rfl rO rfl kl_X5 11 (by decide) kf_X5_99 rfl rfl dX5_addSheet_148 ?_
            refine g_iconst (v := 1) hC dX5_addSheet_151 (by decide) ?_
            refine g_iadd hC dX5_addSheet_152 ?_
            refine g_put (ty := .int) hC rfl rO rfl kl_X5 11 (by decide) kf_X5_99 rfl tyX5 tyX5_ok nmX5 rfl (by decide +kernel) rfl rfl (Nat.le_of_ble_eq_true rfl) dX5_addSheet_153 (fun en31 hen31 => ?_)
            replace hen31 := rP11 hen31
            obtain ⟨M31, hM31, hen31⟩ := hen31
            subst hen31
            refine g_aload_n hC dX5_addSheet_156 rfl ?_
            refine g_get hC rfl rO rfl kl_X5 11 (by decide) kf_X5_99 rfl rfl dX5_addSheet_157 ?_
            refine g_iconst (v := 1) hC dX5_addSheet_160 (by decide) ?_
            refine g_isub hC dX5_addSheet_161 ?_
            refine g_ireti hR dX5_addSheet_162 rfl ?_
            clear hR hC hI
            have hP : M30 20 11 = M 20 11 := by
              rw [hM30, hM29, hM28, hM27, hM26, hM1]
              simp +decide [up2, cp2]
            subst hM31
            subst hM30
            subst hM29
            subst hM28
            subst hM27
            subst hM26
            subst hM1
            refine pRf_i ?_ ?_
            · simp +decide only [up2_self, pk_us, hP]
              grind [sp_addSheet]
            · rw [hP]
              grind [sp_addSheet, adS]
          | succ r ihlp =>
            intro k M1 hk hM1
            refine g_iload hC dX5_addSheet_57 rfl ?_
            refine g_aload_n hC dX5_addSheet_59 rfl ?_
            refine g_get hC rfl rO rfl kl_X5 1 (by decide) kf_X5_68 rfl rfl dX5_addSheet_60 ?_
            refine g_icmp_ge (tgt := 94) hC dX5_addSheet_63 (by decide) (fun c63 => absurd c63 (by rw [hM1]; show ¬ M 20 1 ≤ _; rw [en]; exact nI_ge (by omega) (by omega))) (fun c63 => ?_)
            refine g_aload_n hC dX5_addSheet_66 rfl ?_
            refine g_get hC rfl rO rfl kl_X5 13 (by decide) kf_X5_41 rfl rfl dX5_addSheet_67 ?_
            refine g_bipush (v := 10) hC dX5_addSheet_70 (by decide) ?_
            refine g_aload_n hC dX5_addSheet_72 rfl ?_
            refine g_get hC rfl rO rfl kl_X5 11 (by decide) kf_X5_99 rfl rfl dX5_addSheet_73 ?_
            refine g_imul hC dX5_addSheet_76 ?_
            refine g_iload hC dX5_addSheet_77 rfl ?_
            refine g_iadd hC dX5_addSheet_79 ?_
            refine g_aload_n hC dX5_addSheet_80 rfl ?_
            refine g_get hC rfl rO rfl kl_X5 0 (by decide) kf_X5_7 rfl rfl dX5_addSheet_81 ?_
            refine g_iload hC dX5_addSheet_84 rfl ?_
            refine g_iald hC rfl rA1001 k rfl (by omega) (by decide) dX5_addSheet_86 ?_
            refine g_iast hC rfl rA1009 (10 * i + k) (ix10 (by rw [hM1]; exact ei) rfl) (by omega) (by decide) dX5_addSheet_87 (fun en32 hen32 => ?_)
            replace hen32 := rQ1009 hen32
            obtain ⟨M32, hM32, hen32⟩ := hen32
            subst hen32
            refine g_iinc hC dX5_addSheet_88 rfl (nI_inc k) (by decide) ?_
            refine g_goto (tgt := 57) hC dX5_addSheet_91 (by decide) ?_
            exact g_lv (lv' := [(0, .ref (lo 1000)), (1, .int iv), (2, .int x), (3, .int y), (4, .int (nI (k + 1)))]) ⟨rfl, rfl, rfl, rfl, rfl, trivial⟩ (ihlp (k + 1) M32 (by omega) (by rw [hM32, hM1]; exact cp2_succ (by decide)))
        exact g_lv (lv' := [(0, .ref (lo 1000)), (1, .int iv), (2, .int x), (3, .int y), (4, .int (nI 0))]) ⟨rfl, rfl, rfl, rfl, rfl, trivial⟩ (lp n 0 M25 (by omega) (by rw [hM25, cp2_0]))
      · refine g_bipush (v := (-5)) hC dX5_addSheet_38 (by decide) ?_
        refine g_ireti hR dX5_addSheet_40 rfl ?_
        clear hR hC hI
        refine pRf_i ?_ ?_ <;> (try simp +decide only [up2_row, up2_self, pk_us]) <;> grind [sp_addSheet]
    · refine g_aload_n hC dX5_addSheet_16 rfl ?_
      refine g_iload_n hC dX5_addSheet_17 rfl ?_
      refine g_iload_n hC dX5_addSheet_18 rfl ?_
      refine g_iload_n hC dX5_addSheet_19 rfl ?_
      refine g_callV hC v_X5_isMark km_X5_78 (c_X5_isMark l X b0 lo _ _ e0 hM _ _ _) rfl rO rfl rfl rfl rfl (Nat.le_of_ble_eq_true rfl) ⟨by decide, by decide⟩ ⟨by decide, by decide⟩ dX5_addSheet_20 (kX ?_)
      refine g_if_ne (tgt := 29) hC dX5_addSheet_23 (by decide) (fun c23 => ?_) (fun c23 => ?_)
      · refine g_aload_n hC dX5_addSheet_29 rfl ?_
        refine g_get hC rfl rO rfl kl_X5 11 (by decide) kf_X5_99 rfl rfl dX5_addSheet_30 ?_
        refine g_bipush (v := 30) hC dX5_addSheet_33 (by decide) ?_
        refine g_icmp_ne (tgt := 41) hC dX5_addSheet_35 (by decide) (fun c35 => ?_) (fun c35 => ?_)
        · have hi9 : i < 30 := by
            rcases Nat.lt_or_ge i 30 with q | q
            · exact q
            · exact absurd (by rw [ei, show i = 30 by omega]; rfl) c35
          refine g_aload_n hC dX5_addSheet_41 rfl ?_
          refine g_get hC rfl rO rfl kl_X5 12 (by decide) kf_X5_38 rfl rfl dX5_addSheet_42 ?_
          refine g_aload_n hC dX5_addSheet_45 rfl ?_
          refine g_get hC rfl rO rfl kl_X5 11 (by decide) kf_X5_99 rfl rfl dX5_addSheet_46 ?_
          refine g_aload_n hC dX5_addSheet_49 rfl ?_
          refine g_get hC rfl rO rfl kl_X5 1 (by decide) kf_X5_68 rfl rfl dX5_addSheet_50 ?_
          refine g_iast hC rfl rA1008 i ei (by omega) (by decide) dX5_addSheet_53 (fun en33 hen33 => ?_)
          replace hen33 := rQ1008 hen33
          obtain ⟨M33, hM33, hen33⟩ := hen33
          subst hen33
          refine g_iconst (v := 0) hC dX5_addSheet_54 (by decide) ?_
          refine g_istore hC dX5_addSheet_55 (by decide) ?_
          have lp : ∀ (r : Nat) (k : Nat) (M1 : rM2), k + r = n → M1 = cp2 (up2 M 7 i (M 20 1)) 8 (10 * i) k → GO l X b0 Z 0 0 lo (enR X lo M1 T e0) 57 [(0, .ref (lo 1000)), (1, .int iv), (2, .int x), (3, .int y), (4, .int (nI k))] [] := by
            intro r
            induction r with
            | zero =>
              intro k M1 hk hM1
              have hkn : k = n := by omega
              subst hkn
              refine g_iload hC dX5_addSheet_57 rfl ?_
              refine g_aload_n hC dX5_addSheet_59 rfl ?_
              refine g_get hC rfl rO rfl kl_X5 1 (by decide) kf_X5_68 rfl rfl dX5_addSheet_60 ?_
              refine g_icmp_ge (tgt := 94) hC dX5_addSheet_63 (by decide) (fun c63 => ?_) (fun c63 => absurd (by rw [hM1]; show M 20 1 ≤ _; rw [en]; exact nI_le (by omega) (by omega)) c63)
              refine g_aload_n hC dX5_addSheet_94 rfl ?_
              refine g_get hC rfl rO rfl kl_X5 14 (by decide) kf_X5_44 rfl rfl dX5_addSheet_95 ?_
              refine g_aload_n hC dX5_addSheet_98 rfl ?_
              refine g_get hC rfl rO rfl kl_X5 11 (by decide) kf_X5_99 rfl rfl dX5_addSheet_99 ?_
              refine g_iload_n hC dX5_addSheet_102 rfl ?_
              refine g_iast hC rfl rA1010 i (by rw [hM1]; exact ei) (by omega) (by decide) dX5_addSheet_103 (fun en34 hen34 => ?_)
              replace hen34 := rQ1010 hen34
              obtain ⟨M34, hM34, hen34⟩ := hen34
              subst hen34
              refine g_aload_n hC dX5_addSheet_104 rfl ?_
              refine g_get hC rfl rO rfl kl_X5 15 (by decide) kf_X5_47 rfl rfl dX5_addSheet_105 ?_
              refine g_aload_n hC dX5_addSheet_108 rfl ?_
              refine g_get hC rfl rO rfl kl_X5 11 (by decide) kf_X5_99 rfl rfl dX5_addSheet_109 ?_
              refine g_iload_n hC dX5_addSheet_112 rfl ?_
              refine g_iast hC rfl rA1011 i (by rw [hM34, hM1]; exact ei) (by omega) (by decide) dX5_addSheet_113 (fun en35 hen35 => ?_)
              replace hen35 := rQ1011 hen35
              obtain ⟨M35, hM35, hen35⟩ := hen35
              subst hen35
              refine g_aload_n hC dX5_addSheet_114 rfl ?_
              refine g_get hC rfl rO rfl kl_X5 16 (by decide) kf_X5_50 rfl rfl dX5_addSheet_115 ?_
              refine g_aload_n hC dX5_addSheet_118 rfl ?_
              refine g_get hC rfl rO rfl kl_X5 11 (by decide) kf_X5_99 rfl rfl dX5_addSheet_119 ?_
              refine g_iload_n hC dX5_addSheet_122 rfl ?_
              refine g_iast hC rfl rA1012 i (by rw [hM35, hM34, hM1]; exact ei) (by omega) (by decide) dX5_addSheet_123 (fun en36 hen36 => ?_)
              replace hen36 := rQ1012 hen36
              obtain ⟨M36, hM36, hen36⟩ := hen36
              subst hen36
              refine g_aload_n hC dX5_addSheet_124 rfl ?_
              refine g_get hC rfl rO rfl kl_X5 17 (by decide) kf_X5_53 rfl rfl dX5_addSheet_125 ?_
              refine g_aload_n hC dX5_addSheet_128 rfl ?_
              refine g_get hC rfl rO rfl kl_X5 11 (by decide) kf_X5_99 rfl rfl dX5_addSheet_129 ?_
              refine g_iconst (v := 0) hC dX5_addSheet_132 (by decide) ?_
              refine g_iast hC rfl rA1013 i (by rw [hM36, hM35, hM34, hM1]; exact ei) (by omega) (by decide) dX5_addSheet_133 (fun en37 hen37 => ?_)
              replace hen37 := rQ1013 hen37
              obtain ⟨M37, hM37, hen37⟩ := hen37
              subst hen37
              refine g_aload_n hC dX5_addSheet_134 rfl ?_
              refine g_get hC rfl rO rfl kl_X5 18 (by decide) kf_X5_56 rfl rfl dX5_addSheet_135 ?_
              refine g_aload_n hC dX5_addSheet_138 rfl ?_
              refine g_get hC rfl rO rfl kl_X5 11 (by decide) kf_X5_99 rfl rfl dX5_addSheet_139 ?_
              refine g_sipush (v := 9999) hC dX5_addSheet_142 (by decide) ?_
              refine g_iast hC rfl rA1014 i (by rw [hM37, hM36, hM35, hM34, hM1]; exact ei) (by omega) (by decide) dX5_addSheet_145 (fun en38 hen38 => ?_)
              replace hen38 := rQ1014 hen38
              obtain ⟨M38, hM38, hen38⟩ := hen38
              subst hen38
              refine g_aload_n hC dX5_addSheet_146 rfl ?_
              refine g_dup hC dX5_addSheet_147 rfl ?_
              refine g_get hC rfl rO rfl kl_X5 11 (by decide) kf_X5_99 rfl rfl dX5_addSheet_148 ?_
              refine g_iconst (v := 1) hC dX5_addSheet_151 (by decide) ?_
              refine g_iadd hC dX5_addSheet_152 ?_
              refine g_put (ty := .int) hC rfl rO rfl kl_X5 11 (by decide) kf_X5_99 rfl tyX5 tyX5_ok nmX5 rfl (by decide +kernel) rfl rfl (Nat.le_of_ble_eq_true rfl) dX5_addSheet_153 (fun en39 hen39 => ?_)
              replace hen39 := rP11 hen39
              obtain ⟨M39, hM39, hen39⟩ := hen39
              subst hen39
              refine g_aload_n hC dX5_addSheet_156 rfl ?_
              refine g_get hC rfl rO rfl kl_X5 11 (by decide) kf_X5_99 rfl rfl dX5_addSheet_157 ?_
              refine g_iconst (v := 1) hC dX5_addSheet_160 (by decide) ?_
              refine g_isub hC dX5_addSheet_161 ?_
              refine g_ireti hR dX5_addSheet_162 rfl ?_
              clear hR hC hI
              have hP : M38 20 11 = M 20 11 := by
                rw [hM38, hM37, hM36, hM35, hM34, hM1]
                simp +decide [up2, cp2]
              subst hM39
              subst hM38
              subst hM37
              subst hM36
              subst hM35
              subst hM34
              subst hM1
              refine pRf_i ?_ ?_
              · simp +decide only [up2_self, pk_us, hP]
                grind [sp_addSheet]
              · rw [hP]
                grind [sp_addSheet, adS]
            | succ r ihlp =>
              intro k M1 hk hM1
              refine g_iload hC dX5_addSheet_57 rfl ?_
              refine g_aload_n hC dX5_addSheet_59 rfl ?_
              refine g_get hC rfl rO rfl kl_X5 1 (by decide) kf_X5_68 rfl rfl dX5_addSheet_60 ?_
              refine g_icmp_ge (tgt := 94) hC dX5_addSheet_63 (by decide) (fun c63 => absurd c63 (by rw [hM1]; show ¬ M 20 1 ≤ _; rw [en]; exact nI_ge (by omega) (by omega))) (fun c63 => ?_)
              refine g_aload_n hC dX5_addSheet_66 rfl ?_
              refine g_get hC rfl rO rfl kl_X5 13 (by decide) kf_X5_41 rfl rfl dX5_addSheet_67 ?_
              refine g_bipush (v := 10) hC dX5_addSheet_70 (by decide) ?_
              refine g_aload_n hC dX5_addSheet_72 rfl ?_
              refine g_get hC rfl rO rfl kl_X5 11 (by decide) kf_X5_99 rfl rfl dX5_addSheet_73 ?_
              refine g_imul hC dX5_addSheet_76 ?_
              refine g_iload hC dX5_addSheet_77 rfl ?_
              refine g_iadd hC dX5_addSheet_79 ?_
              refine g_aload_n hC dX5_addSheet_80 rfl ?_
              refine g_get hC rfl rO rfl kl_X5 0 (by decide) kf_X5_7 rfl rfl dX5_addSheet_81 ?_
              refine g_iload hC dX5_addSheet_84 rfl ?_
              refine g_iald hC rfl rA1001 k rfl (by omega) (by decide) dX5_addSheet_86 ?_
              refine g_iast hC rfl rA1009 (10 * i + k) (ix10 (by rw [hM1]; exact ei) rfl) (by omega) (by decide) dX5_addSheet_87 (fun en40 hen40 => ?_)
              replace hen40 := rQ1009 hen40
              obtain ⟨M40, hM40, hen40⟩ := hen40
              subst hen40
              refine g_iinc hC dX5_addSheet_88 rfl (nI_inc k) (by decide) ?_
              refine g_goto (tgt := 57) hC dX5_addSheet_91 (by decide) ?_
              exact g_lv (lv' := [(0, .ref (lo 1000)), (1, .int iv), (2, .int x), (3, .int y), (4, .int (nI (k + 1)))]) ⟨rfl, rfl, rfl, rfl, rfl, trivial⟩ (ihlp (k + 1) M40 (by omega) (by rw [hM40, hM1]; exact cp2_succ (by decide)))
          exact g_lv (lv' := [(0, .ref (lo 1000)), (1, .int iv), (2, .int x), (3, .int y), (4, .int (nI 0))]) ⟨rfl, rfl, rfl, rfl, rfl, trivial⟩ (lp n 0 M33 (by omega) (by rw [hM33, cp2_0]))
        · refine g_bipush (v := (-5)) hC dX5_addSheet_38 (by decide) ?_
          refine g_ireti hR dX5_addSheet_40 rfl ?_
          clear hR hC hI
          refine pRf_i ?_ ?_ <;> (try simp +decide only [up2_row, up2_self, pk_us]) <;> grind [sp_addSheet]
      · refine g_bipush (v := (-3)) hC dX5_addSheet_26 (by decide) ?_
        refine g_ireti hR dX5_addSheet_28 rfl ?_
        clear hR hC hI
        refine pRf_i ?_ ?_ <;> (try simp +decide only [up2_row, up2_self, pk_us]) <;> grind [sp_addSheet]
  · refine g_bipush (v := (-4)) hC dX5_addSheet_8 (by decide) ?_
    refine g_ireti hR dX5_addSheet_10 rfl ?_
    clear hR hC hI
    refine pRf_i ?_ ?_ <;> (try simp +decide only [up2_row, up2_self, pk_us]) <;> grind [sp_addSheet]
