/-! ===== addMould, addSheet ===== -/
set_option maxHeartbeats 4000000 in
set_option maxRecDepth 100000 in
theorem c_X4_addMould (l : Launch) (X : gX) (b0 : Nat) (lo : gL) (L : Nat → Nat → Nat) (K C : rM3) (e0 : gE) (M : rM2) (hM : Iv M) (hs : Sm L K M) (hc : Sc C M) (iv x y : Int32) : Ct l X b0 lo (enC X lo L K C e0) yX4_addMould cX4_addMould 5 (some FieldType.int) (rN 3 4 28 100) [.ref (lo 0), .int iv, .int x, .int y] (pKl X lo e0 (sp_addMould M iv x y)) := by
  refine gMet (by decide) (Nat.le_of_ble_eq_true rfl) rfl ?_
  intro Z hC hI hR
  have hs1 := hs.2.2.1
  have hs20 := hs.1
  have hMn := Iv_nM hM
  refine g_aload_n hC dX4_addMould_0 rfl ?_
  refine g_get hC rfl cO rfl kl_X4 1 (by decide) kf_X4_13 rfl rfl dX4_addMould_1 ?_
  refine g_iconst (v := 3) hC dX4_addMould_4 (by decide) ?_
  refine g_icmp_ge (tgt := 11) hC dX4_addMould_5 (by decide) (fun c5 => ?_) (fun c5 => ?_)
  · refine g_aload_n hC dX4_addMould_11 rfl ?_
    refine g_iload_n hC dX4_addMould_12 rfl ?_
    refine g_iload_n hC dX4_addMould_13 rfl ?_
    refine g_iload_n hC dX4_addMould_14 rfl ?_
    refine g_callV hC v_X4_isMarkInRow km_X4_62 (c_X4_isMarkInRow l X b0 lo L _ _ e0 M hM hs _ _ _) rfl cO rfl rfl rfl rfl (Nat.le_of_ble_eq_true rfl) ⟨by decide, by decide⟩ ⟨by decide, by decide⟩ dX4_addMould_15 (kX ?_)
    refine g_if_ne (tgt := 24) hC dX4_addMould_18 (by decide) (fun c18 => ?_) (fun c18 => ?_)
    · refine g_aload_n hC dX4_addMould_24 rfl ?_
      refine g_get hC rfl cO rfl kl_X4 5 (by decide) kf_X4_29 rfl rfl dX4_addMould_25 ?_
      refine g_bipush (v := 10) hC dX4_addMould_28 (by decide) ?_
      refine g_icmp_lt (tgt := 36) hC dX4_addMould_30 (by decide) (fun c30 => ?_) (fun c30 => ?_)
      · have hmk : isMk M iv x y := by
          by_cases h : isMk M iv x y
          · exact h
          · exact absurd (if_neg h) c18
        obtain ⟨n, hn10, enn⟩ := natOf (n := 10) (x := M 20 1) hM.1 rfl (by decide)
        have enn2 : nt (M 20 1) = n := by rw [enn]; exact nt_nI (by omega)
        obtain ⟨i, hi⟩ : ∃ i, L 2 0 = i := ⟨_, rfl⟩
        have hin : nMo M = i := hs.1.symm.trans hi
        have hi10 : i < 10 := by
          have hb := (Iv_nM hM).1
          rcases Nat.lt_or_ge i 10 with h | h
          · exact h
          · exact absurd c30 (by rw [hi, show i = 10 by omega]; decide)
        have h3 : (3 : Int32) ≤ M 20 1 := by rw [← hs.2.2.1]; exact c5
        have hiv : nt iv < n := nt_lt (by rw [← enn]; have := hmk.1.2; have := hM.1.2; grind) hmk.1.1 (by omega)
        have hsp : sp_addMould M iv x y = (M 20 4, adM M i iv x y) := by
          unfold sp_addMould
          rw [if_neg (Int32.not_lt.mpr h3), if_pos hmk, if_neg, hin]
          rw [(Iv_nM hM).2, hin]
          exact fun z => absurd ((nI_eq (by omega) (by decide)).mp z) (by omega : ¬ i = 10)
        obtain ⟨E, hE⟩ : ∃ z : gE, z = enC X lo L K C e0 := ⟨_, rfl⟩
        have EN : ∀ r k, r < 4 → k = 100 + 4 * i + r → E k = none := fun r k hr hk => by rw [hE]; exact cNM (by omega) (by omega) hr hk
        have E0 : E 0 = some (.inr (4, oC lo L K)) := by rw [hE]; exact cO
        have E1 : E 1 = some (.inl (X.2 0, 10, .inl (K 1 0))) := by rw [hE]; exact cA1
        have E2 : E 2 = some (.inl (X.2 1, 10, .inr (.inr (.inr (.inr (qM lo i)))))) := by rw [hE, cA2, hi]
        rw [← hE]
        refine g_new (ci := 1) hC (100 + 4 * i) (EN 0 _ (by decide) rfl) rfl kl_X1 tyX1 tyX1_ok kk_X4_23 kn_X1 kz_X1 zX1 dfX1 (by rw [hC.2.2.1]; decide) (by rw [hC.2.2.1]; decide) dX4_addMould_36 (fun a lo1 en1 hlo1 hen1 => ?_)
        have ha1 : a = lo1 (100 + 4 * i) := by rw [hlo1, lup_eq]
        have l10 : lo 0 = lo1 0 := by rw [hlo1, lup_ne (by omega)]
        have l11 : lo 1 = lo1 1 := by rw [hlo1, lup_ne (by omega)]
        have n10 : en1 0 = some (.inr (4, oC lo L K)) := by rw [hen1, eup_ne (by omega)]; exact E0
        have n11 : en1 1 = some (.inl (X.2 0, 10, .inl (K 1 0))) := by rw [hen1, eup_ne (by omega)]; exact E1
        refine g_dup hC dX4_addMould_39 rfl ?_
        refine g_aload_n hC dX4_addMould_40 rfl ?_
        refine g_get hC l10 n10 rfl kl_X4 0 (by decide) kf_X4_9 rfl rfl dX4_addMould_41 ?_
        refine g_aload_n hC dX4_addMould_44 rfl ?_
        refine g_get hC l10 n10 rfl kl_X4 1 (by decide) kf_X4_13 rfl rfl dX4_addMould_45 ?_
        have eK : K 0 1 0 = nI n := hs.2.2.1.trans enn
        rw [eK, l11]
        refine g_callS hC v_J7_copyOf_59c91 km_X4_65 (c_copyOf l X b0 lo1 en1 1 (101 + 4 * i) n (K 1 0) n11 hn10 (by rw [hen1, eup_ne (by omega)]; exact EN 1 _ (by decide) (by omega))) rfl rfl (Nat.le_of_ble_eq_true rfl) ⟨by decide, by decide⟩ ⟨by decide, by decide⟩ dX4_addMould_48 (fun v lo2 en2 hp => ?_)
        obtain ⟨b, g, hv, hlo2, hen2, hg⟩ := hp
        subst hv
        have ha2 : a = lo2 (100 + 4 * i) := by rw [hlo2, lup_ne (by omega)]; exact ha1
        have l20 : lo 0 = lo2 0 := by rw [hlo2, lup_ne (by omega)]; exact l10
        have l21 : lo1 1 = lo2 1 := by rw [hlo2, lup_ne (by omega)]
        have n20 : en2 0 = some (.inr (4, oC lo L K)) := by rw [hen2, eup_ne (by omega)]; exact n10
        have n21 : en2 1 = some (.inl (X.2 0, 10, .inl (K 1 0))) := by rw [hen2, eup_ne (by omega)]; exact n11
        have n2c : en2 (100 + 4 * i) = some (.inr (1, zX1)) := by rw [hen2, eup_ne (by omega), hen1, eup_eq]
        refine g_iload_n hC dX4_addMould_51 rfl ?_
        refine g_aload_n hC dX4_addMould_52 rfl ?_
        refine g_get hC l20 n20 rfl kl_X4 0 (by decide) kf_X4_9 rfl rfl dX4_addMould_53 ?_
        refine g_iload_n hC dX4_addMould_56 rfl ?_
        refine g_iald hC (l11.trans l21) n21 (nt iv) (nI_nt hmk.1.1).symm (by omega) (by decide) dX4_addMould_57 ?_
        refine g_callI hC v_X1_init km_X4_71 (c_X1_init l X b0 lo2 en2 (100 + 4 * i) (102 + 4 * i) (103 + 4 * i) a b iv (K 1 0 (nt iv)) ha2 n2c (by omega) (by omega) (by omega) (by rw [hen2, eup_ne (by omega), hen1, eup_ne (by omega)]; exact EN 2 _ (by decide) (by omega)) (by rw [hen2, eup_ne (by omega), hen1, eup_ne (by omega)]; exact EN 3 _ (by decide) (by omega))) rfl rfl (Nat.le_of_ble_eq_true rfl) ⟨by decide, by decide⟩ ⟨by decide, by decide⟩ dX4_addMould_58 (fun v lo3 en3 hp => ?_)
        obtain ⟨hv, q1, q2, hlo3, hen3⟩ := hp
        subst hv
        have a3 : a = lo3 (100 + 4 * i) := by rw [hlo3, lup_ne (by omega), lup_ne (by omega)]; exact ha2
        have b3 : lo3 (101 + 4 * i) = b := by rw [hlo3, lup_ne (by omega), lup_ne (by omega), hlo2, lup_eq]
        have x3 : lo3 (102 + 4 * i) = q1 := by rw [hlo3, lup_ne (by omega), lup_eq]
        have y3 : lo3 (103 + 4 * i) = q2 := by rw [hlo3, lup_eq]
        have hlo : ∀ j, ¬ (100 + 4 * i ≤ j ∧ j < 104 + 4 * i) → lo3 j = lo j := fun j hj => by rw [hlo3, lup_ne (by omega), lup_ne (by omega), hlo2, lup_ne (by omega), hlo1, lup_ne (by omega)]
        have n3 : ∀ j, ¬ (100 + 4 * i ≤ j ∧ j < 104 + 4 * i) → en3 j = E j := fun j hj => by rw [hen3, eup_ne (by omega), eup_ne (by omega), eup_ne (by omega), hen2, eup_ne (by omega), hen1, eup_ne (by omega)]
        have n3b : en3 (101 + 4 * i) = some (.inl (X.2 0, n, .inl g)) := by rw [hen3, eup_ne (by omega), eup_ne (by omega), eup_ne (by omega), hen2, eup_eq]
        have n3x : en3 (102 + 4 * i) = some (.inl (X.2 0, 6, .inl (fun _ => 0))) := by rw [hen3, eup_ne (by omega), eup_ne (by omega), eup_eq]
        have n3y : en3 (103 + 4 * i) = some (.inl (X.2 0, 6, .inl (fun _ => 0))) := by rw [hen3, eup_ne (by omega), eup_eq]
        have n3c : en3 (100 + 4 * i) = some (.inr (1, [.ref b, .int iv, .int (K 1 0 (nt iv)), .ref (lo3 (102 + 4 * i)), .ref (lo3 (103 + 4 * i)), .int (nI 0)])) := by rw [x3, y3, hen3, eup_eq]; rfl
        refine g_astore hC dX4_addMould_61 (by decide) ?_
        refine g_aload hC dX4_addMould_63 rfl ?_
        refine g_iload_n hC dX4_addMould_65 rfl ?_
        refine g_iload_n hC dX4_addMould_66 rfl ?_
        rw [a3]
        refine g_callV hC v_X1_append km_X4_74 (c_X1_append l X b0 lo3 en3 (100 + 4 * i) (102 + 4 * i) (103 + 4 * i) 0 (.ref b) (.int iv) (.int (K 1 0 (nt iv))) (fun _ => 0) (fun _ => 0) n3c n3x n3y (by omega) (by omega) (by omega) (by decide) x y) rfl n3c rfl rfl rfl rfl (Nat.le_of_ble_eq_true rfl) ⟨by decide, by decide⟩ ⟨by decide, by decide⟩ dX4_addMould_67 (fun v lo4 en4 hp => ?_)
        obtain ⟨hv, hlo4, hen4⟩ := hp
        subst hv
        rw [hlo4]
        have n4 : ∀ j, ¬ (100 + 4 * i ≤ j ∧ j < 104 + 4 * i) → en4 j = E j := fun j hj => by rw [hen4, eup_ne (by omega), eup_ne (by omega), eup_ne (by omega)]; exact n3 j hj
        have n4c : en4 (100 + 4 * i) = some (.inr (1, [.ref b, .int iv, .int (K 1 0 (nt iv)), .ref (lo3 (102 + 4 * i)), .ref (lo3 (103 + 4 * i)), .int (nI 0 + 1)])) := by rw [hen4, eup_eq]
        have n4b : en4 (101 + 4 * i) = some (.inl (X.2 0, n, .inl g)) := by rw [hen4, eup_ne (by omega), eup_ne (by omega), eup_ne (by omega)]; exact n3b
        have n4x : en4 (102 + 4 * i) = some (.inl (X.2 0, 6, .inl (upd (fun _ => 0) 0 x))) := by rw [hen4, eup_ne (by omega), eup_ne (by omega), eup_eq]
        have n4y : en4 (103 + 4 * i) = some (.inl (X.2 0, 6, .inl (upd (fun _ => 0) 0 y))) := by rw [hen4, eup_ne (by omega), eup_eq]
        have l30 : lo 0 = lo3 0 := (hlo 0 (by omega)).symm
        have l32 : lo 2 = lo3 2 := (hlo 2 (by omega)).symm
        have n40 : en4 0 = some (.inr (4, oC lo L K)) := (n4 0 (by omega)).trans E0
        have n42 : en4 2 = some (.inl (X.2 1, 10, .inr (.inr (.inr (.inr (qM lo i)))))) := (n4 2 (by omega)).trans E2
        refine g_aload_n hC dX4_addMould_70 rfl ?_
        refine g_get hC l30 n40 rfl kl_X4 4 (by decide) kf_X4_25 rfl rfl dX4_addMould_71 ?_
        refine g_aload_n hC dX4_addMould_74 rfl ?_
        refine g_get hC l30 n40 rfl kl_X4 5 (by decide) kf_X4_29 rfl rfl dX4_addMould_75 ?_
        refine g_aload hC dX4_addMould_78 rfl ?_
        refine g_aast (t0 := 1) hC l32 rfl n42 n4c rfl rfl i (by rw [hi]) (by omega) (by decide) dX4_addMould_80 (fun en5 hen5 => ?_)
        have n50 : en5 0 = some (.inr (4, oC lo L K)) := by rw [hen5, eup_ne (by decide)]; exact n40
        refine g_aload_n hC dX4_addMould_81 rfl ?_
        refine g_dup hC dX4_addMould_82 rfl ?_
        refine g_get hC l30 n50 rfl kl_X4 5 (by decide) kf_X4_29 rfl rfl dX4_addMould_83 ?_
        refine g_iconst (v := 1) hC dX4_addMould_86 (by decide) ?_
        refine g_iadd hC dX4_addMould_87 ?_
        refine g_put (ty := .int) hC l30 n50 rfl kl_X4 5 (by decide) kf_X4_29 rfl tyX4 tyX4_ok nmX4 rfl (by decide +kernel) rfl rfl (Nat.le_of_ble_eq_true rfl) dX4_addMould_88 (fun en6 hen6 => ?_)
        have n60 : en6 0 = some (.inr (4, (oC lo L K).set 5 (.int (nI (L 2 0) + 1)))) := by rw [hen6, eup_eq]
        refine g_aload_n hC dX4_addMould_91 rfl ?_
        refine g_get hC l30 n60 rfl kl_X4 5 (by decide) kf_X4_29 rfl rfl dX4_addMould_92 ?_
        refine g_iconst (v := 1) hC dX4_addMould_95 (by decide) ?_
        refine g_isub hC dX4_addMould_96 ?_
        refine g_widen (k := 4) (n := 28) (by decide) (by decide) ?_
        refine g_less (lo1 := lo3) (en1 := enC X lo3 (lM L i n) (kM K i g iv (K 1 0 (nt iv)) x y) C e0) (fun k e h => ⟨enC_addM hi hi10 hlo (fun j h1 h2 h3 => ?_) ?_ ?_ ?_ ?_ ?_ ?_ k e h, rfl⟩) ?_
        · rw [hen6, eup_ne h1, hen5, eup_ne h2, n4 j h3, hE]
        · rw [n60, hi]
        · rw [hen6, eup_ne (by decide), hen5, eup_eq]
        · rw [hen6, eup_ne (by omega), hen5, eup_ne (by omega), n4c, b3]; rfl
        · rw [hen6, eup_ne (by omega), hen5, eup_ne (by omega), n4b]
        · rw [hen6, eup_ne (by omega), hen5, eup_ne (by omega), n4x]
        · rw [hen6, eup_ne (by omega), hen5, eup_ne (by omega), n4y]
        refine g_ireti hR dX4_addMould_97 rfl ?_
        rw [hsp]
        refine ⟨fun k hk => hlo k (by omega), hlo 0 (by omega), _, rfl, ?_, _, _, _, rfl, ?_, ?_⟩
        · show nI (L 2 0) + 1 - 1 = M 20 4
          rw [(Iv_nM hM).2, hi, hin]; grind
        · have hh := Sm_adM (iv := iv) (wd := K 1 0 (nt iv)) (x := x) (y := y) (g := g) hM hs (fun k hk => by rw [hg k (by omega)]; exact congrFun hs.2.2.2.2.2.1 k) (by omega) (congrFun hs.2.2.2.2.2.1 (nt iv))
          rw [hin, enn2] at hh
          exact hh
        · have hh := Sc_adM (iv := iv) (x := x) (y := y) hM hc
          rw [hin] at hh
          exact hh
      · refine g_bipush (v := (-5)) hC dX4_addMould_33 (by decide) ?_
        refine g_widen (k := 4) (n := 28) (by decide) (by decide) ?_
        refine g_ireti hR dX4_addMould_35 rfl ?_
        clear hR hC hI
        have h10 : M 20 4 = 10 := by rw [hs20] at c30; rw [hMn.2]; have := hM.2.2.2.1.2; rw [hMn.2] at this; grind
        have h3 : ¬ M 20 1 < 3 := by grind
        have hmk : isMk M iv x y := by grind
        have hsp : sp_addMould M iv x y = (-5, M) := by unfold sp_addMould; rw [if_neg h3, if_pos hmk, if_pos h10]
        rw [hsp]
        exact pKl_i rfl hs hc
    · refine g_bipush (v := (-3)) hC dX4_addMould_21 (by decide) ?_
      refine g_widen (k := 4) (n := 28) (by decide) (by decide) ?_
      refine g_ireti hR dX4_addMould_23 rfl ?_
      clear hR hC hI
      have hsp : sp_addMould M iv x y = (-3, M) := by grind [sp_addMould]
      rw [hsp]
      exact pKl_i rfl hs hc
  · refine g_bipush (v := (-4)) hC dX4_addMould_8 (by decide) ?_
    refine g_widen (k := 4) (n := 28) (by decide) (by decide) ?_
    refine g_ireti hR dX4_addMould_10 rfl ?_
    clear hR hC hI
    have hsp : sp_addMould M iv x y = (-4, M) := by grind [sp_addMould]
    rw [hsp]
    exact pKl_i rfl hs hc

