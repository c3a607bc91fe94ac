set_option maxHeartbeats 4000000 in
set_option maxRecDepth 100000 in
theorem c_X4_addSheet (l : Launch) (X : gX) (b0 : Nat) (lo : gL) (L : Nat → Nat → Nat) (K C : rM3) (e0 : gE) (M : rM2) (hM : Iv M) (hs : Sm L K M) (hc : Sc C M) (iv x y : Int32) : Ct l X b0 lo (enC X lo L K C e0) yX4_addSheet cX4_addSheet 4 (some FieldType.int) (rN 3 13 97 150) [.ref (lo 0), .int iv, .int x, .int y] (pKl X lo e0 (sp_addSheet M iv x y)) := by
  refine gMet (by decide) (Nat.le_of_ble_eq_true rfl) rfl ?_
  intro Z hC hI hR
  have hs1 := hs.2.2.1
  have hs21 := hs.2.1
  have hMn := Iv_nS hM
  refine g_aload_n hC dX4_addSheet_0 rfl ?_
  refine g_get hC rfl cO rfl kl_X4 1 (by decide) kf_X4_13 rfl rfl dX4_addSheet_1 ?_
  refine g_iconst (v := 2) hC dX4_addSheet_4 (by decide) ?_
  refine g_icmp_ge (tgt := 11) hC dX4_addSheet_5 (by decide) (fun c5 => ?_) (fun c5 => ?_)
  · refine g_iload_n hC dX4_addSheet_11 rfl ?_
    refine g_iconst (v := (-1)) hC dX4_addSheet_12 (by decide) ?_
    refine g_icmp_eq (tgt := 29) hC dX4_addSheet_13 (by decide) (fun c13 => ?_) (fun c13 => ?_)
    · refine g_aload_n hC dX4_addSheet_29 rfl ?_
      refine g_get hC rfl cO rfl kl_X4 7 (by decide) kf_X4_38 rfl rfl dX4_addSheet_30 ?_
      refine g_bipush (v := 30) hC dX4_addSheet_33 (by decide) ?_
      refine g_icmp_lt (tgt := 41) hC dX4_addSheet_35 (by decide) (fun c35 => ?_) (fun c35 => ?_)
      · have hmk : iv = -1 ∨ isMk M iv x y := by
          first
            | exact Or.inl c13
            | (refine Or.inr ?_
               by_cases h : isMk M iv x y
               · exact h
               · exact absurd (if_neg h) c23)
        obtain ⟨n, hn10, enn⟩ := natOf (n := 10) (x := M 20 1) hM.1 rfl (by decide)
        have enn2 : nt (M 20 1) = n := by rw [enn]; exact nt_nI (by omega)
        obtain ⟨i, hi⟩ : ∃ i, L 2 1 = i := ⟨_, rfl⟩
        have hin : nSh M = i := hs.2.1.symm.trans hi
        have hi30 : i < 30 := by
          have hb := (Iv_nS hM).1
          rcases Nat.lt_or_ge i 30 with h | h
          · exact h
          · exact absurd c35 (by rw [hi, show i = 30 by omega]; decide)
        have h2 : (2 : Int32) ≤ M 20 1 := by rw [← hs.2.2.1]; exact c5
        have hL0 : L 2 0 ≤ 10 := by rw [hs.1]; exact (Iv_nM hM).1
        have hsp : sp_addSheet M iv x y = (M 20 11, adS M i iv x y) := by
          unfold sp_addSheet
          rw [if_neg (Int32.not_lt.mpr h2), if_pos hmk, if_neg, hin]
          rw [(Iv_nS hM).2, hin]
          exact fun z => absurd ((nI_eq (by omega) (by decide)).mp z) (by omega : ¬ i = 30)
        obtain ⟨E, hE⟩ : ∃ z : gE, z = enC X lo L K C e0 := ⟨_, rfl⟩
        have EN : ∀ r k, r < 16 → k = 200 + 16 * i + r → E k = none := fun r k hr hk => by rw [hE]; exact cNS (by omega) (by omega) hr hk
        have E0 : E 0 = some (.inr (4, oC lo L K)) := by rw [hE]; exact cO
        have E1 : E 1 = some (.inl (X.2 0, 10, .inl (K 1 0))) := by rw [hE]; exact cA1
        have E3 : E 3 = some (.inl (X.2 2, 30, .inr (.inr (.inr (.inr (qS lo i)))))) := by rw [hE, cA3, hi]
        rw [← hE]
        refine g_aload_n hC dX4_addSheet_41 rfl ?_
        refine g_get hC rfl E0 rfl kl_X4 6 (by decide) kf_X4_34 rfl rfl dX4_addSheet_42 ?_
        refine g_aload_n hC dX4_addSheet_45 rfl ?_
        refine g_get hC rfl E0 rfl kl_X4 7 (by decide) kf_X4_38 rfl rfl dX4_addSheet_46 ?_
        refine g_new (ci := 2) hC (200 + 16 * i) (EN 0 _ (by decide) rfl) rfl kl_X2 tyX2 tyX2_ok kk_X4_32 kn_X2 kz_X2 zX2 dfX2 (by rw [hC.2.2.1]; decide) (by rw [hC.2.2.1]; decide) dX4_addSheet_49 (fun a lo1 en1 hlo1 hen1 => ?_)
        have ha1 : a = lo1 (200 + 16 * i) := by rw [hlo1, lup_eq]
        have l10 : lo 0 = lo1 0 := by rw [hlo1, lup_ne (by omega)]
        have l11 : lo 1 = lo1 1 := by rw [hlo1, lup_ne (by omega)]
        have n10 : en1 0 = some (.inr (4, oC lo L K)) := by rw [hen1, eup_ne (by omega)]; exact E0
        have n11 : en1 1 = some (.inl (X.2 0, 10, .inl (K 1 0))) := by rw [hen1, eup_ne (by omega)]; exact E1
        refine g_dup hC dX4_addSheet_52 rfl ?_
        refine g_aload_n hC dX4_addSheet_53 rfl ?_
        refine g_get hC l10 n10 rfl kl_X4 0 (by decide) kf_X4_9 rfl rfl dX4_addSheet_54 ?_
        refine g_aload_n hC dX4_addSheet_57 rfl ?_
        refine g_get hC l10 n10 rfl kl_X4 1 (by decide) kf_X4_13 rfl rfl dX4_addSheet_58 ?_
        have eK : K 0 1 0 = nI n := hs.2.2.1.trans enn
        rw [eK, l11]
        refine g_callS hC v_J7_copyOf_59c91 km_X4_65 (c_copyOf l X b0 lo1 en1 1 (201 + 16 * i) n (K 1 0) n11 hn10 (by rw [hen1, eup_ne (by omega)]; exact EN 1 _ (by decide) (by omega))) rfl rfl (Nat.le_of_ble_eq_true rfl) ⟨by decide, by decide⟩ ⟨by decide, by decide⟩ dX4_addSheet_61 (fun v lo2 en2 hp => ?_)
        obtain ⟨b, g, hv, hlo2, hen2, hg⟩ := hp
        subst hv
        have ha2 : a = lo2 (200 + 16 * i) := by rw [hlo2, lup_ne (by omega)]; exact ha1
        have n2c : en2 (200 + 16 * i) = some (.inr (2, zX2)) := by rw [hen2, eup_ne (by omega), hen1, eup_eq]
        have n2f : ∀ r k, 2 ≤ r → r < 16 → k = 200 + 16 * i + r → en2 k = none := fun r k h1 hr hk => by rw [hen2, eup_ne (by omega), hen1, eup_ne (by omega)]; exact EN r k hr hk
        refine g_iload_n hC dX4_addSheet_64 rfl ?_
        refine g_iload_n hC dX4_addSheet_65 rfl ?_
        refine g_iload_n hC dX4_addSheet_66 rfl ?_
        refine g_callI hC v_X2_init km_X4_115 (c_X2_init l X b0 lo2 en2 (200 + 16 * i) (202 + 16 * i) (203 + 16 * i) a b iv x y ha2 n2c (by omega) (by omega) (by omega) (n2f 2 _ (by decide) (by decide) (by omega)) (fun z hz => n2f (3 + z) _ (by omega) (by omega) (by omega))) rfl rfl (Nat.le_of_ble_eq_true rfl) ⟨by decide, by decide⟩ ⟨by decide, by decide⟩ dX4_addSheet_67 (fun v lo3 en3 hp => ?_)
        obtain ⟨hv, hlo3, hen3, n3c, n3t, n3m⟩ := hp
        subst hv
        have hlo : ∀ j, ¬ (200 + 16 * i ≤ j ∧ j < 216 + 16 * i) → lo3 j = lo j := fun j hj => by rw [hlo3 j (by omega) (by omega), hlo2, lup_ne (by omega), hlo1, lup_ne (by omega)]
        have n3 : ∀ j, ¬ (200 + 16 * i ≤ j ∧ j < 216 + 16 * i) → en3 j = E j := fun j hj => by rw [hen3 j (by omega) (by omega) (by omega), hen2, eup_ne (by omega), hen1, eup_ne (by omega)]
        have a3 : a = lo3 (200 + 16 * i) := by rw [hlo3 _ (by omega) (by omega)]; exact ha2
        have b3 : lo3 (201 + 16 * i) = b := by rw [hlo3 _ (by omega) (by omega), hlo2, lup_eq]
        have n3b : en3 (201 + 16 * i) = some (.inl (X.2 0, n, .inl g)) := by rw [hen3 _ (by omega) (by omega) (by omega), hen2, eup_eq]
        have l30 : lo 0 = lo3 0 := (hlo 0 (by omega)).symm
        have l33 : lo 3 = lo3 3 := (hlo 3 (by omega)).symm
        have n30 : en3 0 = some (.inr (4, oC lo L K)) := (n3 0 (by omega)).trans E0
        have n33 : en3 3 = some (.inl (X.2 2, 30, .inr (.inr (.inr (.inr (qS lo i)))))) := (n3 3 (by omega)).trans E3
        refine g_aast (t0 := 2) hC l33 a3 n33 n3c rfl rfl i (by rw [hi]) (by omega) (by decide) dX4_addSheet_70 (fun en5 hen5 => ?_)
        have n50 : en5 0 = some (.inr (4, oC lo L K)) := by rw [hen5, eup_ne (by decide)]; exact n30
        refine g_aload_n hC dX4_addSheet_71 rfl ?_
        refine g_dup hC dX4_addSheet_72 rfl ?_
        refine g_get hC l30 n50 rfl kl_X4 7 (by decide) kf_X4_38 rfl rfl dX4_addSheet_73 ?_
        refine g_iconst (v := 1) hC dX4_addSheet_76 (by decide) ?_
        refine g_iadd hC dX4_addSheet_77 ?_
        refine g_put (ty := .int) hC l30 n50 rfl kl_X4 7 (by decide) kf_X4_38 rfl tyX4 tyX4_ok nmX4 rfl (by decide +kernel) rfl rfl (Nat.le_of_ble_eq_true rfl) dX4_addSheet_78 (fun en6 hen6 => ?_)
        have n60 : en6 0 = some (.inr (4, (oC lo L K).set 7 (.int (nI (L 2 1) + 1)))) := by rw [hen6, eup_eq]
        refine g_aload_n hC dX4_addSheet_81 rfl ?_
        refine g_get hC l30 n60 rfl kl_X4 7 (by decide) kf_X4_38 rfl rfl dX4_addSheet_82 ?_
        refine g_iconst (v := 1) hC dX4_addSheet_85 (by decide) ?_
        refine g_isub hC dX4_addSheet_86 ?_
        refine g_widen (k := 13) (n := 97) (by decide) (by decide) ?_
        refine g_less (lo1 := lo3) (en1 := enC X lo3 (lS L i n) (kS K i g iv x y) (cSn C i) e0) (fun k e h => ⟨enC_addS hi hi30 hL0 hlo (fun j h1 h2 h3 => ?_) ?_ ?_ ?_ ?_ ?_ ?_ k e h, rfl⟩) ?_
        · rw [hen6, eup_ne h1, hen5, eup_ne h2, n3 j h3, hE]
        · rw [n60, hi]
        · rw [hen6, eup_ne (by decide), hen5, eup_eq, a3]
        · rw [hen6, eup_ne (by omega), hen5, eup_ne (by omega), n3c, b3]
        · rw [hen6, eup_ne (by omega), hen5, eup_ne (by omega), n3b]
        · rw [hen6, eup_ne (by omega), hen5, eup_ne (by omega), n3t]
        · intro z hz
          rw [hen6, eup_ne (by omega), hen5, eup_ne (by omega), n3m z hz]
        refine g_ireti hR dX4_addSheet_87 rfl ?_
        rw [hsp]
        refine ⟨fun k hk => hlo k (by omega), hlo 0 (by omega), _, rfl, ?_, _, _, _, rfl, ?_, ?_⟩
        · show nI (L 2 1) + 1 - 1 = M 20 11
          rw [(Iv_nS hM).2, hi, hin]; grind
        · have hh := Sm_adS (iv := iv) (x := x) (y := y) (g := g) hM hs (fun k hk => by rw [hg k (by omega)]; exact congrFun hs.2.2.2.2.2.1 k)
          rw [hin, enn2] at hh
          exact hh
        · have hh := Sc_adS (iv := iv) (x := x) (y := y) hM hc
          rw [hin] at hh
          exact hh
      · refine g_bipush (v := (-5)) hC dX4_addSheet_38 (by decide) ?_
        refine g_widen (k := 13) (n := 97) (by decide) (by decide) ?_
        refine g_ireti hR dX4_addSheet_40 rfl ?_
        clear hR hC hI
        have h30 : M 20 11 = 30 := by rw [hs21] at c35; rw [hMn.2]; have := hM.2.2.2.2.1.2; rw [hMn.2] at this; grind
        have h2 : ¬ M 20 1 < 2 := by grind
        have hmk : iv = -1 ∨ isMk M iv x y := by grind
        have hsp : sp_addSheet M iv x y = (-5, M) := by unfold sp_addSheet; rw [if_neg h2, if_pos hmk, if_pos h30]
        rw [hsp]
        exact pKl_i rfl hs hc
    · refine g_aload_n hC dX4_addSheet_16 rfl ?_
      refine g_iload_n hC dX4_addSheet_17 rfl ?_
      refine g_iload_n hC dX4_addSheet_18 rfl ?_
      refine g_iload_n hC dX4_addSheet_19 rfl ?_
      refine g_callV hC v_X4_isMarkInRow km_X4_62 (c_X4_isMarkInRow l X b0 lo L _ _ e0 M hM hs _ _ _) rfl cO rfl rfl rfl rfl (Nat.le_of_ble_eq_true rfl) ⟨by decide, by decide⟩ ⟨by decide, by decide⟩ dX4_addSheet_20 (kX ?_)
      refine g_if_ne (tgt := 29) hC dX4_addSheet_23 (by decide) (fun c23 => ?_) (fun c23 => ?_)
      · refine g_aload_n hC dX4_addSheet_29 rfl ?_
        refine g_get hC rfl cO rfl kl_X4 7 (by decide) kf_X4_38 rfl rfl dX4_addSheet_30 ?_
        refine g_bipush (v := 30) hC dX4_addSheet_33 (by decide) ?_
        refine g_icmp_lt (tgt := 41) hC dX4_addSheet_35 (by decide) (fun c35 => ?_) (fun c35 => ?_)
        · have hmk : iv = -1 ∨ isMk M iv x y := by
            first
              | exact Or.inl c13
              | (refine Or.inr ?_
                 by_cases h : isMk M iv x y
                 · exact h
                 · exact absurd (if_neg h) c23)
          obtain ⟨n, hn10, enn⟩ := natOf (n := 10) (x := M 20 1) hM.1 rfl (by decide)
          have enn2 : nt (M 20 1) = n := by rw [enn]; exact nt_nI (by omega)
          obtain ⟨i, hi⟩ : ∃ i, L 2 1 = i := ⟨_, rfl⟩
          have hin : nSh M = i := hs.2.1.symm.trans hi
          have hi30 : i < 30 := by
            have hb := (Iv_nS hM).1
            rcases Nat.lt_or_ge i 30 with h | h
            · exact h
            · exact absurd c35 (by rw [hi, show i = 30 by omega]; decide)
          have h2 : (2 : Int32) ≤ M 20 1 := by rw [← hs.2.2.1]; exact c5
          have hL0 : L 2 0 ≤ 10 := by rw [hs.1]; exact (Iv_nM hM).1
          have hsp : sp_addSheet M iv x y = (M 20 11, adS M i iv x y) := by
            unfold sp_addSheet
            rw [if_neg (Int32.not_lt.mpr h2), if_pos hmk, if_neg, hin]
            rw [(Iv_nS hM).2, hin]
            exact fun z => absurd ((nI_eq (by omega) (by decide)).mp z) (by omega : ¬ i = 30)
          obtain ⟨E, hE⟩ : ∃ z : gE, z = enC X lo L K C e0 := ⟨_, rfl⟩
          have EN : ∀ r k, r < 16 → k = 200 + 16 * i + r → E k = none := fun r k hr hk => by rw [hE]; exact cNS (by omega) (by omega) hr hk
          have E0 : E 0 = some (.inr (4, oC lo L K)) := by rw [hE]; exact cO
          have E1 : E 1 = some (.inl (X.2 0, 10, .inl (K 1 0))) := by rw [hE]; exact cA1
          have E3 : E 3 = some (.inl (X.2 2, 30, .inr (.inr (.inr (.inr (qS lo i)))))) := by rw [hE, cA3, hi]
          rw [← hE]
          refine g_aload_n hC dX4_addSheet_41 rfl ?_
          refine g_get hC rfl E0 rfl kl_X4 6 (by decide) kf_X4_34 rfl rfl dX4_addSheet_42 ?_
          refine g_aload_n hC dX4_addSheet_45 rfl ?_
          refine g_get hC rfl E0 rfl kl_X4 7 (by decide) kf_X4_38 rfl rfl dX4_addSheet_46 ?_
          refine g_new (ci := 2) hC (200 + 16 * i) (EN 0 _ (by decide) rfl) rfl kl_X2 tyX2 tyX2_ok kk_X4_32 kn_X2 kz_X2 zX2 dfX2 (by rw [hC.2.2.1]; decide) (by rw [hC.2.2.1]; decide) dX4_addSheet_49 (fun a lo1 en1 hlo1 hen1 => ?_)
          have ha1 : a = lo1 (200 + 16 * i) := by rw [hlo1, lup_eq]
          have l10 : lo 0 = lo1 0 := by rw [hlo1, lup_ne (by omega)]
          have l11 : lo 1 = lo1 1 := by rw [hlo1, lup_ne (by omega)]
          have n10 : en1 0 = some (.inr (4, oC lo L K)) := by rw [hen1, eup_ne (by omega)]; exact E0
          have n11 : en1 1 = some (.inl (X.2 0, 10, .inl (K 1 0))) := by rw [hen1, eup_ne (by omega)]; exact E1
          refine g_dup hC dX4_addSheet_52 rfl ?_
          refine g_aload_n hC dX4_addSheet_53 rfl ?_
          refine g_get hC l10 n10 rfl kl_X4 0 (by decide) kf_X4_9 rfl rfl dX4_addSheet_54 ?_
          refine g_aload_n hC dX4_addSheet_57 rfl ?_
          refine g_get hC l10 n10 rfl kl_X4 1 (by decide) kf_X4_13 rfl rfl dX4_addSheet_58 ?_
          have eK : K 0 1 0 = nI n := hs.2.2.1.trans enn
          rw [eK, l11]
          refine g_callS hC v_J7_copyOf_59c91 km_X4_65 (c_copyOf l X b0 lo1 en1 1 (201 + 16 * i) n (K 1 0) n11 hn10 (by rw [hen1, eup_ne (by omega)]; exact EN 1 _ (by decide) (by omega))) rfl rfl (Nat.le_of_ble_eq_true rfl) ⟨by decide, by decide⟩ ⟨by decide, by decide⟩ dX4_addSheet_61 (fun v lo2 en2 hp => ?_)
          obtain ⟨b, g, hv, hlo2, hen2, hg⟩ := hp
          subst hv
          have ha2 : a = lo2 (200 + 16 * i) := by rw [hlo2, lup_ne (by omega)]; exact ha1
          have n2c : en2 (200 + 16 * i) = some (.inr (2, zX2)) := by rw [hen2, eup_ne (by omega), hen1, eup_eq]
          have n2f : ∀ r k, 2 ≤ r → r < 16 → k = 200 + 16 * i + r → en2 k = none := fun r k h1 hr hk => by rw [hen2, eup_ne (by omega), hen1, eup_ne (by omega)]; exact EN r k hr hk
          refine g_iload_n hC dX4_addSheet_64 rfl ?_
          refine g_iload_n hC dX4_addSheet_65 rfl ?_
          refine g_iload_n hC dX4_addSheet_66 rfl ?_
          refine g_callI hC v_X2_init km_X4_115 (c_X2_init l X b0 lo2 en2 (200 + 16 * i) (202 + 16 * i) (203 + 16 * i) a b iv x y ha2 n2c (by omega) (by omega) (by omega) (n2f 2 _ (by decide) (by decide) (by omega)) (fun z hz => n2f (3 + z) _ (by omega) (by omega) (by omega))) rfl rfl (Nat.le_of_ble_eq_true rfl) ⟨by decide, by decide⟩ ⟨by decide, by decide⟩ dX4_addSheet_67 (fun v lo3 en3 hp => ?_)
          obtain ⟨hv, hlo3, hen3, n3c, n3t, n3m⟩ := hp
          subst hv
          have hlo : ∀ j, ¬ (200 + 16 * i ≤ j ∧ j < 216 + 16 * i) → lo3 j = lo j := fun j hj => by rw [hlo3 j (by omega) (by omega), hlo2, lup_ne (by omega), hlo1, lup_ne (by omega)]
          have n3 : ∀ j, ¬ (200 + 16 * i ≤ j ∧ j < 216 + 16 * i) → en3 j = E j := fun j hj => by rw [hen3 j (by omega) (by omega) (by omega), hen2, eup_ne (by omega), hen1, eup_ne (by omega)]
          have a3 : a = lo3 (200 + 16 * i) := by rw [hlo3 _ (by omega) (by omega)]; exact ha2
          have b3 : lo3 (201 + 16 * i) = b := by rw [hlo3 _ (by omega) (by omega), hlo2, lup_eq]
          have n3b : en3 (201 + 16 * i) = some (.inl (X.2 0, n, .inl g)) := by rw [hen3 _ (by omega) (by omega) (by omega), hen2, eup_eq]
          have l30 : lo 0 = lo3 0 := (hlo 0 (by omega)).symm
          have l33 : lo 3 = lo3 3 := (hlo 3 (by omega)).symm
          have n30 : en3 0 = some (.inr (4, oC lo L K)) := (n3 0 (by omega)).trans E0
          have n33 : en3 3 = some (.inl (X.2 2, 30, .inr (.inr (.inr (.inr (qS lo i)))))) := (n3 3 (by omega)).trans E3
          refine g_aast (t0 := 2) hC l33 a3 n33 n3c rfl rfl i (by rw [hi]) (by omega) (by decide) dX4_addSheet_70 (fun en5 hen5 => ?_)
          have n50 : en5 0 = some (.inr (4, oC lo L K)) := by rw [hen5, eup_ne (by decide)]; exact n30
          refine g_aload_n hC dX4_addSheet_71 rfl ?_
          refine g_dup hC dX4_addSheet_72 rfl ?_
          refine g_get hC l30 n50 rfl kl_X4 7 (by decide) kf_X4_38 rfl rfl dX4_addSheet_73 ?_
          refine g_iconst (v := 1) hC dX4_addSheet_76 (by decide) ?_
          refine g_iadd hC dX4_addSheet_77 ?_
          refine g_put (ty := .int) hC l30 n50 rfl kl_X4 7 (by decide) kf_X4_38 rfl tyX4 tyX4_ok nmX4 rfl (by decide +kernel) rfl rfl (Nat.le_of_ble_eq_true rfl) dX4_addSheet_78 (fun en6 hen6 => ?_)
          have n60 : en6 0 = some (.inr (4, (oC lo L K).set 7 (.int (nI (L 2 1) + 1)))) := by rw [hen6, eup_eq]
          refine g_aload_n hC dX4_addSheet_81 rfl ?_
          refine g_get hC l30 n60 rfl kl_X4 7 (by decide) kf_X4_38 rfl rfl dX4_addSheet_82 ?_
          refine g_iconst (v := 1) hC dX4_addSheet_85 (by decide) ?_
          refine g_isub hC dX4_addSheet_86 ?_
          refine g_widen (k := 13) (n := 97) (by decide) (by decide) ?_
          refine g_less (lo1 := lo3) (en1 := enC X lo3 (lS L i n) (kS K i g iv x y) (cSn C i) e0) (fun k e h => ⟨enC_addS hi hi30 hL0 hlo (fun j h1 h2 h3 => ?_) ?_ ?_ ?_ ?_ ?_ ?_ k e h, rfl⟩) ?_
          · rw [hen6, eup_ne h1, hen5, eup_ne h2, n3 j h3, hE]
          · rw [n60, hi]
          · rw [hen6, eup_ne (by decide), hen5, eup_eq, a3]
          · rw [hen6, eup_ne (by omega), hen5, eup_ne (by omega), n3c, b3]
          · rw [hen6, eup_ne (by omega), hen5, eup_ne (by omega), n3b]
          · rw [hen6, eup_ne (by omega), hen5, eup_ne (by omega), n3t]
          · intro z hz
            rw [hen6, eup_ne (by omega), hen5, eup_ne (by omega), n3m z hz]
          refine g_ireti hR dX4_addSheet_87 rfl ?_
          rw [hsp]
          refine ⟨fun k hk => hlo k (by omega), hlo 0 (by omega), _, rfl, ?_, _, _, _, rfl, ?_, ?_⟩
          · show nI (L 2 1) + 1 - 1 = M 20 11
            rw [(Iv_nS hM).2, hi, hin]; grind
          · have hh := Sm_adS (iv := iv) (x := x) (y := y) (g := g) hM hs (fun k hk => by rw [hg k (by omega)]; exact congrFun hs.2.2.2.2.2.1 k)
            rw [hin, enn2] at hh
            exact hh
          · have hh := Sc_adS (iv := iv) (x := x) (y := y) hM hc
            rw [hin] at hh
            exact hh
        · refine g_bipush (v := (-5)) hC dX4_addSheet_38 (by decide) ?_
          refine g_widen (k := 13) (n := 97) (by decide) (by decide) ?_
          refine g_ireti hR dX4_addSheet_40 rfl ?_
          clear hR hC hI
          have h30 : M 20 11 = 30 := by rw [hs21] at c35; rw [hMn.2]; have := hM.2.2.2.2.1.2; rw [hMn.2] at this; grind
          have h2 : ¬ M 20 1 < 2 := by grind
          have hmk : iv = -1 ∨ isMk M iv x y := by grind
          have hsp : sp_addSheet M iv x y = (-5, M) := by unfold sp_addSheet; rw [if_neg h2, if_pos hmk, if_pos h30]
          rw [hsp]
          exact pKl_i rfl hs hc
      · refine g_bipush (v := (-3)) hC dX4_addSheet_26 (by decide) ?_
        refine g_widen (k := 13) (n := 97) (by decide) (by decide) ?_
        refine g_ireti hR dX4_addSheet_28 rfl ?_
        clear hR hC hI
        have hsp : sp_addSheet M iv x y = (-3, M) := by grind [sp_addSheet]
        rw [hsp]
        exact pKl_i rfl hs hc
  · refine g_bipush (v := (-4)) hC dX4_addSheet_8 (by decide) ?_
    refine g_widen (k := 13) (n := 97) (by decide) (by decide) ?_
    refine g_ireti hR dX4_addSheet_10 rfl ?_
    clear hR hC hI
    have hsp : sp_addSheet M iv x y = (-4, M) := by grind [sp_addSheet]
    rw [hsp]
    exact pKl_i rfl hs hc

