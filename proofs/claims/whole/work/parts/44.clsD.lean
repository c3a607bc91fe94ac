/-! ===== the class: twins ===== -/
theorem abs_ap {a b : Int32} (ha : inR 0 a 450) (hb : inR 0 b 450) : (if 0 ≤ a - b then a - b else 0 - (a - b)) = ap a b := by grind [ap]
theorem gdF_R {A B : Nat → Int32} : ∀ {n : Nat}, (∀ k, k < n → inR 0 (A k) 450 ∧ inR 0 (B k) 450) → inR 0 (gdF A B n) 450
  | 0, _ => by simp only [gdF]; decide
  | n + 1, h => by
    have ih := gdF_R (A := A) (B := B) (n := n) (fun k hk => h k (by omega))
    have h1 := ap_R (h n (by omega)).1 (h n (by omega)).2
    unfold gdF
    split <;> assumption
theorem gdM_R {M : rM2} (hM : Iv M) {a b : Nat} (ha : a < nMo M) (hb : b < nMo M) (he : nt (M 1 a) = nt (M 1 b)) : inR 0 (gdM M a b) 450 := gdF_R (fun k hk => by
  have h1 := (hM.2.2.2.2.2.2.1 a ha).2.2.2.1 k hk
  have h2 := (hM.2.2.2.2.2.2.1 b hb).2.2.2.1 k (by rw [← he]; exact hk)
  exact ⟨⟨by grind, h1.2⟩, ⟨by grind, h2.2⟩⟩)
theorem mx3 (u v w : Int32) : (if w < (if v < u then u else v) then (if v < u then u else v) else w) = mx u (mx v w) := by
  unfold mx
  grind
theorem gdF_s {A B : Nat → Int32} {k : Nat} : gdF A B (k + 1) = if gdF A B k < ap (A k) (B k) then ap (A k) (B k) else gdF A B k := rfl

set_option maxHeartbeats 4000000 in
set_option maxRecDepth 100000 in
theorem c_X4_greatestSpacingDifference (l : Launch) (X : gX) (b0 : Nat) (lo : gL) (L : Nat → Nat → Nat) (K C : rM3) (e0 : gE) (M : rM2) (hM : Iv M) (hs : Sm L K M) (a b : Nat) (ha : a < nMo M) (hb : b < nMo M)  : Ct l X b0 lo (enC X lo L K C e0) yX4_greatestSpacingDifference cX4_greatestSpacingDifference 5 (some FieldType.int) (rM 1 21) [.ref (lo (100 + 4 * a)), .ref (lo (100 + 4 * b))] (pX (.int (gdF (fun k => M 2 (10 * a + k)) (fun k => M 2 (10 * b + k)) (min (nt (M 1 a)) (nt (M 1 b))))) lo (enC X lo L K C e0)) := by
  refine gMet (by decide) (Nat.le_of_ble_eq_true rfl) rfl ?_
  intro Z hC hI hR
  have ha1 : a < L 2 0 := by rw [hs.1]; exact ha
  have hb1 : b < L 2 0 := by rw [hs.1]; exact hb
  have hN : L 2 0 ≤ 10 := by rw [hs.1]; exact (Iv_nM hM).1
  have ha25 : a < 25 := by omega
  have hb25 : b < 25 := by omega
  obtain ⟨n, hn3, hn10, en, en2⟩ := Iv_mo hM ha
  obtain ⟨m, hm3, hm10, em, em2⟩ := Iv_mo hM hb
  obtain ⟨a1, a2, a3, a4, a5, a6⟩ := hs.mo ha
  obtain ⟨b1, b2, b3, b4, b5, b6⟩ := hs.mo hb
  refine g_aload_n hC dX4_greatestSpacingDifference_0 rfl ?_
  refine g_get hC rfl (cM ha1 ha25) rfl kl_X1 0 (by decide) kf_X4_173 rfl rfl dX4_greatestSpacingDifference_1 ?_
  refine g_alenI hC rfl (cM1 ha1 ha25) dX4_greatestSpacingDifference_4 ?_
  refine g_aload_n hC dX4_greatestSpacingDifference_5 rfl ?_
  refine g_get hC rfl (cM hb1 hb25) rfl kl_X1 0 (by decide) kf_X4_173 rfl rfl dX4_greatestSpacingDifference_6 ?_
  refine g_alenI hC rfl (cM1 hb1 hb25) dX4_greatestSpacingDifference_9 ?_
  refine g_mmin hC km_X4_179 ⟨by decide, Nat.le_of_ble_eq_true rfl⟩ ⟨Nat.le_of_ble_eq_true rfl, Nat.le_of_ble_eq_true rfl⟩ dX4_greatestSpacingDifference_10 ?_
  refine g_val (y := nI (min n m)) (by
    rw [a1, b1, en2, em2]
    have h1 : (nI m < nI n) ↔ m < n := nI_ltI (by omega) (by omega)
    by_cases h2 : m < n
    · rw [if_pos (h1.mpr h2), Nat.min_eq_right (by omega)]
    · rw [if_neg (fun z => h2 (h1.mp z)), Nat.min_eq_left (by omega)]) ?_
  refine g_istore_n hC dX4_greatestSpacingDifference_13 (by decide) ?_
  refine g_iconst (v := 0) hC dX4_greatestSpacingDifference_14 (by decide) ?_
  refine g_istore_n hC dX4_greatestSpacingDifference_15 (by decide) ?_
  refine g_iconst (v := 0) hC dX4_greatestSpacingDifference_16 (by decide) ?_
  refine g_istore hC dX4_greatestSpacingDifference_17 (by decide) ?_
  have lg : ∀ (r : Nat) (k : Nat), k + r = min n m → GO l X b0 Z 0 0 lo (enC X lo L K C e0) 19 [(0, .ref (lo (100 + 4 * a))), (1, .ref (lo (100 + 4 * b))), (2, .int (nI (min n m))), (3, .int (gdF (fun k => M 2 (10 * a + k)) (fun k => M 2 (10 * b + k)) k)), (4, .int (nI k))] [] := by
    intro r
    induction r with
    | zero =>
      intro k hk
      have hk8 : k = min n m := by omega
      subst hk8
      refine g_iload hC dX4_greatestSpacingDifference_19 rfl ?_
      refine g_iload_n hC dX4_greatestSpacingDifference_21 rfl ?_
      refine g_icmp_ge (tgt := 54) hC dX4_greatestSpacingDifference_22 (by decide) (fun c22 => ?_) (fun c22 => absurd (nI_le (by omega) (by omega)) c22)
      refine g_iload_n hC dX4_greatestSpacingDifference_54 rfl ?_
      refine g_ireti hR dX4_greatestSpacingDifference_55 rfl ?_
      clear hR hC hI
      refine pXi ?_
      rw [en2, em2]
    | succ r ihlg =>
      intro k hk
      refine g_iload hC dX4_greatestSpacingDifference_19 rfl ?_
      refine g_iload_n hC dX4_greatestSpacingDifference_21 rfl ?_
      refine g_icmp_ge (tgt := 54) hC dX4_greatestSpacingDifference_22 (by decide) (fun c22 => absurd c22 (nI_ge (by omega) (by omega))) (fun c22 => ?_)
      refine g_iload_n hC dX4_greatestSpacingDifference_25 rfl ?_
      refine g_aload_n hC dX4_greatestSpacingDifference_26 rfl ?_
      refine g_get hC rfl (cM ha1 ha25) rfl kl_X1 0 (by decide) kf_X4_173 rfl rfl dX4_greatestSpacingDifference_27 ?_
      refine g_iload hC dX4_greatestSpacingDifference_30 rfl ?_
      refine g_iald hC rfl (cM1 ha1 ha25) k rfl (by omega) (by omega) dX4_greatestSpacingDifference_32 ?_
      refine g_aload_n hC dX4_greatestSpacingDifference_33 rfl ?_
      refine g_get hC rfl (cM hb1 hb25) rfl kl_X1 0 (by decide) kf_X4_173 rfl rfl dX4_greatestSpacingDifference_34 ?_
      refine g_iload hC dX4_greatestSpacingDifference_37 rfl ?_
      refine g_iald hC rfl (cM1 hb1 hb25) k rfl (by omega) (by omega) dX4_greatestSpacingDifference_39 ?_
      refine g_isub hC dX4_greatestSpacingDifference_40 ?_
      refine g_mabs hC km_X4_98 ⟨by decide, Nat.le_of_ble_eq_true rfl⟩ ⟨Nat.le_of_ble_eq_true rfl, Nat.le_of_ble_eq_true rfl⟩ dX4_greatestSpacingDifference_41 ?_
      refine g_mmax hC km_X4_111 ⟨by decide, Nat.le_of_ble_eq_true rfl⟩ ⟨Nat.le_of_ble_eq_true rfl, Nat.le_of_ble_eq_true rfl⟩ dX4_greatestSpacingDifference_44 ?_
      refine g_val (y := gdF (fun k => M 2 (10 * a + k)) (fun k => M 2 (10 * b + k)) (k + 1)) (by
        have r1 := (hM.2.2.2.2.2.2.1 a ha).2.2.2.1 k (by omega)
        have r2 := (hM.2.2.2.2.2.2.1 b hb).2.2.2.1 k (by omega)
        rw [a5 k (by omega), b5 k (by omega), abs_ap ⟨by grind, r1.2⟩ ⟨by grind, r2.2⟩]
        rfl) ?_
      refine g_istore_n hC dX4_greatestSpacingDifference_47 (by decide) ?_
      refine g_iinc hC dX4_greatestSpacingDifference_48 rfl (nI_inc k) (by decide) ?_
      refine g_goto (tgt := 19) hC dX4_greatestSpacingDifference_51 (by decide) ?_
      exact g_lv (lv' := [(0, .ref (lo (100 + 4 * a))), (1, .ref (lo (100 + 4 * b))), (2, .int (nI (min n m))), (3, .int (gdF (fun k => M 2 (10 * a + k)) (fun k => M 2 (10 * b + k)) (k + 1))), (4, .int (nI (k + 1)))]) ⟨rfl, rfl, rfl, rfl, rfl, trivial⟩ (ihlg (k + 1) (by omega))
  exact g_lv (lv' := [(0, .ref (lo (100 + 4 * a))), (1, .ref (lo (100 + 4 * b))), (2, .int (nI (min n m))), (3, .int 0), (4, .int (nI 0))]) ⟨rfl, rfl, rfl, rfl, rfl, trivial⟩ (lg (min n m) 0 (by omega))

set_option maxHeartbeats 4000000 in
set_option maxRecDepth 100000 in
theorem c_X4_couldBeTwins (l : Launch) (X : gX) (b0 : Nat) (lo : gL) (L : Nat → Nat → Nat) (K C : rM3) (e0 : gE) (M : rM2) (hM : Iv M) (hs : Sm L K M) (a b : Nat) (ha : a < nMo M) (hb : b < nMo M)  : Ct l X b0 lo (enC X lo L K C e0) yX4_couldBeTwins cX4_couldBeTwins 3 (some FieldType.boolean) (rM 2 45) [.ref (lo 0), .ref (lo (100 + 4 * a)), .ref (lo (100 + 4 * b))] (pX (.int (if twF M a b < 0 then 0 else 1)) lo (enC X lo L K C e0)) := by
  refine gMet (by decide) (Nat.le_of_ble_eq_true rfl) rfl ?_
  intro Z hC hI hR
  have ha1 : a < L 2 0 := by rw [hs.1]; exact ha
  have hb1 : b < L 2 0 := by rw [hs.1]; exact hb
  have hN : L 2 0 ≤ 10 := by rw [hs.1]; exact (Iv_nM hM).1
  have ha25 : a < 25 := by omega
  have hb25 : b < 25 := by omega
  obtain ⟨n, hn3, hn10, en, en2⟩ := Iv_mo hM ha
  obtain ⟨m, hm3, hm10, em, em2⟩ := Iv_mo hM hb
  obtain ⟨a1, a2, a3, a4, a5, a6⟩ := hs.mo ha
  obtain ⟨b1, b2, b3, b4, b5, b6⟩ := hs.mo hb
  have h2 := hs.2.2.2.1
  refine g_aload_n hC dX4_couldBeTwins_0 rfl ?_
  refine g_get hC rfl (cM ha1 ha25) rfl kl_X1 0 (by decide) kf_X4_173 rfl rfl dX4_couldBeTwins_1 ?_
  refine g_alenI hC rfl (cM1 ha1 ha25) dX4_couldBeTwins_4 ?_
  refine g_aload_n hC dX4_couldBeTwins_5 rfl ?_
  refine g_get hC rfl (cM hb1 hb25) rfl kl_X1 0 (by decide) kf_X4_173 rfl rfl dX4_couldBeTwins_6 ?_
  refine g_alenI hC rfl (cM1 hb1 hb25) dX4_couldBeTwins_9 ?_
  refine g_icmp_ne (tgt := 40) hC dX4_couldBeTwins_10 (by decide) (fun c10 => ?_) (fun c10 => ?_)
  · refine g_iconst (v := 0) hC dX4_couldBeTwins_40 (by decide) ?_
    refine g_ireti hR dX4_couldBeTwins_41 (by decide) ?_
    clear hR hC hI
    refine pXi ?_
    have hnm : (M 1 a = M 1 b) ↔ n = m := by rw [en, em]; exact nI_eq (by omega) (by omega)
    have hlm : (nI (L 0 a) = nI (L 0 b)) ↔ n = m := by rw [a1, b1, en2, em2]; exact nI_eq (by omega) (by omega)
    have hr := fun z => gdM_R hM ha hb (by rw [en2, em2]; exact z)
    have hg : n = m → gdF (fun k => M 2 (10 * a + k)) (fun k => M 2 (10 * b + k)) (min (nt (M 1 a)) (nt (M 1 b))) = gdM M a b := fun z => by unfold gdM; rw [en2, em2, ← z, Nat.min_self]
    clear a5 b5 a6 b6
    unfold twF
    grind
  · refine g_aload_n hC dX4_couldBeTwins_13 rfl ?_
    refine g_get hC rfl (cM ha1 ha25) rfl kl_X1 1 (by decide) kf_X4_176 rfl rfl dX4_couldBeTwins_14 ?_
    refine g_aload_n hC dX4_couldBeTwins_17 rfl ?_
    refine g_get hC rfl (cM hb1 hb25) rfl kl_X1 1 (by decide) kf_X4_176 rfl rfl dX4_couldBeTwins_18 ?_
    refine g_icmp_ne (tgt := 40) hC dX4_couldBeTwins_21 (by decide) (fun c21 => ?_) (fun c21 => ?_)
    · refine g_iconst (v := 0) hC dX4_couldBeTwins_40 (by decide) ?_
      refine g_ireti hR dX4_couldBeTwins_41 (by decide) ?_
      clear hR hC hI
      refine pXi ?_
      have hnm : (M 1 a = M 1 b) ↔ n = m := by rw [en, em]; exact nI_eq (by omega) (by omega)
      have hlm : (nI (L 0 a) = nI (L 0 b)) ↔ n = m := by rw [a1, b1, en2, em2]; exact nI_eq (by omega) (by omega)
      have hr := fun z => gdM_R hM ha hb (by rw [en2, em2]; exact z)
      have hg : n = m → gdF (fun k => M 2 (10 * a + k)) (fun k => M 2 (10 * b + k)) (min (nt (M 1 a)) (nt (M 1 b))) = gdM M a b := fun z => by unfold gdM; rw [en2, em2, ← z, Nat.min_self]
      clear a5 b5 a6 b6
      unfold twF
      grind
    · refine g_aload_n hC dX4_couldBeTwins_24 rfl ?_
      refine g_aload_n hC dX4_couldBeTwins_25 rfl ?_
      refine g_callS hC v_X4_greatestSpacingDifference km_X4_107 (c_X4_greatestSpacingDifference l X b0 lo L _ _ e0 M hM hs a b ha hb) rfl rfl (Nat.le_of_ble_eq_true rfl) ⟨by decide, by decide⟩ ⟨by decide, by decide⟩ dX4_couldBeTwins_26 (kX ?_)
      refine g_aload_n hC dX4_couldBeTwins_29 rfl ?_
      refine g_get hC rfl cO rfl kl_X4 2 (by decide) kf_X4_17 rfl rfl dX4_couldBeTwins_30 ?_
      refine g_icmp_gt (tgt := 40) hC dX4_couldBeTwins_33 (by decide) (fun c33 => ?_) (fun c33 => ?_)
      · refine g_iconst (v := 0) hC dX4_couldBeTwins_40 (by decide) ?_
        refine g_ireti hR dX4_couldBeTwins_41 (by decide) ?_
        clear hR hC hI
        refine pXi ?_
        have hnm : (M 1 a = M 1 b) ↔ n = m := by rw [en, em]; exact nI_eq (by omega) (by omega)
        have hlm : (nI (L 0 a) = nI (L 0 b)) ↔ n = m := by rw [a1, b1, en2, em2]; exact nI_eq (by omega) (by omega)
        have hr := fun z => gdM_R hM ha hb (by rw [en2, em2]; exact z)
        have hg : n = m → gdF (fun k => M 2 (10 * a + k)) (fun k => M 2 (10 * b + k)) (min (nt (M 1 a)) (nt (M 1 b))) = gdM M a b := fun z => by unfold gdM; rw [en2, em2, ← z, Nat.min_self]
        clear a5 b5 a6 b6
        unfold twF
        grind
      · refine g_iconst (v := 1) hC dX4_couldBeTwins_36 (by decide) ?_
        refine g_goto (tgt := 41) hC dX4_couldBeTwins_37 (by decide) ?_
        refine g_ireti hR dX4_couldBeTwins_41 (by decide) ?_
        clear hR hC hI
        refine pXi ?_
        have hnm : (M 1 a = M 1 b) ↔ n = m := by rw [en, em]; exact nI_eq (by omega) (by omega)
        have hlm : (nI (L 0 a) = nI (L 0 b)) ↔ n = m := by rw [a1, b1, en2, em2]; exact nI_eq (by omega) (by omega)
        have hr := fun z => gdM_R hM ha hb (by rw [en2, em2]; exact z)
        have hg : n = m → gdF (fun k => M 2 (10 * a + k)) (fun k => M 2 (10 * b + k)) (min (nt (M 1 a)) (nt (M 1 b))) = gdM M a b := fun z => by unfold gdM; rw [en2, em2, ← z, Nat.min_self]
        clear a5 b5 a6 b6
        unfold twF
        grind

set_option maxHeartbeats 4000000 in
set_option maxRecDepth 100000 in
theorem c_X4_areTwins (l : Launch) (X : gX) (b0 : Nat) (lo : gL) (L : Nat → Nat → Nat) (K C : rM3) (e0 : gE) (M : rM2) (hM : Iv M) (hs : Sm L K M) (hc : Sc C M) (p q : Int32) : Ct l X b0 lo (enC X lo L K C e0) yX4_areTwins cX4_areTwins 5 (some FieldType.int) (rM 3 67) [.ref (lo 0), .int p, .int q] (pKl X lo e0 (sp_areTwins M p q)) := by
  refine gMet (by decide) (Nat.le_of_ble_eq_true rfl) rfl ?_
  intro Z hC hI hR
  rcases Classical.em (isMo M p) with hp | hp
  · obtain ⟨a, ha10, rfl, ha, -⟩ := moOf hM hp
    have ea : nt (nI a) = a := nt_nI (by omega)
    have ha1 : a < L 2 0 := by rw [hs.1]; exact ha
    have ha25 : a < 25 := by omega
    have hN : L 2 0 ≤ 10 := by rw [hs.1]; exact (Iv_nM hM).1
    refine g_aload_n hC dX4_areTwins_0 rfl ?_
    refine g_iload_n hC dX4_areTwins_1 rfl ?_
    refine g_callV hC v_X4_mouldOrNull km_X4_78 (c_X4_mouldOrNull_s l X b0 lo L _ _ e0 a ha1 hN) rfl cO rfl rfl rfl rfl (Nat.le_of_ble_eq_true rfl) ⟨by decide, by decide⟩ ⟨by decide, by decide⟩ dX4_areTwins_2 (kX ?_)
    refine g_astore_n hC dX4_areTwins_5 (by decide) ?_
    rcases Classical.em (isMo M q) with hq | hq
    · obtain ⟨b, hb10, rfl, hb, -⟩ := moOf hM hq
      have eb : nt (nI b) = b := nt_nI (by omega)
      have hb1 : b < L 2 0 := by rw [hs.1]; exact hb
      have hb25 : b < 25 := by omega
      have hN : L 2 0 ≤ 10 := by rw [hs.1]; exact (Iv_nM hM).1
      refine g_aload_n hC dX4_areTwins_6 rfl ?_
      refine g_iload_n hC dX4_areTwins_7 rfl ?_
      refine g_callV hC v_X4_mouldOrNull km_X4_78 (c_X4_mouldOrNull_s l X b0 lo L _ _ e0 b hb1 hN) rfl cO rfl rfl rfl rfl (Nat.le_of_ble_eq_true rfl) ⟨by decide, by decide⟩ ⟨by decide, by decide⟩ dX4_areTwins_8 (kX ?_)
      refine g_astore hC dX4_areTwins_11 (by decide) ?_
      refine g_aload_n hC dX4_areTwins_13 rfl ?_
      refine g_ifnull hC dX4_areTwins_14 ?_
      refine g_aload hC dX4_areTwins_17 rfl ?_
      refine g_ifnonnull (tgt := 24) hC dX4_areTwins_19 (by decide) ?_
      refine g_iload_n hC dX4_areTwins_24 rfl ?_
      refine g_iload_n hC dX4_areTwins_25 rfl ?_
      refine g_icmp_ne (tgt := 32) hC dX4_areTwins_26 (by decide) (fun c26 => ?_) (fun c26 => ?_)
      · refine g_aload_n hC dX4_areTwins_32 rfl ?_
        refine g_aload_n hC dX4_areTwins_33 rfl ?_
        refine g_aload hC dX4_areTwins_34 rfl ?_
        refine g_callV hC v_X4_couldBeTwins km_X4_91 (c_X4_couldBeTwins l X b0 lo L _ _ e0 M hM hs a b ha hb) rfl cO rfl rfl rfl rfl (Nat.le_of_ble_eq_true rfl) ⟨by decide, by decide⟩ ⟨by decide, by decide⟩ dX4_areTwins_36 (kX ?_)
        refine g_if_eq (tgt := 46) hC dX4_areTwins_39 (by decide) (fun c39 => ?_) (fun c39 => ?_)
        · refine g_iconst (v := 0) hC dX4_areTwins_46 (by decide) ?_
          refine g_ireti hR dX4_areTwins_47 rfl ?_
          clear hR hC hI
          have ht : tbF M (nI a) (nI b) = 0 := by grind [tbF]
          have hsp : sp_areTwins M (nI a) (nI b) = (if twF M a b < 0 then 0 else 1, M) := by unfold sp_areTwins; rw [ht, ea, eb, if_neg (by decide)]
          rw [hsp]
          exact pKl_i (by show _ = (if twF M a b < 0 then (0 : Int32) else 1); grind) hs hc
        · refine g_iconst (v := 1) hC dX4_areTwins_42 (by decide) ?_
          refine g_goto (tgt := 47) hC dX4_areTwins_43 (by decide) ?_
          refine g_ireti hR dX4_areTwins_47 rfl ?_
          clear hR hC hI
          have ht : tbF M (nI a) (nI b) = 0 := by grind [tbF]
          have hsp : sp_areTwins M (nI a) (nI b) = (if twF M a b < 0 then 0 else 1, M) := by unfold sp_areTwins; rw [ht, ea, eb, if_neg (by decide)]
          rw [hsp]
          exact pKl_i (by show _ = (if twF M a b < 0 then (0 : Int32) else 1); grind) hs hc
      · refine g_bipush (v := (-3)) hC dX4_areTwins_29 (by decide) ?_
        refine g_ireti hR dX4_areTwins_31 rfl ?_
        clear hR hC hI
        have ht : tbF M (nI a) (nI b) = -3 := by grind [tbF]
        have hsp : sp_areTwins M (nI a) (nI b) = (-3, M) := by grind [sp_areTwins]
        rw [hsp]
        exact pKl_i rfl hs hc
    · have hqn : ¬ (0 ≤ q ∧ q < nI (L 2 0)) := fun z => hq ⟨z.1, by have h2 := z.2; rw [hs.1, ← (Iv_nM hM).2] at h2; have := hM.2.2.2.1; grind⟩
      refine g_aload_n hC dX4_areTwins_6 rfl ?_
      refine g_iload_n hC dX4_areTwins_7 rfl ?_
      refine g_callV hC v_X4_mouldOrNull km_X4_78 (c_X4_mouldOrNull_n l X b0 lo L _ _ e0 q hqn) rfl cO rfl rfl rfl rfl (Nat.le_of_ble_eq_true rfl) ⟨by decide, by decide⟩ ⟨by decide, by decide⟩ dX4_areTwins_8 (kX ?_)
      refine g_astoreN hC dX4_areTwins_11 (by decide) ?_
      refine g_aload_n hC dX4_areTwins_13 rfl ?_
      refine g_ifnull hC dX4_areTwins_14 ?_
      refine g_aloadN hC dX4_areTwins_17 rfl ?_
      refine g_ifnonnullN hC dX4_areTwins_19 ?_
      refine g_iconst (v := (-1)) hC dX4_areTwins_22 (by decide) ?_
      refine g_ireti hR dX4_areTwins_23 rfl ?_
      clear hR hC hI
      have ht : tbF M (nI a) q = -1 := by grind [tbF]
      have hsp : sp_areTwins M (nI a) q = (-1, M) := by grind [sp_areTwins]
      rw [hsp]
      exact pKl_i rfl hs hc
  · have hpn : ¬ (0 ≤ p ∧ p < nI (L 2 0)) := fun z => hp ⟨z.1, by have h2 := z.2; rw [hs.1, ← (Iv_nM hM).2] at h2; have := hM.2.2.2.1; grind⟩
    refine g_aload_n hC dX4_areTwins_0 rfl ?_
    refine g_iload_n hC dX4_areTwins_1 rfl ?_
    refine g_callV hC v_X4_mouldOrNull km_X4_78 (c_X4_mouldOrNull_n l X b0 lo L _ _ e0 p hpn) rfl cO rfl rfl rfl rfl (Nat.le_of_ble_eq_true rfl) ⟨by decide, by decide⟩ ⟨by decide, by decide⟩ dX4_areTwins_2 (kX ?_)
    refine g_astore_nN hC dX4_areTwins_5 (by decide) ?_
    rcases Classical.em (isMo M q) with hq | hq
    · obtain ⟨b, hb10, rfl, hb, -⟩ := moOf hM hq
      have eb : nt (nI b) = b := nt_nI (by omega)
      have hb1 : b < L 2 0 := by rw [hs.1]; exact hb
      have hb25 : b < 25 := by omega
      have hN : L 2 0 ≤ 10 := by rw [hs.1]; exact (Iv_nM hM).1
      refine g_aload_n hC dX4_areTwins_6 rfl ?_
      refine g_iload_n hC dX4_areTwins_7 rfl ?_
      refine g_callV hC v_X4_mouldOrNull km_X4_78 (c_X4_mouldOrNull_s l X b0 lo L _ _ e0 b hb1 hN) rfl cO rfl rfl rfl rfl (Nat.le_of_ble_eq_true rfl) ⟨by decide, by decide⟩ ⟨by decide, by decide⟩ dX4_areTwins_8 (kX ?_)
      refine g_astore hC dX4_areTwins_11 (by decide) ?_
      refine g_aload_nN hC dX4_areTwins_13 rfl ?_
      refine g_ifnullN (tgt := 22) hC dX4_areTwins_14 (by decide) ?_
      refine g_iconst (v := (-1)) hC dX4_areTwins_22 (by decide) ?_
      refine g_ireti hR dX4_areTwins_23 rfl ?_
      clear hR hC hI
      have ht : tbF M p (nI b) = -1 := by grind [tbF]
      have hsp : sp_areTwins M p (nI b) = (-1, M) := by grind [sp_areTwins]
      rw [hsp]
      exact pKl_i rfl hs hc
    · have hqn : ¬ (0 ≤ q ∧ q < nI (L 2 0)) := fun z => hq ⟨z.1, by have h2 := z.2; rw [hs.1, ← (Iv_nM hM).2] at h2; have := hM.2.2.2.1; grind⟩
      refine g_aload_n hC dX4_areTwins_6 rfl ?_
      refine g_iload_n hC dX4_areTwins_7 rfl ?_
      refine g_callV hC v_X4_mouldOrNull km_X4_78 (c_X4_mouldOrNull_n l X b0 lo L _ _ e0 q hqn) rfl cO rfl rfl rfl rfl (Nat.le_of_ble_eq_true rfl) ⟨by decide, by decide⟩ ⟨by decide, by decide⟩ dX4_areTwins_8 (kX ?_)
      refine g_astoreN hC dX4_areTwins_11 (by decide) ?_
      refine g_aload_nN hC dX4_areTwins_13 rfl ?_
      refine g_ifnullN (tgt := 22) hC dX4_areTwins_14 (by decide) ?_
      refine g_iconst (v := (-1)) hC dX4_areTwins_22 (by decide) ?_
      refine g_ireti hR dX4_areTwins_23 rfl ?_
      clear hR hC hI
      have ht : tbF M p q = -1 := by grind [tbF]
      have hsp : sp_areTwins M p q = (-1, M) := by grind [sp_areTwins]
      rw [hsp]
      exact pKl_i rfl hs hc

set_option maxHeartbeats 4000000 in
set_option maxRecDepth 100000 in
theorem c_X4_twinDifference (l : Launch) (X : gX) (b0 : Nat) (lo : gL) (L : Nat → Nat → Nat) (K C : rM3) (e0 : gE) (M : rM2) (hM : Iv M) (hs : Sm L K M) (hc : Sc C M) (p q : Int32) : Ct l X b0 lo (enC X lo L K C e0) yX4_twinDifference cX4_twinDifference 7 (some FieldType.int) (rM 3 67) [.ref (lo 0), .int p, .int q] (pKl X lo e0 (sp_twinDifference M p q)) := by
  refine gMet (by decide) (Nat.le_of_ble_eq_true rfl) rfl ?_
  intro Z hC hI hR
  rcases Classical.em (isMo M p) with hp | hp
  · obtain ⟨a, ha10, rfl, ha, -⟩ := moOf hM hp
    have ea : nt (nI a) = a := nt_nI (by omega)
    have ha1 : a < L 2 0 := by rw [hs.1]; exact ha
    have ha25 : a < 25 := by omega
    have hN : L 2 0 ≤ 10 := by rw [hs.1]; exact (Iv_nM hM).1
    refine g_aload_n hC dX4_twinDifference_0 rfl ?_
    refine g_iload_n hC dX4_twinDifference_1 rfl ?_
    refine g_callV hC v_X4_mouldOrNull km_X4_78 (c_X4_mouldOrNull_s l X b0 lo L _ _ e0 a ha1 hN) rfl cO rfl rfl rfl rfl (Nat.le_of_ble_eq_true rfl) ⟨by decide, by decide⟩ ⟨by decide, by decide⟩ dX4_twinDifference_2 (kX ?_)
    refine g_astore_n hC dX4_twinDifference_5 (by decide) ?_
    rcases Classical.em (isMo M q) with hq | hq
    · obtain ⟨b, hb10, rfl, hb, -⟩ := moOf hM hq
      have eb : nt (nI b) = b := nt_nI (by omega)
      have hb1 : b < L 2 0 := by rw [hs.1]; exact hb
      have hb25 : b < 25 := by omega
      have hN : L 2 0 ≤ 10 := by rw [hs.1]; exact (Iv_nM hM).1
      refine g_aload_n hC dX4_twinDifference_6 rfl ?_
      refine g_iload_n hC dX4_twinDifference_7 rfl ?_
      refine g_callV hC v_X4_mouldOrNull km_X4_78 (c_X4_mouldOrNull_s l X b0 lo L _ _ e0 b hb1 hN) rfl cO rfl rfl rfl rfl (Nat.le_of_ble_eq_true rfl) ⟨by decide, by decide⟩ ⟨by decide, by decide⟩ dX4_twinDifference_8 (kX ?_)
      refine g_astore hC dX4_twinDifference_11 (by decide) ?_
      refine g_aload_n hC dX4_twinDifference_13 rfl ?_
      refine g_ifnull hC dX4_twinDifference_14 ?_
      refine g_aload hC dX4_twinDifference_17 rfl ?_
      refine g_ifnonnull (tgt := 24) hC dX4_twinDifference_19 (by decide) ?_
      refine g_iload_n hC dX4_twinDifference_24 rfl ?_
      refine g_iload_n hC dX4_twinDifference_25 rfl ?_
      refine g_icmp_ne (tgt := 32) hC dX4_twinDifference_26 (by decide) (fun c26 => ?_) (fun c26 => ?_)
      · refine g_aload_n hC dX4_twinDifference_32 rfl ?_
        refine g_aload_n hC dX4_twinDifference_33 rfl ?_
        refine g_aload hC dX4_twinDifference_34 rfl ?_
        refine g_callV hC v_X4_couldBeTwins km_X4_91 (c_X4_couldBeTwins l X b0 lo L _ _ e0 M hM hs a b ha hb) rfl cO rfl rfl rfl rfl (Nat.le_of_ble_eq_true rfl) ⟨by decide, by decide⟩ ⟨by decide, by decide⟩ dX4_twinDifference_36 (kX ?_)
        refine g_if_ne (tgt := 45) hC dX4_twinDifference_39 (by decide) (fun c39 => ?_) (fun c39 => ?_)
        · refine g_aload_n hC dX4_twinDifference_45 rfl ?_
          refine g_get hC rfl (cM ha1 ha25) rfl kl_X1 3 (by decide) kf_X4_95 rfl rfl dX4_twinDifference_46 ?_
          refine g_iconst (v := 0) hC dX4_twinDifference_49 (by decide) ?_
          refine g_iald hC rfl (cM2 ha1 ha25) 0 rfl (by decide) (by decide) dX4_twinDifference_50 ?_
          refine g_aload hC dX4_twinDifference_51 rfl ?_
          refine g_get hC rfl (cM hb1 hb25) rfl kl_X1 3 (by decide) kf_X4_95 rfl rfl dX4_twinDifference_53 ?_
          refine g_iconst (v := 0) hC dX4_twinDifference_56 (by decide) ?_
          refine g_iald hC rfl (cM2 hb1 hb25) 0 rfl (by decide) (by decide) dX4_twinDifference_57 ?_
          refine g_isub hC dX4_twinDifference_58 ?_
          refine g_mabs hC km_X4_98 ⟨by decide, Nat.le_of_ble_eq_true rfl⟩ ⟨Nat.le_of_ble_eq_true rfl, Nat.le_of_ble_eq_true rfl⟩ dX4_twinDifference_59 ?_
          refine g_istore hC dX4_twinDifference_62 (by decide) ?_
          refine g_aload_n hC dX4_twinDifference_64 rfl ?_
          refine g_get hC rfl (cM ha1 ha25) rfl kl_X1 4 (by decide) kf_X4_104 rfl rfl dX4_twinDifference_65 ?_
          refine g_iconst (v := 0) hC dX4_twinDifference_68 (by decide) ?_
          refine g_iald hC rfl (cM3 ha1 ha25) 0 rfl (by decide) (by decide) dX4_twinDifference_69 ?_
          refine g_aload hC dX4_twinDifference_70 rfl ?_
          refine g_get hC rfl (cM hb1 hb25) rfl kl_X1 4 (by decide) kf_X4_104 rfl rfl dX4_twinDifference_72 ?_
          refine g_iconst (v := 0) hC dX4_twinDifference_75 (by decide) ?_
          refine g_iald hC rfl (cM3 hb1 hb25) 0 rfl (by decide) (by decide) dX4_twinDifference_76 ?_
          refine g_isub hC dX4_twinDifference_77 ?_
          refine g_mabs hC km_X4_98 ⟨by decide, Nat.le_of_ble_eq_true rfl⟩ ⟨Nat.le_of_ble_eq_true rfl, Nat.le_of_ble_eq_true rfl⟩ dX4_twinDifference_78 ?_
          refine g_istore hC dX4_twinDifference_81 (by decide) ?_
          refine g_aload_n hC dX4_twinDifference_83 rfl ?_
          refine g_aload hC dX4_twinDifference_84 rfl ?_
          refine g_callS hC v_X4_greatestSpacingDifference km_X4_107 (c_X4_greatestSpacingDifference l X b0 lo L _ _ e0 M hM hs a b ha hb) rfl rfl (Nat.le_of_ble_eq_true rfl) ⟨by decide, by decide⟩ ⟨by decide, by decide⟩ dX4_twinDifference_86 (kX ?_)
          refine g_iload hC dX4_twinDifference_89 rfl ?_
          refine g_iload hC dX4_twinDifference_91 rfl ?_
          refine g_mmax hC km_X4_111 ⟨by decide, Nat.le_of_ble_eq_true rfl⟩ ⟨Nat.le_of_ble_eq_true rfl, Nat.le_of_ble_eq_true rfl⟩ dX4_twinDifference_93 ?_
          refine g_mmax hC km_X4_111 ⟨by decide, Nat.le_of_ble_eq_true rfl⟩ ⟨Nat.le_of_ble_eq_true rfl, Nat.le_of_ble_eq_true rfl⟩ dX4_twinDifference_96 ?_
          refine g_ireti hR dX4_twinDifference_99 rfl ?_
          clear hR hC hI
          have ht : tbF M (nI a) (nI b) = 0 := by grind [tbF]
          have htw : ¬ twF M a b < 0 := fun z => c39 (if_pos z)
          have heq : twF M a b = gdM M a b ∧ nt (M 1 a) = nt (M 1 b) := by
            unfold twF at htw ⊢
            split at htw
            · rename_i h1
              split at htw
              · exact absurd (by decide) htw
              · rename_i h2
                rw [if_pos h1, if_neg h2, h1.1]
                exact ⟨rfl, rfl⟩
            · exact absurd (by decide) htw
          have hsp : sp_twinDifference M (nI a) (nI b) = (mx (ap (M 6 (6 * a)) (M 6 (6 * b))) (mx (ap (M 5 (6 * a)) (M 5 (6 * b))) (twF M a b)), M) := by unfold sp_twinDifference; rw [ht, ea, eb, if_neg (by decide), if_neg htw]
          rw [hsp]
          have hr := gdM_R hM ha hb heq.2
          have hg : gdF (fun k => M 2 (10 * a + k)) (fun k => M 2 (10 * b + k)) (min (nt (M 1 a)) (nt (M 1 b))) = gdM M a b := by unfold gdM; rw [← heq.2, Nat.min_self]
          obtain ⟨a1, a2, a3, a4, a5, a6⟩ := hs.mo ha
          obtain ⟨b1, b2, b3, b4, b5, b6⟩ := hs.mo hb
          obtain ⟨n1, hn1, hn6, en, en2⟩ := Iv_st hM ha
          obtain ⟨n1', hn1', hn6', en', en2'⟩ := Iv_st hM hb
          have q1 := a6 0 (by omega)
          have q2 := b6 0 (by omega)
          have w1 := (hM.2.2.2.2.2.2.1 a ha).2.2.2.2 0 (by omega)
          have w2 := (hM.2.2.2.2.2.2.1 b hb).2.2.2.2 0 (by omega)
          rw [Nat.add_zero] at q1 q2 w1 w2
          refine pKl_i ?_ hs hc
          show _ = mx (ap (M 6 (6 * a)) (M 6 (6 * b))) (mx (ap (M 5 (6 * a)) (M 5 (6 * b))) (twF M a b))
          rw [hg, q1.1, q1.2, q2.1, q2.2, abs_ap w1.1 w2.1, abs_ap ⟨w1.2.1, by have := w1.2.2; grind⟩ ⟨w2.2.1, by have := w2.2.2; grind⟩, heq.1]
          exact mx3 _ _ _
        · refine g_bipush (v := (-6)) hC dX4_twinDifference_42 (by decide) ?_
          refine g_ireti hR dX4_twinDifference_44 rfl ?_
          clear hR hC hI
          have ht : tbF M (nI a) (nI b) = 0 := by grind [tbF]
          have hsp : sp_twinDifference M (nI a) (nI b) = (-6, M) := by grind [sp_twinDifference]
          rw [hsp]
          exact pKl_i rfl hs hc
      · refine g_bipush (v := (-3)) hC dX4_twinDifference_29 (by decide) ?_
        refine g_ireti hR dX4_twinDifference_31 rfl ?_
        clear hR hC hI
        have ht : tbF M (nI a) (nI b) = -3 := by grind [tbF]
        have hsp : sp_twinDifference M (nI a) (nI b) = (-3, M) := by grind [sp_twinDifference]
        rw [hsp]
        exact pKl_i rfl hs hc
    · have hqn : ¬ (0 ≤ q ∧ q < nI (L 2 0)) := fun z => hq ⟨z.1, by have h2 := z.2; rw [hs.1, ← (Iv_nM hM).2] at h2; have := hM.2.2.2.1; grind⟩
      refine g_aload_n hC dX4_twinDifference_6 rfl ?_
      refine g_iload_n hC dX4_twinDifference_7 rfl ?_
      refine g_callV hC v_X4_mouldOrNull km_X4_78 (c_X4_mouldOrNull_n l X b0 lo L _ _ e0 q hqn) rfl cO rfl rfl rfl rfl (Nat.le_of_ble_eq_true rfl) ⟨by decide, by decide⟩ ⟨by decide, by decide⟩ dX4_twinDifference_8 (kX ?_)
      refine g_astoreN hC dX4_twinDifference_11 (by decide) ?_
      refine g_aload_n hC dX4_twinDifference_13 rfl ?_
      refine g_ifnull hC dX4_twinDifference_14 ?_
      refine g_aloadN hC dX4_twinDifference_17 rfl ?_
      refine g_ifnonnullN hC dX4_twinDifference_19 ?_
      refine g_iconst (v := (-1)) hC dX4_twinDifference_22 (by decide) ?_
      refine g_ireti hR dX4_twinDifference_23 rfl ?_
      clear hR hC hI
      have ht : tbF M (nI a) q = -1 := by grind [tbF]
      have hsp : sp_twinDifference M (nI a) q = (-1, M) := by grind [sp_twinDifference]
      rw [hsp]
      exact pKl_i rfl hs hc
  · have hpn : ¬ (0 ≤ p ∧ p < nI (L 2 0)) := fun z => hp ⟨z.1, by have h2 := z.2; rw [hs.1, ← (Iv_nM hM).2] at h2; have := hM.2.2.2.1; grind⟩
    refine g_aload_n hC dX4_twinDifference_0 rfl ?_
    refine g_iload_n hC dX4_twinDifference_1 rfl ?_
    refine g_callV hC v_X4_mouldOrNull km_X4_78 (c_X4_mouldOrNull_n l X b0 lo L _ _ e0 p hpn) rfl cO rfl rfl rfl rfl (Nat.le_of_ble_eq_true rfl) ⟨by decide, by decide⟩ ⟨by decide, by decide⟩ dX4_twinDifference_2 (kX ?_)
    refine g_astore_nN hC dX4_twinDifference_5 (by decide) ?_
    rcases Classical.em (isMo M q) with hq | hq
    · obtain ⟨b, hb10, rfl, hb, -⟩ := moOf hM hq
      have eb : nt (nI b) = b := nt_nI (by omega)
      have hb1 : b < L 2 0 := by rw [hs.1]; exact hb
      have hb25 : b < 25 := by omega
      have hN : L 2 0 ≤ 10 := by rw [hs.1]; exact (Iv_nM hM).1
      refine g_aload_n hC dX4_twinDifference_6 rfl ?_
      refine g_iload_n hC dX4_twinDifference_7 rfl ?_
      refine g_callV hC v_X4_mouldOrNull km_X4_78 (c_X4_mouldOrNull_s l X b0 lo L _ _ e0 b hb1 hN) rfl cO rfl rfl rfl rfl (Nat.le_of_ble_eq_true rfl) ⟨by decide, by decide⟩ ⟨by decide, by decide⟩ dX4_twinDifference_8 (kX ?_)
      refine g_astore hC dX4_twinDifference_11 (by decide) ?_
      refine g_aload_nN hC dX4_twinDifference_13 rfl ?_
      refine g_ifnullN (tgt := 22) hC dX4_twinDifference_14 (by decide) ?_
      refine g_iconst (v := (-1)) hC dX4_twinDifference_22 (by decide) ?_
      refine g_ireti hR dX4_twinDifference_23 rfl ?_
      clear hR hC hI
      have ht : tbF M p (nI b) = -1 := by grind [tbF]
      have hsp : sp_twinDifference M p (nI b) = (-1, M) := by grind [sp_twinDifference]
      rw [hsp]
      exact pKl_i rfl hs hc
    · have hqn : ¬ (0 ≤ q ∧ q < nI (L 2 0)) := fun z => hq ⟨z.1, by have h2 := z.2; rw [hs.1, ← (Iv_nM hM).2] at h2; have := hM.2.2.2.1; grind⟩
      refine g_aload_n hC dX4_twinDifference_6 rfl ?_
      refine g_iload_n hC dX4_twinDifference_7 rfl ?_
      refine g_callV hC v_X4_mouldOrNull km_X4_78 (c_X4_mouldOrNull_n l X b0 lo L _ _ e0 q hqn) rfl cO rfl rfl rfl rfl (Nat.le_of_ble_eq_true rfl) ⟨by decide, by decide⟩ ⟨by decide, by decide⟩ dX4_twinDifference_8 (kX ?_)
      refine g_astoreN hC dX4_twinDifference_11 (by decide) ?_
      refine g_aload_nN hC dX4_twinDifference_13 rfl ?_
      refine g_ifnullN (tgt := 22) hC dX4_twinDifference_14 (by decide) ?_
      refine g_iconst (v := (-1)) hC dX4_twinDifference_22 (by decide) ?_
      refine g_ireti hR dX4_twinDifference_23 rfl ?_
      clear hR hC hI
      have ht : tbF M p q = -1 := by grind [tbF]
      have hsp : sp_twinDifference M p q = (-1, M) := by grind [sp_twinDifference]
      rw [hsp]
      exact pKl_i rfl hs hc
