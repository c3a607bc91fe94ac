/-! ===== the class: order and dates ===== -/
/-- the gathered states of mould p -/
def gO (C : rM3) (M : rM2) (p : Int32) : Prop := ∀ x, x < nSh M → C 11 0 x = stG M p x
def eO (C : rM3) (M : rM2) (p : Int32) (n : Nat) : Prop := ∀ x, x < n → C 12 0 x = eaG M p x (nSh M)

set_option maxHeartbeats 4000000 in
set_option maxRecDepth 100000 in
theorem c_X4_gatherStates (l : Launch) (X : gX) (b0 : Nat) (lo : gL) (L : Nat → Nat → Nat) (K C : rM3) (e0 : gE) (M : rM2) (hM : Iv M) (hs : Sm L K M) (hc : Sc C M) (p : Int32) : Ct l X b0 lo (enC X lo L K C e0) yX4_gatherStates cX4_gatherStates 3 none (rM 6 152) [.ref (lo 0), .int p] (pV lo (fun en' => ∃ C1 : rM3, en' = enC X lo L K C1 e0 ∧ Sc C1 M ∧ gO C1 M p)) := by
  refine gMet (by decide) (Nat.le_of_ble_eq_true rfl) rfl ?_
  intro Z hC hI hR
  have hS30 := (Iv_nS hM).1
  refine g_iconst (v := 0) hC dX4_gatherStates_0 (by decide) ?_
  refine g_istore_n hC dX4_gatherStates_1 (by decide) ?_
  have lg : ∀ (r : Nat) (x : Nat) (C1 : rM3), x + r = nSh M → Sc C1 M → (∀ y, y < x → C1 11 0 y = stG M p y) → GO l X b0 Z 0 0 lo (enC X lo L K C1 e0) 2 [(0, .ref (lo 0)), (1, .int p), (2, .int (nI x))] [] := by
    intro r
    induction r with
    | zero =>
      intro x C1 hx9 hc1 hg1
      have hx8 : x = nSh M := by omega
      subst hx8
      refine g_iload_n hC dX4_gatherStates_2 rfl ?_
      refine g_aload_n hC dX4_gatherStates_3 rfl ?_
      refine g_get hC rfl cO rfl kl_X4 7 (by decide) kf_X4_38 rfl rfl dX4_gatherStates_4 ?_
      refine g_icmp_ge (tgt := 61) hC dX4_gatherStates_7 (by decide) (fun c7 => ?_) (fun c7 => absurd (by rw [hs.2.1]; exact nI_le (by omega) (by omega)) c7)
      refine g_retv hR dX4_gatherStates_61 ?_
      clear hR hC hI
      exact ⟨rfl, rfl, C1, rfl, hc1, hg1⟩
    | succ r ihlg =>
      intro x C1 hx9 hc1 hg1
      have hxn : x < nSh M := by omega
      have hx1 : x < L 2 1 := by rw [hs.2.1]; exact hxn
      have hx50 : x < 50 := by omega
      refine g_iload_n hC dX4_gatherStates_2 rfl ?_
      refine g_aload_n hC dX4_gatherStates_3 rfl ?_
      refine g_get hC rfl cO rfl kl_X4 7 (by decide) kf_X4_38 rfl rfl dX4_gatherStates_4 ?_
      refine g_icmp_ge (tgt := 61) hC dX4_gatherStates_7 (by decide) (fun c7 => absurd c7 (by rw [hs.2.1]; exact nI_ge (by omega) (by omega))) (fun c7 => ?_)
      refine g_aload_n hC dX4_gatherStates_10 rfl ?_
      refine g_get hC rfl cO rfl kl_X4 9 (by decide) kf_X4_48 rfl rfl dX4_gatherStates_11 ?_
      refine g_iload_n hC dX4_gatherStates_14 rfl ?_
      refine g_iconst (v := (-1)) hC dX4_gatherStates_15 (by decide) ?_
      refine g_iast hC rfl cA6 x rfl (by omega) (by decide) dX4_gatherStates_16 (fun en39 hen39 => ?_)
      replace hen39 := cQ6 hen39
      obtain ⟨C39, hC39, hen39⟩ := hen39
      subst hen39
      have hscA : Sc C39 M := fun j i hj hi => by
        have e : ∀ y, C39 8 (16 * j + i) y = C1 8 (16 * j + i) y := fun y => by rw [hC39, up3_row (Or.inl (by decide))]
        have h := hc1 j i hj hi
        unfold mtB at *
        rw [e 0, e 1, e 2, e 3, e 4, e 5, e 6]
        exact h
      have hgA : (∀ y, y < x → C39 11 0 y = stG M p y) ∧ C39 11 0 x = -1 := ⟨fun y hy => by rw [hC39, up3_self, pk_un (by omega)]; exact hg1 y hy, by rw [hC39, up3_self, pk_us]⟩
      refine g_iload_n hC dX4_gatherStates_17 rfl ?_
      refine g_if_lt (tgt := 55) hC dX4_gatherStates_18 (by decide) (fun c18 => ?_) (fun c18 => ?_)
      · have hscN := hscA
        have hgN : ∀ y, y < x + 1 → C39 11 0 y = stG M p y := fun y hy => by
          by_cases hyx : y = x
          · rw [hyx, hgA.2]
            unfold stG
            rw [if_neg (fun z => absurd c18 (Int32.not_lt.mpr z.1))]
          · exact hgA.1 y (by omega)
        refine g_iinc hC dX4_gatherStates_55 rfl (nI_inc x) (by decide) ?_
        refine g_goto (tgt := 2) hC dX4_gatherStates_58 (by decide) ?_
        exact g_lv (lv' := [(0, .ref (lo 0)), (1, .int p), (2, .int (nI (x + 1)))]) ⟨rfl, rfl, rfl, trivial⟩ (ihlg (x + 1) C39 (by omega) hscN hgN)
      · refine g_aload_n hC dX4_gatherStates_21 rfl ?_
        refine g_aload_n hC dX4_gatherStates_22 rfl ?_
        refine g_get hC rfl cO rfl kl_X4 6 (by decide) kf_X4_34 rfl rfl dX4_gatherStates_23 ?_
        refine g_iload_n hC dX4_gatherStates_26 rfl ?_
        refine g_aald (t0 := 2) hC rfl cA3 rfl x rfl (by omega) (by decide) (if_pos hx1) dX4_gatherStates_27 ?_
        refine g_callV hC v_X4_mouldFor km_X4_153 (c_X4_mouldFor l X b0 lo L _ _ e0 M hM hs hscA x hxn) rfl cO rfl rfl rfl rfl (Nat.le_of_ble_eq_true rfl) ⟨by decide, by decide⟩ ⟨by decide, by decide⟩ dX4_gatherStates_28 (kI ?_)
        rintro r1 en' ⟨rfl, C5, rfl, hsC5, hkC5⟩
        refine g_iload_n hC dX4_gatherStates_31 rfl ?_
        refine g_icmp_ne (tgt := 55) hC dX4_gatherStates_32 (by decide) (fun c32 => ?_) (fun c32 => ?_)
        · have hscN := hsC5
          have hgN : ∀ y, y < x + 1 → C5 11 0 y = stG M p y := fun y hy => by
            rw [hkC5 11 (by decide)]
            by_cases hyx : y = x
            · rw [hyx, hgA.2]
              unfold stG
              rw [if_neg (fun z => c32 z.2)]
            · exact hgA.1 y (by omega)
          refine g_iinc hC dX4_gatherStates_55 rfl (nI_inc x) (by decide) ?_
          refine g_goto (tgt := 2) hC dX4_gatherStates_58 (by decide) ?_
          exact g_lv (lv' := [(0, .ref (lo 0)), (1, .int p), (2, .int (nI (x + 1)))]) ⟨rfl, rfl, rfl, trivial⟩ (ihlg (x + 1) C5 (by omega) hscN hgN)
        · have hp0 : 0 ≤ p := Int32.not_lt.mp c18
          obtain ⟨a, b, ha, hmi0, hia, hfa, hso, -⟩ := aG_of (M := M) (j := x) (by rw [c32]; exact c18)
          obtain ⟨i, hi, hmi, hfi⟩ : ∃ i, i < nMo M ∧ p = nI i ∧ fb M x i = some b := ⟨a.1, hia, by rw [← c32]; exact hmi0, hfa⟩
          have hN10 := (Iv_nM hM).1
          have hi10 : i < 10 := by omega
          refine g_aload_n hC dX4_gatherStates_35 rfl ?_
          refine g_get hC rfl cO rfl kl_X4 9 (by decide) kf_X4_48 rfl rfl dX4_gatherStates_36 ?_
          refine g_iload_n hC dX4_gatherStates_39 rfl ?_
          refine g_aload_n hC dX4_gatherStates_40 rfl ?_
          refine g_aload_n hC dX4_gatherStates_41 rfl ?_
          refine g_get hC rfl cO rfl kl_X4 6 (by decide) kf_X4_34 rfl rfl dX4_gatherStates_42 ?_
          refine g_iload_n hC dX4_gatherStates_45 rfl ?_
          refine g_aald (t0 := 2) hC rfl cA3 rfl x rfl (by omega) (by decide) (if_pos hx1) dX4_gatherStates_46 ?_
          refine g_iload_n hC dX4_gatherStates_47 rfl ?_
          refine g_val hmi ?_
          refine g_callV hC v_X4_matchOf km_X4_128 (c_X4_matchOf l X b0 lo L _ _ e0 M hM hs hsC5 x i hxn hi) rfl cO rfl rfl rfl rfl (Nat.le_of_ble_eq_true rfl) ⟨by decide, by decide⟩ ⟨by decide, by decide⟩ dX4_gatherStates_48 (kW ?_)
          rintro en' ⟨C6, rfl, hsC6, hkC6, hbC6⟩
          refine g_get hC rfl (cT hx1 hx50 hi10) rfl kl_X0 6 (by decide) kf_X4_150 rfl rfl dX4_gatherStates_51 ?_
          refine g_iast hC rfl cA6 x rfl (by omega) (by decide) dX4_gatherStates_54 (fun en40 hen40 => ?_)
          replace hen40 := cQ6 hen40
          obtain ⟨C40, hC40, hen40⟩ := hen40
          subst hen40
          have hscN : Sc C40 M := fun j i2 hj hi2 => by
            have e : ∀ y, C40 8 (16 * j + i2) y = C6 8 (16 * j + i2) y := fun y => by rw [hC40, up3_row (Or.inl (by decide))]
            have h := hsC6 j i2 hj hi2
            unfold mtB at *
            rw [e 0, e 1, e 2, e 3, e 4, e 5, e 6]
            exact h
          have hgN : ∀ y, y < x + 1 → C40 11 0 y = stG M p y := fun y hy => by
            rw [hC40, up3_self]
            by_cases hyx : y = x
            · rw [hyx, pk_us]
              rw [hfi] at hbC6
              rw [hbC6.2.2.2.2.2]
              unfold stG
              rw [if_pos ⟨hp0, c32⟩, hso]
            · rw [pk_un hyx, hkC6 11 (by decide), hkC5 11 (by decide)]
              exact hgA.1 y (by omega)
          refine g_iinc hC dX4_gatherStates_55 rfl (nI_inc x) (by decide) ?_
          refine g_goto (tgt := 2) hC dX4_gatherStates_58 (by decide) ?_
          exact g_lv (lv' := [(0, .ref (lo 0)), (1, .int p), (2, .int (nI (x + 1)))]) ⟨rfl, rfl, rfl, trivial⟩ (ihlg (x + 1) C40 (by omega) hscN hgN)
  exact g_lv (lv' := [(0, .ref (lo 0)), (1, .int p), (2, .int (nI 0))]) ⟨rfl, rfl, rfl, trivial⟩ (lg (nSh M) 0 C (by omega) hc (fun y hy => absurd hy (by omega)))

set_option maxHeartbeats 4000000 in
set_option maxRecDepth 100000 in
theorem c_X4_isLowerState (l : Launch) (X : gX) (b0 : Nat) (lo : gL) (L : Nat → Nat → Nat) (K C : rM3) (e0 : gE) (M : rM2) (hM : Iv M) (hs : Sm L K M) (p : Int32) (hg : gO C M p) (a b : Nat) (ha : a < nSh M) (hb : b < nSh M) : Ct l X b0 lo (enC X lo L K C e0) yX4_isLowerState cX4_isLowerState 3 (some FieldType.boolean) (rM 0 0) [.ref (lo 0), .int (nI a), .int (nI b)] (pX (.int (if slG M p a b then 1 else 0)) lo (enC X lo L K C e0)) := by
  refine gMet (by decide) (Nat.le_of_ble_eq_true rfl) rfl ?_
  intro Z hC hI hR
  have hS30 := (Iv_nS hM).1
  have ga := hg a ha
  have gb := hg b hb
  refine g_aload_n hC dX4_isLowerState_0 rfl ?_
  refine g_get hC rfl cO rfl kl_X4 9 (by decide) kf_X4_48 rfl rfl dX4_isLowerState_1 ?_
  refine g_iload_n hC dX4_isLowerState_4 rfl ?_
  refine g_iald hC rfl cA6 a rfl (by omega) (by decide) dX4_isLowerState_5 ?_
  refine g_iconst (v := (-1)) hC dX4_isLowerState_6 (by decide) ?_
  refine g_icmp_eq (tgt := 29) hC dX4_isLowerState_7 (by decide) (fun c7 => ?_) (fun c7 => ?_)
  · refine g_iconst (v := 0) hC dX4_isLowerState_29 (by decide) ?_
    refine g_ireti hR dX4_isLowerState_30 (by decide) ?_
    clear hR hC hI
    refine pXi ?_
    clear hg hs hM
    grind
  · refine g_aload_n hC dX4_isLowerState_10 rfl ?_
    refine g_get hC rfl cO rfl kl_X4 9 (by decide) kf_X4_48 rfl rfl dX4_isLowerState_11 ?_
    refine g_iload_n hC dX4_isLowerState_14 rfl ?_
    refine g_iald hC rfl cA6 a rfl (by omega) (by decide) dX4_isLowerState_15 ?_
    refine g_aload_n hC dX4_isLowerState_16 rfl ?_
    refine g_get hC rfl cO rfl kl_X4 9 (by decide) kf_X4_48 rfl rfl dX4_isLowerState_17 ?_
    refine g_iload_n hC dX4_isLowerState_20 rfl ?_
    refine g_iald hC rfl cA6 b rfl (by omega) (by decide) dX4_isLowerState_21 ?_
    refine g_icmp_ge (tgt := 29) hC dX4_isLowerState_22 (by decide) (fun c22 => ?_) (fun c22 => ?_)
    · refine g_iconst (v := 0) hC dX4_isLowerState_29 (by decide) ?_
      refine g_ireti hR dX4_isLowerState_30 (by decide) ?_
      clear hR hC hI
      refine pXi ?_
      clear hg hs hM
      grind
    · refine g_iconst (v := 1) hC dX4_isLowerState_25 (by decide) ?_
      refine g_goto (tgt := 30) hC dX4_isLowerState_26 (by decide) ?_
      refine g_ireti hR dX4_isLowerState_30 (by decide) ?_
      clear hR hC hI
      refine pXi ?_
      clear hg hs hM
      grind

set_option maxHeartbeats 4000000 in
set_option maxRecDepth 100000 in
theorem c_X4_earliestOf (l : Launch) (X : gX) (b0 : Nat) (lo : gL) (L : Nat → Nat → Nat) (K C : rM3) (e0 : gE) (M : rM2) (hM : Iv M) (hs : Sm L K M) (p : Int32) (hg : gO C M p) (j : Nat) (hjn : j < nSh M) : Ct l X b0 lo (enC X lo L K C e0) yX4_earliestOf cX4_earliestOf 4 (some FieldType.int) (rM 1 22) [.ref (lo 0), .int (nI j)] (pX (.int (eaG M p j (nSh M))) lo (enC X lo L K C e0)) := by
  refine gMet (by decide) (Nat.le_of_ble_eq_true rfl) rfl ?_
  intro Z hC hI hR
  have hS30 := (Iv_nS hM).1
  have hj1 : j < L 2 1 := by rw [hs.2.1]; exact hjn
  have hj50 : j < 50 := by omega
  obtain ⟨s1, s2, s3, s4, s5, s6, s7⟩ := hs.sh hjn
  refine g_aload_n hC dX4_earliestOf_0 rfl ?_
  refine g_get hC rfl cO rfl kl_X4 6 (by decide) kf_X4_34 rfl rfl dX4_earliestOf_1 ?_
  refine g_iload_n hC dX4_earliestOf_4 rfl ?_
  refine g_aald (t0 := 2) hC rfl cA3 rfl j rfl (by omega) (by decide) (if_pos hj1) dX4_earliestOf_5 ?_
  refine g_get hC rfl (cS hj1 hj50) rfl kl_X2 4 (by decide) kf_X4_122 rfl rfl dX4_earliestOf_6 ?_
  refine g_istore_n hC dX4_earliestOf_9 (by decide) ?_
  refine g_iconst (v := 0) hC dX4_earliestOf_10 (by decide) ?_
  refine g_istore_n hC dX4_earliestOf_11 (by decide) ?_
  refine g_lv (lv' := [(0, .ref (lo 0)), (1, .int (nI j)), (2, .int (M 12 j)), (3, .int 0)]) ⟨rfl, rfl, (by show some (Value.int (K 6 j 4)) = _; rw [s5]), rfl, trivial⟩ ?_
  have leaG : ∀ (r : Nat) (x : Nat), x + r = nSh M → GO l X b0 Z 0 0 lo (enC X lo L K C e0) 12 [(0, .ref (lo 0)), (1, .int (nI j)), (2, .int (eaG M p j x)), (3, .int (nI x))] [] := by
    intro r
    induction r with
    | zero =>
      intro x hx9
      have hx8 : x = nSh M := by omega
      subst hx8
      refine g_iload_n hC dX4_earliestOf_12 rfl ?_
      refine g_aload_n hC dX4_earliestOf_13 rfl ?_
      refine g_get hC rfl cO rfl kl_X4 7 (by decide) kf_X4_38 rfl rfl dX4_earliestOf_14 ?_
      refine g_icmp_ge (tgt := 49) hC dX4_earliestOf_17 (by decide) (fun c17 => ?_) (fun c17 => absurd (by rw [hs.2.1]; exact nI_le (by omega) (by omega)) c17)
      refine g_iload_n hC dX4_earliestOf_49 rfl ?_
      refine g_ireti hR dX4_earliestOf_50 rfl ?_
      clear hR hC hI
      exact pXi rfl
    | succ r ihleaG =>
      intro x hx9
      have hxn : x < nSh M := by omega
      have hx1 : x < L 2 1 := by rw [hs.2.1]; exact hxn
      have hx50 : x < 50 := by omega
      refine g_iload_n hC dX4_earliestOf_12 rfl ?_
      refine g_aload_n hC dX4_earliestOf_13 rfl ?_
      refine g_get hC rfl cO rfl kl_X4 7 (by decide) kf_X4_38 rfl rfl dX4_earliestOf_14 ?_
      refine g_icmp_ge (tgt := 49) hC dX4_earliestOf_17 (by decide) (fun c17 => absurd c17 (by rw [hs.2.1]; exact nI_ge (by omega) (by omega))) (fun c17 => ?_)
      refine g_aload_n hC dX4_earliestOf_20 rfl ?_
      refine g_iload_n hC dX4_earliestOf_21 rfl ?_
      refine g_iload_n hC dX4_earliestOf_22 rfl ?_
      refine g_callV hC v_X4_isLowerState km_X4_169 (c_X4_isLowerState l X b0 lo L _ _ e0 M hM hs p hg x j (by omega) (by omega)) rfl cO rfl rfl rfl rfl (Nat.le_of_ble_eq_true rfl) ⟨by decide, by decide⟩ ⟨by decide, by decide⟩ dX4_earliestOf_23 (kX ?_)
      refine g_if_eq (tgt := 43) hC dX4_earliestOf_26 (by decide) (fun c26 => ?_) (fun c26 => ?_)
      · have hst : eaG M p j (x + 1) = eaG M p j x := by
          have hlw := ito_eq c26
          rw [eaG_s, if_neg (fun z => hlw z.1)]
        refine g_iinc hC dX4_earliestOf_43 rfl (nI_inc x) (by decide) ?_
        refine g_goto (tgt := 12) hC dX4_earliestOf_46 (by decide) ?_
        exact g_lv (lv' := [(0, .ref (lo 0)), (1, .int (nI j)), (2, .int (eaG M p j (x + 1))), (3, .int (nI (x + 1)))]) ⟨rfl, rfl, (by rw [hst]; rfl), rfl, trivial⟩ (ihleaG (x + 1) (by omega))
      · refine g_iload_n hC dX4_earliestOf_29 rfl ?_
        refine g_aload_n hC dX4_earliestOf_30 rfl ?_
        refine g_get hC rfl cO rfl kl_X4 6 (by decide) kf_X4_34 rfl rfl dX4_earliestOf_31 ?_
        refine g_iload_n hC dX4_earliestOf_34 rfl ?_
        refine g_aald (t0 := 2) hC rfl cA3 rfl x rfl (by omega) (by decide) (if_pos hx1) dX4_earliestOf_35 ?_
        refine g_get hC rfl (cS hx1 hx50) rfl kl_X2 4 (by decide) kf_X4_122 rfl rfl dX4_earliestOf_36 ?_
        refine g_mmax hC km_X4_111 ⟨by decide, Nat.le_of_ble_eq_true rfl⟩ ⟨Nat.le_of_ble_eq_true rfl, Nat.le_of_ble_eq_true rfl⟩ dX4_earliestOf_39 ?_
        refine g_istore_n hC dX4_earliestOf_42 (by decide) ?_
        have hst : eaG M p j (x + 1) = (if eaG M p j x < K 6 x 4 then K 6 x 4 else eaG M p j x) := by
          have hx4 := (hs.sh hxn).2.2.2.2.1
          have hlw := ito_ne c26
          rw [eaG_s, hx4]
          clear hC hR hI hs hM hg ihleaG
          grind
        refine g_iinc hC dX4_earliestOf_43 rfl (nI_inc x) (by decide) ?_
        refine g_goto (tgt := 12) hC dX4_earliestOf_46 (by decide) ?_
        exact g_lv (lv' := [(0, .ref (lo 0)), (1, .int (nI j)), (2, .int (eaG M p j (x + 1))), (3, .int (nI (x + 1)))]) ⟨rfl, rfl, (by rw [hst]; rfl), rfl, trivial⟩ (ihleaG (x + 1) (by omega))
  exact g_lv (lv' := [(0, .ref (lo 0)), (1, .int (nI j)), (2, .int (M 12 j)), (3, .int (nI 0))]) ⟨rfl, rfl, rfl, rfl, trivial⟩ (leaG (nSh M) 0 (by omega))

set_option maxHeartbeats 4000000 in
set_option maxRecDepth 100000 in
theorem c_X4_latestOf (l : Launch) (X : gX) (b0 : Nat) (lo : gL) (L : Nat → Nat → Nat) (K C : rM3) (e0 : gE) (M : rM2) (hM : Iv M) (hs : Sm L K M) (p : Int32) (hg : gO C M p) (j : Nat) (hjn : j < nSh M) : Ct l X b0 lo (enC X lo L K C e0) yX4_latestOf cX4_latestOf 4 (some FieldType.int) (rM 1 22) [.ref (lo 0), .int (nI j)] (pX (.int (laG M p j (nSh M))) lo (enC X lo L K C e0)) := by
  refine gMet (by decide) (Nat.le_of_ble_eq_true rfl) rfl ?_
  intro Z hC hI hR
  have hS30 := (Iv_nS hM).1
  have hj1 : j < L 2 1 := by rw [hs.2.1]; exact hjn
  have hj50 : j < 50 := by omega
  obtain ⟨s1, s2, s3, s4, s5, s6, s7⟩ := hs.sh hjn
  refine g_aload_n hC dX4_latestOf_0 rfl ?_
  refine g_get hC rfl cO rfl kl_X4 6 (by decide) kf_X4_34 rfl rfl dX4_latestOf_1 ?_
  refine g_iload_n hC dX4_latestOf_4 rfl ?_
  refine g_aald (t0 := 2) hC rfl cA3 rfl j rfl (by omega) (by decide) (if_pos hj1) dX4_latestOf_5 ?_
  refine g_get hC rfl (cS hj1 hj50) rfl kl_X2 5 (by decide) kf_X4_125 rfl rfl dX4_latestOf_6 ?_
  refine g_istore_n hC dX4_latestOf_9 (by decide) ?_
  refine g_iconst (v := 0) hC dX4_latestOf_10 (by decide) ?_
  refine g_istore_n hC dX4_latestOf_11 (by decide) ?_
  refine g_lv (lv' := [(0, .ref (lo 0)), (1, .int (nI j)), (2, .int (M 13 j)), (3, .int 0)]) ⟨rfl, rfl, (by show some (Value.int (K 6 j 5)) = _; rw [s6]), rfl, trivial⟩ ?_
  have llaG : ∀ (r : Nat) (x : Nat), x + r = nSh M → GO l X b0 Z 0 0 lo (enC X lo L K C e0) 12 [(0, .ref (lo 0)), (1, .int (nI j)), (2, .int (laG M p j x)), (3, .int (nI x))] [] := by
    intro r
    induction r with
    | zero =>
      intro x hx9
      have hx8 : x = nSh M := by omega
      subst hx8
      refine g_iload_n hC dX4_latestOf_12 rfl ?_
      refine g_aload_n hC dX4_latestOf_13 rfl ?_
      refine g_get hC rfl cO rfl kl_X4 7 (by decide) kf_X4_38 rfl rfl dX4_latestOf_14 ?_
      refine g_icmp_ge (tgt := 49) hC dX4_latestOf_17 (by decide) (fun c17 => ?_) (fun c17 => absurd (by rw [hs.2.1]; exact nI_le (by omega) (by omega)) c17)
      refine g_iload_n hC dX4_latestOf_49 rfl ?_
      refine g_ireti hR dX4_latestOf_50 rfl ?_
      clear hR hC hI
      exact pXi rfl
    | succ r ihllaG =>
      intro x hx9
      have hxn : x < nSh M := by omega
      have hx1 : x < L 2 1 := by rw [hs.2.1]; exact hxn
      have hx50 : x < 50 := by omega
      refine g_iload_n hC dX4_latestOf_12 rfl ?_
      refine g_aload_n hC dX4_latestOf_13 rfl ?_
      refine g_get hC rfl cO rfl kl_X4 7 (by decide) kf_X4_38 rfl rfl dX4_latestOf_14 ?_
      refine g_icmp_ge (tgt := 49) hC dX4_latestOf_17 (by decide) (fun c17 => absurd c17 (by rw [hs.2.1]; exact nI_ge (by omega) (by omega))) (fun c17 => ?_)
      refine g_aload_n hC dX4_latestOf_20 rfl ?_
      refine g_iload_n hC dX4_latestOf_21 rfl ?_
      refine g_iload_n hC dX4_latestOf_22 rfl ?_
      refine g_callV hC v_X4_isLowerState km_X4_169 (c_X4_isLowerState l X b0 lo L _ _ e0 M hM hs p hg j x (by omega) (by omega)) rfl cO rfl rfl rfl rfl (Nat.le_of_ble_eq_true rfl) ⟨by decide, by decide⟩ ⟨by decide, by decide⟩ dX4_latestOf_23 (kX ?_)
      refine g_if_eq (tgt := 43) hC dX4_latestOf_26 (by decide) (fun c26 => ?_) (fun c26 => ?_)
      · have hst : laG M p j (x + 1) = laG M p j x := by
          have hlw := ito_eq c26
          rw [laG_s, if_neg (fun z => hlw z.1)]
        refine g_iinc hC dX4_latestOf_43 rfl (nI_inc x) (by decide) ?_
        refine g_goto (tgt := 12) hC dX4_latestOf_46 (by decide) ?_
        exact g_lv (lv' := [(0, .ref (lo 0)), (1, .int (nI j)), (2, .int (laG M p j (x + 1))), (3, .int (nI (x + 1)))]) ⟨rfl, rfl, (by rw [hst]; rfl), rfl, trivial⟩ (ihllaG (x + 1) (by omega))
      · refine g_iload_n hC dX4_latestOf_29 rfl ?_
        refine g_aload_n hC dX4_latestOf_30 rfl ?_
        refine g_get hC rfl cO rfl kl_X4 6 (by decide) kf_X4_34 rfl rfl dX4_latestOf_31 ?_
        refine g_iload_n hC dX4_latestOf_34 rfl ?_
        refine g_aald (t0 := 2) hC rfl cA3 rfl x rfl (by omega) (by decide) (if_pos hx1) dX4_latestOf_35 ?_
        refine g_get hC rfl (cS hx1 hx50) rfl kl_X2 5 (by decide) kf_X4_125 rfl rfl dX4_latestOf_36 ?_
        refine g_mmin hC km_X4_179 ⟨by decide, Nat.le_of_ble_eq_true rfl⟩ ⟨Nat.le_of_ble_eq_true rfl, Nat.le_of_ble_eq_true rfl⟩ dX4_latestOf_39 ?_
        refine g_istore_n hC dX4_latestOf_42 (by decide) ?_
        have hst : laG M p j (x + 1) = (if K 6 x 5 < laG M p j x then K 6 x 5 else laG M p j x) := by
          have hx4 := (hs.sh hxn).2.2.2.2.2.1
          have hlw := ito_ne c26
          rw [laG_s, hx4]
          clear hC hR hI hs hM hg ihllaG
          grind
        refine g_iinc hC dX4_latestOf_43 rfl (nI_inc x) (by decide) ?_
        refine g_goto (tgt := 12) hC dX4_latestOf_46 (by decide) ?_
        exact g_lv (lv' := [(0, .ref (lo 0)), (1, .int (nI j)), (2, .int (laG M p j (x + 1))), (3, .int (nI (x + 1)))]) ⟨rfl, rfl, (by rw [hst]; rfl), rfl, trivial⟩ (ihllaG (x + 1) (by omega))
  exact g_lv (lv' := [(0, .ref (lo 0)), (1, .int (nI j)), (2, .int (M 13 j)), (3, .int (nI 0))]) ⟨rfl, rfl, rfl, rfl, trivial⟩ (llaG (nSh M) 0 (by omega))

set_option maxHeartbeats 4000000 in
set_option maxRecDepth 100000 in
theorem c_X4_earliest (l : Launch) (X : gX) (b0 : Nat) (lo : gL) (L : Nat → Nat → Nat) (K C : rM3) (e0 : gE) (M : rM2) (hM : Iv M) (hs : Sm L K M) (hc : Sc C M) (p : Int32) : Ct l X b0 lo (enC X lo L K C e0) yX4_earliest cX4_earliest 3 (some FieldType.int) (rM 7 174) [.ref (lo 0), .int p] (pKl X lo e0 (sp_earliest M p)) := by
  refine gMet (by decide) (Nat.le_of_ble_eq_true rfl) rfl ?_
  intro Z hC hI hR
  rcases Classical.em (isSh M p) with hp | hp
  · obtain ⟨j, hj30, rfl, hjn, -⟩ := shOf hM hp
    have ej : nt (nI j) = j := nt_nI (by omega)
    have hj1 : j < L 2 1 := by rw [hs.2.1]; exact hjn
    have hj50 : j < 50 := by omega
    have hN : L 2 0 ≤ 10 := by rw [hs.1]; exact (Iv_nM hM).1
    have hSS : L 2 1 ≤ 30 := by rw [hs.2.1]; exact (Iv_nS hM).1
    obtain ⟨s1, s2, s3, s4, s5, s6, s7⟩ := hs.sh hjn
    refine g_aload_n hC dX4_earliest_0 rfl ?_
    refine g_iload_n hC dX4_earliest_1 rfl ?_
    refine g_callV hC v_X4_sheetOrNull km_X4_118 (c_X4_sheetOrNull_s l X b0 lo L _ _ e0 j hj1 hSS) rfl cO rfl rfl rfl rfl (Nat.le_of_ble_eq_true rfl) ⟨by decide, by decide⟩ ⟨by decide, by decide⟩ dX4_earliest_2 (kX ?_)
    refine g_astore_n hC dX4_earliest_5 (by decide) ?_
    refine g_aload_n hC dX4_earliest_6 rfl ?_
    refine g_ifnonnull (tgt := 13) hC dX4_earliest_7 (by decide) ?_
    refine g_aload_n hC dX4_earliest_13 rfl ?_
    refine g_aload_n hC dX4_earliest_14 rfl ?_
    refine g_aload_n hC dX4_earliest_15 rfl ?_
    refine g_callV hC v_X4_mouldFor km_X4_153 (c_X4_mouldFor l X b0 lo L _ _ e0 M hM hs hc j hjn) rfl cO rfl rfl rfl rfl (Nat.le_of_ble_eq_true rfl) ⟨by decide, by decide⟩ ⟨by decide, by decide⟩ dX4_earliest_16 (kI ?_)
    rintro r1 en' ⟨rfl, C2, rfl, hsC2, hkC2⟩
    refine g_callV hC v_X4_gatherStates km_X4_157 (c_X4_gatherStates l X b0 lo L _ _ e0 M hM hs hsC2 _) rfl cO rfl rfl rfl rfl (Nat.le_of_ble_eq_true rfl) ⟨by decide, by decide⟩ ⟨by decide, by decide⟩ dX4_earliest_19 (kV ?_)
    rintro en' ⟨C7, rfl, hs7, hg7⟩
    refine g_aload_n hC dX4_earliest_22 rfl ?_
    refine g_iload_n hC dX4_earliest_23 rfl ?_
    refine g_callV hC v_X4_earliestOf km_X4_160 (c_X4_earliestOf l X b0 lo L _ _ e0 M hM hs _ hg7 j hjn) rfl cO rfl rfl rfl rfl (Nat.le_of_ble_eq_true rfl) ⟨by decide, by decide⟩ ⟨by decide, by decide⟩ dX4_earliest_24 (kX ?_)
    refine g_ireti hR dX4_earliest_27 rfl ?_
    clear hR hC hI
    have hsp : sp_earliest M (nI j) = (ea M j, M) := by unfold sp_earliest; rw [if_pos hp, ej]
    rw [hsp]
    exact pKl_i (eaG_eq hM hjn rfl (Nat.le_refl _)) hs hs7
  · have hpn : ¬ (0 ≤ p ∧ p < nI (L 2 1)) := fun z => hp ⟨z.1, by have h2 := z.2; rw [hs.2.1, ← (Iv_nS hM).2] at h2; have := hM.2.2.2.2.1; grind⟩
    refine g_aload_n hC dX4_earliest_0 rfl ?_
    refine g_iload_n hC dX4_earliest_1 rfl ?_
    refine g_callV hC v_X4_sheetOrNull km_X4_118 (c_X4_sheetOrNull_n l X b0 lo L _ _ e0 p hpn) rfl cO rfl rfl rfl rfl (Nat.le_of_ble_eq_true rfl) ⟨by decide, by decide⟩ ⟨by decide, by decide⟩ dX4_earliest_2 (kX ?_)
    refine g_astore_nN hC dX4_earliest_5 (by decide) ?_
    refine g_aload_nN hC dX4_earliest_6 rfl ?_
    refine g_ifnonnullN hC dX4_earliest_7 ?_
    refine g_bipush (v := (-2)) hC dX4_earliest_10 (by decide) ?_
    refine g_ireti hR dX4_earliest_12 rfl ?_
    clear hR hC hI
    have hsp : sp_earliest M p = (-2, M) := by unfold sp_earliest; rw [if_neg hp]
    rw [hsp]
    exact pKl_i rfl hs hc

set_option maxHeartbeats 4000000 in
set_option maxRecDepth 100000 in
theorem c_X4_latest (l : Launch) (X : gX) (b0 : Nat) (lo : gL) (L : Nat → Nat → Nat) (K C : rM3) (e0 : gE) (M : rM2) (hM : Iv M) (hs : Sm L K M) (hc : Sc C M) (p : Int32) : Ct l X b0 lo (enC X lo L K C e0) yX4_latest cX4_latest 3 (some FieldType.int) (rM 7 174) [.ref (lo 0), .int p] (pKl X lo e0 (sp_latest M p)) := by
  refine gMet (by decide) (Nat.le_of_ble_eq_true rfl) rfl ?_
  intro Z hC hI hR
  rcases Classical.em (isSh M p) with hp | hp
  · obtain ⟨j, hj30, rfl, hjn, -⟩ := shOf hM hp
    have ej : nt (nI j) = j := nt_nI (by omega)
    have hj1 : j < L 2 1 := by rw [hs.2.1]; exact hjn
    have hj50 : j < 50 := by omega
    have hN : L 2 0 ≤ 10 := by rw [hs.1]; exact (Iv_nM hM).1
    have hSS : L 2 1 ≤ 30 := by rw [hs.2.1]; exact (Iv_nS hM).1
    obtain ⟨s1, s2, s3, s4, s5, s6, s7⟩ := hs.sh hjn
    refine g_aload_n hC dX4_latest_0 rfl ?_
    refine g_iload_n hC dX4_latest_1 rfl ?_
    refine g_callV hC v_X4_sheetOrNull km_X4_118 (c_X4_sheetOrNull_s l X b0 lo L _ _ e0 j hj1 hSS) rfl cO rfl rfl rfl rfl (Nat.le_of_ble_eq_true rfl) ⟨by decide, by decide⟩ ⟨by decide, by decide⟩ dX4_latest_2 (kX ?_)
    refine g_astore_n hC dX4_latest_5 (by decide) ?_
    refine g_aload_n hC dX4_latest_6 rfl ?_
    refine g_ifnonnull (tgt := 13) hC dX4_latest_7 (by decide) ?_
    refine g_aload_n hC dX4_latest_13 rfl ?_
    refine g_aload_n hC dX4_latest_14 rfl ?_
    refine g_aload_n hC dX4_latest_15 rfl ?_
    refine g_callV hC v_X4_mouldFor km_X4_153 (c_X4_mouldFor l X b0 lo L _ _ e0 M hM hs hc j hjn) rfl cO rfl rfl rfl rfl (Nat.le_of_ble_eq_true rfl) ⟨by decide, by decide⟩ ⟨by decide, by decide⟩ dX4_latest_16 (kI ?_)
    rintro r1 en' ⟨rfl, C2, rfl, hsC2, hkC2⟩
    refine g_callV hC v_X4_gatherStates km_X4_157 (c_X4_gatherStates l X b0 lo L _ _ e0 M hM hs hsC2 _) rfl cO rfl rfl rfl rfl (Nat.le_of_ble_eq_true rfl) ⟨by decide, by decide⟩ ⟨by decide, by decide⟩ dX4_latest_19 (kV ?_)
    rintro en' ⟨C7, rfl, hs7, hg7⟩
    refine g_aload_n hC dX4_latest_22 rfl ?_
    refine g_iload_n hC dX4_latest_23 rfl ?_
    refine g_callV hC v_X4_latestOf km_X4_166 (c_X4_latestOf l X b0 lo L _ _ e0 M hM hs _ hg7 j hjn) rfl cO rfl rfl rfl rfl (Nat.le_of_ble_eq_true rfl) ⟨by decide, by decide⟩ ⟨by decide, by decide⟩ dX4_latest_24 (kX ?_)
    refine g_ireti hR dX4_latest_27 rfl ?_
    clear hR hC hI
    have hsp : sp_latest M (nI j) = (la M j, M) := by unfold sp_latest; rw [if_pos hp, ej]
    rw [hsp]
    exact pKl_i (laG_eq hM hjn rfl (Nat.le_refl _)) hs hs7
  · have hpn : ¬ (0 ≤ p ∧ p < nI (L 2 1)) := fun z => hp ⟨z.1, by have h2 := z.2; rw [hs.2.1, ← (Iv_nS hM).2] at h2; have := hM.2.2.2.2.1; grind⟩
    refine g_aload_n hC dX4_latest_0 rfl ?_
    refine g_iload_n hC dX4_latest_1 rfl ?_
    refine g_callV hC v_X4_sheetOrNull km_X4_118 (c_X4_sheetOrNull_n l X b0 lo L _ _ e0 p hpn) rfl cO rfl rfl rfl rfl (Nat.le_of_ble_eq_true rfl) ⟨by decide, by decide⟩ ⟨by decide, by decide⟩ dX4_latest_2 (kX ?_)
    refine g_astore_nN hC dX4_latest_5 (by decide) ?_
    refine g_aload_nN hC dX4_latest_6 rfl ?_
    refine g_ifnonnullN hC dX4_latest_7 ?_
    refine g_bipush (v := (-2)) hC dX4_latest_10 (by decide) ?_
    refine g_ireti hR dX4_latest_12 rfl ?_
    clear hR hC hI
    have hsp : sp_latest M p = (-2, M) := by unfold sp_latest; rw [if_neg hp]
    rw [hsp]
    exact pKl_i rfl hs hc

set_option maxHeartbeats 4000000 in
set_option maxRecDepth 100000 in
theorem c_X4_comesBefore (l : Launch) (X : gX) (b0 : Nat) (lo : gL) (L : Nat → Nat → Nat) (K C : rM3) (e0 : gE) (M : rM2) (hM : Iv M) (hs : Sm L K M) (p : Int32) (hg : gO C M p) (he : eO C M p (nSh M)) (a b : Nat) (ha : a < nSh M) (hb : b < nSh M) : Ct l X b0 lo (enC X lo L K C e0) yX4_comesBefore cX4_comesBefore 3 (some FieldType.boolean) (rM 0 0) [.ref (lo 0), .int (nI a), .int (nI b)] (pX (.int (cbB M p a b)) lo (enC X lo L K C e0)) := by
  refine gMet (by decide) (Nat.le_of_ble_eq_true rfl) rfl ?_
  intro Z hC hI hR
  have hS30 := (Iv_nS hM).1
  have ga := hg a ha
  have gb := hg b hb
  have ka := he a ha
  have kb := he b hb
  have hab : (nI b ≤ nI a) ↔ b ≤ a := nI_leI (by omega) (by omega)
  refine g_aload_n hC dX4_comesBefore_0 rfl ?_
  refine g_get hC rfl cO rfl kl_X4 9 (by decide) kf_X4_48 rfl rfl dX4_comesBefore_1 ?_
  refine g_iload_n hC dX4_comesBefore_4 rfl ?_
  refine g_iald hC rfl cA6 a rfl (by omega) (by decide) dX4_comesBefore_5 ?_
  refine g_aload_n hC dX4_comesBefore_6 rfl ?_
  refine g_get hC rfl cO rfl kl_X4 9 (by decide) kf_X4_48 rfl rfl dX4_comesBefore_7 ?_
  refine g_iload_n hC dX4_comesBefore_10 rfl ?_
  refine g_iald hC rfl cA6 b rfl (by omega) (by decide) dX4_comesBefore_11 ?_
  refine g_icmp_eq (tgt := 36) hC dX4_comesBefore_12 (by decide) (fun c12 => ?_) (fun c12 => ?_)
  · refine g_aload_n hC dX4_comesBefore_36 rfl ?_
    refine g_get hC rfl cO rfl kl_X4 10 (by decide) kf_X4_51 rfl rfl dX4_comesBefore_37 ?_
    refine g_iload_n hC dX4_comesBefore_40 rfl ?_
    refine g_iald hC rfl cA7 a rfl (by omega) (by decide) dX4_comesBefore_41 ?_
    refine g_aload_n hC dX4_comesBefore_42 rfl ?_
    refine g_get hC rfl cO rfl kl_X4 10 (by decide) kf_X4_51 rfl rfl dX4_comesBefore_43 ?_
    refine g_iload_n hC dX4_comesBefore_46 rfl ?_
    refine g_iald hC rfl cA7 b rfl (by omega) (by decide) dX4_comesBefore_47 ?_
    refine g_icmp_eq (tgt := 72) hC dX4_comesBefore_48 (by decide) (fun c48 => ?_) (fun c48 => ?_)
    · refine g_iload_n hC dX4_comesBefore_72 rfl ?_
      refine g_iload_n hC dX4_comesBefore_73 rfl ?_
      refine g_icmp_ge (tgt := 81) hC dX4_comesBefore_74 (by decide) (fun c74 => ?_) (fun c74 => ?_)
      · refine g_iconst (v := 0) hC dX4_comesBefore_81 (by decide) ?_
        refine g_ireti hR dX4_comesBefore_82 (by decide) ?_
        clear hR hC hI
        refine pXi ?_
        unfold cbB
        have key : cbG M p a b ↔ (if stG M p a = stG M p b then (if eaG M p a (nSh M) = eaG M p b (nSh M) then a < b else eaG M p a (nSh M) < eaG M p b (nSh M)) else stG M p a < stG M p b) := Iff.rfl
        rw [← ga, ← gb, ← ka, ← kb] at key
        clear hg he hs hM
        by_cases hcb : cbG M p a b
        · refine Eq.trans ?_ (@if_pos _ (Classical.propDecidable _) hcb _ _ _).symm
          have k2 := key.mp hcb
          clear key
          grind
        · refine Eq.trans ?_ (@if_neg _ (Classical.propDecidable _) hcb _ _ _).symm
          have k2 := fun z => hcb (key.mpr z)
          clear key
          grind
      · refine g_iconst (v := 1) hC dX4_comesBefore_77 (by decide) ?_
        refine g_goto (tgt := 82) hC dX4_comesBefore_78 (by decide) ?_
        refine g_ireti hR dX4_comesBefore_82 (by decide) ?_
        clear hR hC hI
        refine pXi ?_
        unfold cbB
        have key : cbG M p a b ↔ (if stG M p a = stG M p b then (if eaG M p a (nSh M) = eaG M p b (nSh M) then a < b else eaG M p a (nSh M) < eaG M p b (nSh M)) else stG M p a < stG M p b) := Iff.rfl
        rw [← ga, ← gb, ← ka, ← kb] at key
        clear hg he hs hM
        by_cases hcb : cbG M p a b
        · refine Eq.trans ?_ (@if_pos _ (Classical.propDecidable _) hcb _ _ _).symm
          have k2 := key.mp hcb
          clear key
          grind
        · refine Eq.trans ?_ (@if_neg _ (Classical.propDecidable _) hcb _ _ _).symm
          have k2 := fun z => hcb (key.mpr z)
          clear key
          grind
    · refine g_aload_n hC dX4_comesBefore_51 rfl ?_
      refine g_get hC rfl cO rfl kl_X4 10 (by decide) kf_X4_51 rfl rfl dX4_comesBefore_52 ?_
      refine g_iload_n hC dX4_comesBefore_55 rfl ?_
      refine g_iald hC rfl cA7 a rfl (by omega) (by decide) dX4_comesBefore_56 ?_
      refine g_aload_n hC dX4_comesBefore_57 rfl ?_
      refine g_get hC rfl cO rfl kl_X4 10 (by decide) kf_X4_51 rfl rfl dX4_comesBefore_58 ?_
      refine g_iload_n hC dX4_comesBefore_61 rfl ?_
      refine g_iald hC rfl cA7 b rfl (by omega) (by decide) dX4_comesBefore_62 ?_
      refine g_icmp_ge (tgt := 70) hC dX4_comesBefore_63 (by decide) (fun c63 => ?_) (fun c63 => ?_)
      · refine g_iconst (v := 0) hC dX4_comesBefore_70 (by decide) ?_
        refine g_ireti hR dX4_comesBefore_71 (by decide) ?_
        clear hR hC hI
        refine pXi ?_
        unfold cbB
        have key : cbG M p a b ↔ (if stG M p a = stG M p b then (if eaG M p a (nSh M) = eaG M p b (nSh M) then a < b else eaG M p a (nSh M) < eaG M p b (nSh M)) else stG M p a < stG M p b) := Iff.rfl
        rw [← ga, ← gb, ← ka, ← kb] at key
        clear hg he hs hM
        by_cases hcb : cbG M p a b
        · refine Eq.trans ?_ (@if_pos _ (Classical.propDecidable _) hcb _ _ _).symm
          have k2 := key.mp hcb
          clear key
          grind
        · refine Eq.trans ?_ (@if_neg _ (Classical.propDecidable _) hcb _ _ _).symm
          have k2 := fun z => hcb (key.mpr z)
          clear key
          grind
      · refine g_iconst (v := 1) hC dX4_comesBefore_66 (by decide) ?_
        refine g_goto (tgt := 71) hC dX4_comesBefore_67 (by decide) ?_
        refine g_ireti hR dX4_comesBefore_71 (by decide) ?_
        clear hR hC hI
        refine pXi ?_
        unfold cbB
        have key : cbG M p a b ↔ (if stG M p a = stG M p b then (if eaG M p a (nSh M) = eaG M p b (nSh M) then a < b else eaG M p a (nSh M) < eaG M p b (nSh M)) else stG M p a < stG M p b) := Iff.rfl
        rw [← ga, ← gb, ← ka, ← kb] at key
        clear hg he hs hM
        by_cases hcb : cbG M p a b
        · refine Eq.trans ?_ (@if_pos _ (Classical.propDecidable _) hcb _ _ _).symm
          have k2 := key.mp hcb
          clear key
          grind
        · refine Eq.trans ?_ (@if_neg _ (Classical.propDecidable _) hcb _ _ _).symm
          have k2 := fun z => hcb (key.mpr z)
          clear key
          grind
  · refine g_aload_n hC dX4_comesBefore_15 rfl ?_
    refine g_get hC rfl cO rfl kl_X4 9 (by decide) kf_X4_48 rfl rfl dX4_comesBefore_16 ?_
    refine g_iload_n hC dX4_comesBefore_19 rfl ?_
    refine g_iald hC rfl cA6 a rfl (by omega) (by decide) dX4_comesBefore_20 ?_
    refine g_aload_n hC dX4_comesBefore_21 rfl ?_
    refine g_get hC rfl cO rfl kl_X4 9 (by decide) kf_X4_48 rfl rfl dX4_comesBefore_22 ?_
    refine g_iload_n hC dX4_comesBefore_25 rfl ?_
    refine g_iald hC rfl cA6 b rfl (by omega) (by decide) dX4_comesBefore_26 ?_
    refine g_icmp_ge (tgt := 34) hC dX4_comesBefore_27 (by decide) (fun c27 => ?_) (fun c27 => ?_)
    · refine g_iconst (v := 0) hC dX4_comesBefore_34 (by decide) ?_
      refine g_ireti hR dX4_comesBefore_35 (by decide) ?_
      clear hR hC hI
      refine pXi ?_
      unfold cbB
      have key : cbG M p a b ↔ (if stG M p a = stG M p b then (if eaG M p a (nSh M) = eaG M p b (nSh M) then a < b else eaG M p a (nSh M) < eaG M p b (nSh M)) else stG M p a < stG M p b) := Iff.rfl
      rw [← ga, ← gb, ← ka, ← kb] at key
      clear hg he hs hM
      by_cases hcb : cbG M p a b
      · refine Eq.trans ?_ (@if_pos _ (Classical.propDecidable _) hcb _ _ _).symm
        have k2 := key.mp hcb
        clear key
        grind
      · refine Eq.trans ?_ (@if_neg _ (Classical.propDecidable _) hcb _ _ _).symm
        have k2 := fun z => hcb (key.mpr z)
        clear key
        grind
    · refine g_iconst (v := 1) hC dX4_comesBefore_30 (by decide) ?_
      refine g_goto (tgt := 35) hC dX4_comesBefore_31 (by decide) ?_
      refine g_ireti hR dX4_comesBefore_35 (by decide) ?_
      clear hR hC hI
      refine pXi ?_
      unfold cbB
      have key : cbG M p a b ↔ (if stG M p a = stG M p b then (if eaG M p a (nSh M) = eaG M p b (nSh M) then a < b else eaG M p a (nSh M) < eaG M p b (nSh M)) else stG M p a < stG M p b) := Iff.rfl
      rw [← ga, ← gb, ← ka, ← kb] at key
      clear hg he hs hM
      by_cases hcb : cbG M p a b
      · refine Eq.trans ?_ (@if_pos _ (Classical.propDecidable _) hcb _ _ _).symm
        have k2 := key.mp hcb
        clear key
        grind
      · refine Eq.trans ?_ (@if_neg _ (Classical.propDecidable _) hcb _ _ _).symm
        have k2 := fun z => hcb (key.mpr z)
        clear key
        grind

set_option maxHeartbeats 4000000 in
set_option maxRecDepth 100000 in
theorem c_X4_placeOf (l : Launch) (X : gX) (b0 : Nat) (lo : gL) (L : Nat → Nat → Nat) (K C : rM3) (e0 : gE) (M : rM2) (hM : Iv M) (hs : Sm L K M) (p : Int32) (hg : gO C M p) (he : eO C M p (nSh M)) (j : Nat) (hjn : j < nSh M) : Ct l X b0 lo (enC X lo L K C e0) yX4_placeOf cX4_placeOf 4 (some FieldType.int) (rM 1 22) [.ref (lo 0), .int (nI j)] (pX (.int (pcG M p j (nSh M))) lo (enC X lo L K C e0)) := by
  refine gMet (by decide) (Nat.le_of_ble_eq_true rfl) rfl ?_
  intro Z hC hI hR
  have hS30 := (Iv_nS hM).1
  refine g_iconst (v := 0) hC dX4_placeOf_0 (by decide) ?_
  refine g_istore_n hC dX4_placeOf_1 (by decide) ?_
  refine g_iconst (v := 0) hC dX4_placeOf_2 (by decide) ?_
  refine g_istore_n hC dX4_placeOf_3 (by decide) ?_
  have lp : ∀ (r : Nat) (x : Nat), x + r = nSh M → GO l X b0 Z 0 0 lo (enC X lo L K C e0) 4 [(0, .ref (lo 0)), (1, .int (nI j)), (2, .int (pcG M p j x)), (3, .int (nI x))] [] := by
    intro r
    induction r with
    | zero =>
      intro x hx9
      have hx8 : x = nSh M := by omega
      subst hx8
      refine g_iload_n hC dX4_placeOf_4 rfl ?_
      refine g_aload_n hC dX4_placeOf_5 rfl ?_
      refine g_get hC rfl cO rfl kl_X4 7 (by decide) kf_X4_38 rfl rfl dX4_placeOf_6 ?_
      refine g_icmp_ge (tgt := 40) hC dX4_placeOf_9 (by decide) (fun c9 => ?_) (fun c9 => absurd (by rw [hs.2.1]; exact nI_le (by omega) (by omega)) c9)
      refine g_iload_n hC dX4_placeOf_40 rfl ?_
      refine g_ireti hR dX4_placeOf_41 rfl ?_
      clear hR hC hI
      exact pXi rfl
    | succ r ihlp =>
      intro x hx9
      have hxn : x < nSh M := by omega
      have gx := hg x hxn
      refine g_iload_n hC dX4_placeOf_4 rfl ?_
      refine g_aload_n hC dX4_placeOf_5 rfl ?_
      refine g_get hC rfl cO rfl kl_X4 7 (by decide) kf_X4_38 rfl rfl dX4_placeOf_6 ?_
      refine g_icmp_ge (tgt := 40) hC dX4_placeOf_9 (by decide) (fun c9 => absurd c9 (by rw [hs.2.1]; exact nI_ge (by omega) (by omega))) (fun c9 => ?_)
      refine g_aload_n hC dX4_placeOf_12 rfl ?_
      refine g_get hC rfl cO rfl kl_X4 9 (by decide) kf_X4_48 rfl rfl dX4_placeOf_13 ?_
      refine g_iload_n hC dX4_placeOf_16 rfl ?_
      refine g_iald hC rfl cA6 x rfl (by omega) (by decide) dX4_placeOf_17 ?_
      refine g_iconst (v := (-1)) hC dX4_placeOf_18 (by decide) ?_
      refine g_icmp_eq (tgt := 34) hC dX4_placeOf_19 (by decide) (fun c19 => ?_) (fun c19 => ?_)
      · have hst : pcG M p j (x + 1) = pcG M p j x := pcG_f (fun z => by
          first
          | exact z.1 (by rw [← gx]; exact c19)
          | exact absurd ((@if_pos _ (Classical.propDecidable _) z.2 _ _ _).symm.trans c28) (by decide))
        refine g_iinc hC dX4_placeOf_34 rfl (nI_inc x) (by decide) ?_
        refine g_goto (tgt := 4) hC dX4_placeOf_37 (by decide) ?_
        exact g_lv (lv' := [(0, .ref (lo 0)), (1, .int (nI j)), (2, .int (pcG M p j (x + 1))), (3, .int (nI (x + 1)))]) ⟨rfl, rfl, (by rw [hst]; rfl), rfl, trivial⟩ (ihlp (x + 1) (by omega))
      · refine g_aload_n hC dX4_placeOf_22 rfl ?_
        refine g_iload_n hC dX4_placeOf_23 rfl ?_
        refine g_iload_n hC dX4_placeOf_24 rfl ?_
        refine g_callV hC v_X4_comesBefore km_X4_225 (c_X4_comesBefore l X b0 lo L _ _ e0 M hM hs p hg he x j (by omega) (by omega)) rfl cO rfl rfl rfl rfl (Nat.le_of_ble_eq_true rfl) ⟨by decide, by decide⟩ ⟨by decide, by decide⟩ dX4_placeOf_25 (kX ?_)
        refine g_if_eq (tgt := 34) hC dX4_placeOf_28 (by decide) (fun c28 => ?_) (fun c28 => ?_)
        · have hst : pcG M p j (x + 1) = pcG M p j x := pcG_f (fun z => by
            first
            | exact z.1 (by rw [← gx]; exact c19)
            | exact absurd ((@if_pos _ (Classical.propDecidable _) z.2 _ _ _).symm.trans c28) (by decide))
          refine g_iinc hC dX4_placeOf_34 rfl (nI_inc x) (by decide) ?_
          refine g_goto (tgt := 4) hC dX4_placeOf_37 (by decide) ?_
          exact g_lv (lv' := [(0, .ref (lo 0)), (1, .int (nI j)), (2, .int (pcG M p j (x + 1))), (3, .int (nI (x + 1)))]) ⟨rfl, rfl, (by rw [hst]; rfl), rfl, trivial⟩ (ihlp (x + 1) (by omega))
        · refine g_iinc hC dX4_placeOf_31 rfl rfl (by decide) ?_
          have hst : pcG M p j (x + 1) = pcG M p j x + Int32.ofInt 1 := pcG_t ⟨by rw [← gx]; exact c19, by
            by_cases z : cbG M p x j
            · exact z
            · exact absurd (@if_neg _ (Classical.propDecidable _) z _ _ _) c28⟩
          refine g_iinc hC dX4_placeOf_34 rfl (nI_inc x) (by decide) ?_
          refine g_goto (tgt := 4) hC dX4_placeOf_37 (by decide) ?_
          exact g_lv (lv' := [(0, .ref (lo 0)), (1, .int (nI j)), (2, .int (pcG M p j (x + 1))), (3, .int (nI (x + 1)))]) ⟨rfl, rfl, (by rw [hst]; rfl), rfl, trivial⟩ (ihlp (x + 1) (by omega))
  exact g_lv (lv' := [(0, .ref (lo 0)), (1, .int (nI j)), (2, .int 0), (3, .int (nI 0))]) ⟨rfl, rfl, rfl, rfl, trivial⟩ (lp (nSh M) 0 (by omega))
