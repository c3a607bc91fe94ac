/-! ===== the class: placements ===== -/
/-- the view holds sheet j in the orientation t -/
def vO (C : rM3) (M : rM2) (j t : Nat) : Prop := C 9 0 1 = M 7 j ∧ C 9 0 2 = nI t ∧ C 9 0 3 = (if M 9 j < 0 then -1 else (if rvT t then M 7 j - 1 - M 9 j else M 9 j)) ∧ (¬ M 9 j < 0 → C 9 0 4 = pxF M j t ∧ C 9 0 5 = pyF M j t) ∧ ∀ q, q < nt (M 7 j) → C 10 0 q = sS M j (rvT t) q
def oN (o : Option Int32) : Int32 := match o with | none => -1 | some s => s
theorem dev_gt2 {a b t : Int32} (ha : inR 0 a 450) (hb : inR 0 b 450) (ht : inR 0 t 100) : (t < a - b ∨ a - b < -t) ↔ t < ap a b := by
  obtain ⟨x, hx, rfl⟩ := natOf (n := 450) ha rfl (by decide)
  obtain ⟨y, hy, rfl⟩ := natOf (n := 450) hb rfl (by decide)
  obtain ⟨z, hz, rfl⟩ := natOf (n := 100) ht rfl (by decide)
  have e1 : (nI x - nI y).toInt = (x : Int) - y := pk_sub_toInt (by omega) (by omega)
  have e2 : (nI y - nI x).toInt = (y : Int) - x := pk_sub_toInt (by omega) (by omega)
  have e3 : (-nI z).toInt = -(z : Int) := sb_negT (by omega)
  have e4 : (nI z).toInt = (z : Int) := nI_toInt (by omega)
  have e5 : (nI y < nI x) ↔ y < x := nI_ltI (by omega) (by omega)
  unfold ap
  by_cases h : nI y < nI x
  · rw [if_pos h, Int32.lt_iff_toInt_lt, Int32.lt_iff_toInt_lt, e1, e3, e4]
    have := e5.mp h
    omega
  · rw [if_neg h, Int32.lt_iff_toInt_lt, Int32.lt_iff_toInt_lt, Int32.lt_iff_toInt_lt, e1, e2, e3, e4]
    have h9 : ¬ y < x := fun q => h (e5.mpr q)
    omega
theorem dev_gt {a b t : Int32} (ha : inR 0 a 450) (hb : inR 0 b 450) (ht : inR 0 t 50) : (t < a - b ∨ a - b < -t) ↔ t < ap a b := dev_gt2 ha hb ⟨ht.1, by have := ht.2; grind⟩
theorem dev_ge {a b : Int32} (ha : inR 0 a 450) (hb : inR 0 b 450) (h : 0 ≤ a - b) : a - b = ap a b := by grind [ap]
theorem dev_lt {a b : Int32} (ha : inR 0 a 450) (hb : inR 0 b 450) (h : ¬ 0 ≤ a - b) : -(a - b) = ap a b := by grind [ap]

set_option maxHeartbeats 4000000 in
set_option maxRecDepth 100000 in
theorem c_X4_spacingDeviations (l : Launch) (X : gX) (b0 : Nat) (lo : gL) (L : Nat → Nat → Nat) (K C : rM3) (e0 : gE) (M : rM2) (hM : Iv M) (hs : Sm L K M) (j i t o : Nat) (hj : j < nSh M) (hi : i < nMo M) (ho : o + nt (M 7 j) ≤ nt (M 1 i)) (hv : vO C M j t) (f : Int32) (hf : inR 940 f 1000) : Ct l X b0 lo (enC X lo L K C e0) yX4_spacingDeviations cX4_spacingDeviations 7 (some FieldType.int) (rM 0 0) [.ref (lo 0), .ref (lo (100 + 4 * i)), .int (nI o), .int f] (pX (.int (oN (ssF (sS M j (rvT t)) (qQ M i o) (M 20 2) f (nt (M 7 j))))) lo (enC X lo L K C e0)) := by
  refine gMet (by decide) (Nat.le_of_ble_eq_true rfl) rfl ?_
  intro Z hC hI hR
  have hi1 : i < L 2 0 := by rw [hs.1]; exact hi
  have hN : L 2 0 ≤ 10 := by rw [hs.1]; exact (Iv_nM hM).1
  have h25 : i < 25 := by omega
  obtain ⟨n, hn2, hn10, en, en2⟩ := Iv_sh hM hj
  obtain ⟨m, hm3, hm10, em, em2⟩ := Iv_mo hM hi
  obtain ⟨a1, a2, a3, a4, a5, a6⟩ := hs.mo hi
  obtain ⟨v1, v2, v3, v4, v5⟩ := id hv
  have h2 := hs.2.2.2.1
  have h3 := hs.2.2.2.2.1
  refine g_iconst (v := 0) hC dX4_spacingDeviations_0 (by decide) ?_
  refine g_istore hC dX4_spacingDeviations_1 (by decide) ?_
  refine g_iconst (v := 0) hC dX4_spacingDeviations_3 (by decide) ?_
  refine g_istore hC dX4_spacingDeviations_4 (by decide) ?_
  have ls : ∀ (r : Nat) (q : Nat) (s : Int32), q + r = n → ssF (sS M j (rvT t)) (qQ M i o) (M 20 2) f q = some s → GO l X b0 Z 0 0 lo (enC X lo L K C e0) 6 [(0, .ref (lo 0)), (1, .ref (lo (100 + 4 * i))), (2, .int (nI o)), (3, .int f), (4, .int s), (5, .int (nI q))] [] := by
    intro r
    induction r with
    | zero =>
      intro q s hq hs9
      have hq8 : q = n := by omega
      subst hq8
      refine g_iload hC dX4_spacingDeviations_6 rfl ?_
      refine g_aload_n hC dX4_spacingDeviations_8 rfl ?_
      refine g_get hC rfl cO rfl kl_X4 8 (by decide) kf_X4_44 rfl rfl dX4_spacingDeviations_9 ?_
      refine g_get hC rfl cV rfl kl_X3 1 (by decide) kf_X4_215 rfl rfl dX4_spacingDeviations_12 ?_
      refine g_icmp_ge (tgt := 91) hC dX4_spacingDeviations_15 (by decide) (fun c15 => ?_) (fun c15 => absurd (by rw [v1, en]; exact nI_le (by omega) (by omega)) c15)
      refine g_iload hC dX4_spacingDeviations_91 rfl ?_
      refine g_ireti hR dX4_spacingDeviations_93 rfl ?_
      clear hR hC hI
      refine pXi ?_
      rw [en2, hs9]
      rfl
    | succ r ihls =>
      intro q s hq hs9
      have w1 : C 10 0 q = sS M j (rvT t) q := v5 q (by omega)
      have w2 : K 3 i (o + q) = qQ M i o q := by rw [a5 (o + q) (by omega)]; unfold qQ; rw [show 10 * i + o + q = 10 * i + (o + q) by omega]
      have r1 := sS_R hM hj (rvT t) (q := q) (by omega)
      have r2 := md_R (f := f) (qQ_R hM hi (o := o) (q := q) (by omega)) hf
      refine g_iload hC dX4_spacingDeviations_6 rfl ?_
      refine g_aload_n hC dX4_spacingDeviations_8 rfl ?_
      refine g_get hC rfl cO rfl kl_X4 8 (by decide) kf_X4_44 rfl rfl dX4_spacingDeviations_9 ?_
      refine g_get hC rfl cV rfl kl_X3 1 (by decide) kf_X4_215 rfl rfl dX4_spacingDeviations_12 ?_
      refine g_icmp_ge (tgt := 91) hC dX4_spacingDeviations_15 (by decide) (fun c15 => absurd c15 (by rw [v1, en]; exact nI_ge (by omega) (by omega))) (fun c15 => ?_)
      refine g_aload_n hC dX4_spacingDeviations_18 rfl ?_
      refine g_get hC rfl cO rfl kl_X4 8 (by decide) kf_X4_44 rfl rfl dX4_spacingDeviations_19 ?_
      refine g_get hC rfl cV rfl kl_X3 0 (by decide) kf_X4_218 rfl rfl dX4_spacingDeviations_22 ?_
      refine g_iload hC dX4_spacingDeviations_25 rfl ?_
      refine g_iald hC rfl cA5 q rfl (by omega) (by decide) dX4_spacingDeviations_27 ?_
      refine g_aload_n hC dX4_spacingDeviations_28 rfl ?_
      refine g_get hC rfl (cM hi1 h25) rfl kl_X1 0 (by decide) kf_X4_173 rfl rfl dX4_spacingDeviations_29 ?_
      refine g_iload_n hC dX4_spacingDeviations_32 rfl ?_
      refine g_iload hC dX4_spacingDeviations_33 rfl ?_
      refine g_iadd hC dX4_spacingDeviations_35 ?_
      refine g_iald hC rfl (cM1 hi1 h25) (o + q) (nI_add o q) (by omega) (by omega) dX4_spacingDeviations_36 ?_
      refine g_iload_n hC dX4_spacingDeviations_37 rfl ?_
      refine g_imul hC dX4_spacingDeviations_38 ?_
      refine g_sipush (v := 1000) hC dX4_spacingDeviations_39 (by decide) ?_
      refine g_idiv hC dX4_spacingDeviations_42 (by decide) ?_
      refine g_isub hC dX4_spacingDeviations_43 ?_
      refine g_val (y := sS M j (rvT t) q - qQ M i o q * f / 1000) (by rw [w1, w2]) ?_
      refine g_istore hC dX4_spacingDeviations_44 (by decide) ?_
      refine g_iload hC dX4_spacingDeviations_46 rfl ?_
      refine g_aload_n hC dX4_spacingDeviations_48 rfl ?_
      refine g_get hC rfl cO rfl kl_X4 2 (by decide) kf_X4_17 rfl rfl dX4_spacingDeviations_49 ?_
      refine g_icmp_gt (tgt := 65) hC dX4_spacingDeviations_52 (by decide) (fun c52 => ?_) (fun c52 => ?_)
      · refine g_iconst (v := (-1)) hC dX4_spacingDeviations_65 (by decide) ?_
        refine g_ireti hR dX4_spacingDeviations_66 rfl ?_
        clear hR hC hI
        refine pXi ?_
        rw [ssF_none (k := q + 1) (by rw [ssF, hs9]; exact if_pos ((dev_gt r1 r2 hM.2.1).mp (by rw [← h2]; first | exact Or.inl c52 | exact Or.inr (Int32.not_le.mp c62)))) (by omega)]
        rfl
      · refine g_iload hC dX4_spacingDeviations_55 rfl ?_
        refine g_aload_n hC dX4_spacingDeviations_57 rfl ?_
        refine g_get hC rfl cO rfl kl_X4 2 (by decide) kf_X4_17 rfl rfl dX4_spacingDeviations_58 ?_
        refine g_ineg hC dX4_spacingDeviations_61 ?_
        refine g_icmp_ge (tgt := 67) hC dX4_spacingDeviations_62 (by decide) (fun c62 => ?_) (fun c62 => ?_)
        · have hle1 : sS M j (rvT t) q - qQ M i o q * f / 1000 ≤ M 20 2 := by rw [← h2]; exact Int32.not_lt.mp c52
          have hle2 : -M 20 2 ≤ sS M j (rvT t) q - qQ M i o q * f / 1000 := by rw [← h2]; exact c62
          refine g_iload hC dX4_spacingDeviations_67 rfl ?_
          refine g_iload hC dX4_spacingDeviations_69 rfl ?_
          refine g_if_ge (tgt := 80) hC dX4_spacingDeviations_71 (by decide) (fun c71 => ?_) (fun c71 => ?_)
          · refine g_iload hC dX4_spacingDeviations_80 rfl ?_
            refine g_iadd hC dX4_spacingDeviations_82 ?_
            refine g_val (y := s + ap (sS M j (rvT t) q) (qQ M i o q * f / 1000)) (by first | rw [dev_ge r1 r2 c71] | rw [dev_lt r1 r2 c71]) ?_
            refine g_istore hC dX4_spacingDeviations_83 (by decide) ?_
            refine g_iinc hC dX4_spacingDeviations_85 rfl (nI_inc q) (by decide) ?_
            refine g_goto (tgt := 6) hC dX4_spacingDeviations_88 (by decide) ?_
            exact g_lv (lv' := [(0, .ref (lo 0)), (1, .ref (lo (100 + 4 * i))), (2, .int (nI o)), (3, .int f), (4, .int (s + ap (sS M j (rvT t) q) (qQ M i o q * f / 1000))), (5, .int (nI (q + 1)))]) ⟨rfl, rfl, rfl, rfl, rfl, rfl, trivial⟩ (ihls (q + 1) _ (by omega) (by rw [ssF, hs9]; exact if_neg (fun z => ((dev_gt r1 r2 hM.2.1).mpr z).elim (fun z2 => absurd z2 (Int32.not_lt.mpr hle1)) (fun z2 => absurd z2 (Int32.not_lt.mpr hle2)))))
          · refine g_iload hC dX4_spacingDeviations_74 rfl ?_
            refine g_ineg hC dX4_spacingDeviations_76 ?_
            refine g_goto (tgt := 82) hC dX4_spacingDeviations_77 (by decide) ?_
            refine g_iadd hC dX4_spacingDeviations_82 ?_
            refine g_val (y := s + ap (sS M j (rvT t) q) (qQ M i o q * f / 1000)) (by first | rw [dev_ge r1 r2 c71] | rw [dev_lt r1 r2 c71]) ?_
            refine g_istore hC dX4_spacingDeviations_83 (by decide) ?_
            refine g_iinc hC dX4_spacingDeviations_85 rfl (nI_inc q) (by decide) ?_
            refine g_goto (tgt := 6) hC dX4_spacingDeviations_88 (by decide) ?_
            exact g_lv (lv' := [(0, .ref (lo 0)), (1, .ref (lo (100 + 4 * i))), (2, .int (nI o)), (3, .int f), (4, .int (s + ap (sS M j (rvT t) q) (qQ M i o q * f / 1000))), (5, .int (nI (q + 1)))]) ⟨rfl, rfl, rfl, rfl, rfl, rfl, trivial⟩ (ihls (q + 1) _ (by omega) (by rw [ssF, hs9]; exact if_neg (fun z => ((dev_gt r1 r2 hM.2.1).mpr z).elim (fun z2 => absurd z2 (Int32.not_lt.mpr hle1)) (fun z2 => absurd z2 (Int32.not_lt.mpr hle2)))))
        · refine g_iconst (v := (-1)) hC dX4_spacingDeviations_65 (by decide) ?_
          refine g_ireti hR dX4_spacingDeviations_66 rfl ?_
          clear hR hC hI
          refine pXi ?_
          rw [ssF_none (k := q + 1) (by rw [ssF, hs9]; exact if_pos ((dev_gt r1 r2 hM.2.1).mp (by rw [← h2]; first | exact Or.inl c52 | exact Or.inr (Int32.not_le.mp c62)))) (by omega)]
          rfl
  exact g_lv (lv' := [(0, .ref (lo 0)), (1, .ref (lo (100 + 4 * i))), (2, .int (nI o)), (3, .int f), (4, .int 0), (5, .int (nI 0))]) ⟨rfl, rfl, rfl, rfl, rfl, rfl, trivial⟩ (ls n 0 0 (by omega) rfl)

def mdV (M : rM2) (i : Nat) (x y f : Int32) (k : Nat) : Int32 := if ap x (M 5 (6 * i + k) * f / 1000) ≤ M 20 3 ∧ ap y (M 6 (6 * i + k) * f / 1000) ≤ M 20 3 then ap x (M 5 (6 * i + k) * f / 1000) + ap y (M 6 (6 * i + k) * f / 1000) else -1

set_option maxHeartbeats 4000000 in
set_option maxRecDepth 100000 in
theorem c_X4_markDeviation (l : Launch) (X : gX) (b0 : Nat) (lo : gL) (L : Nat → Nat → Nat) (K C : rM3) (e0 : gE) (M : rM2) (hM : Iv M) (hs : Sm L K M) (i : Nat) (hi : i < nMo M) (x y f : Int32) (hx : inR 0 x 450) (hy : inR 0 y 450) (hf : inR 940 f 1000) (ex : C 9 0 4 = x) (ey : C 9 0 5 = y) (k : Nat) (hk : k < nt (M 4 i)) : Ct l X b0 lo (enC X lo L K C e0) yX4_markDeviation cX4_markDeviation 6 (some FieldType.int) (rM 0 0) [.ref (lo 0), .ref (lo (100 + 4 * i)), .int (nI k), .int f] (pX (.int (mdV M i x y f k)) lo (enC X lo L K C e0)) := by
  refine gMet (by decide) (Nat.le_of_ble_eq_true rfl) rfl ?_
  intro Z hC hI hR
  have hi1 : i < L 2 0 := by rw [hs.1]; exact hi
  have hN : L 2 0 ≤ 10 := by rw [hs.1]; exact (Iv_nM hM).1
  have h25 : i < 25 := by omega
  obtain ⟨n, hn1, hn6, en, en2⟩ := Iv_st hM hi
  obtain ⟨a1, a2, a3, a4, a5, a6⟩ := hs.mo hi
  have h3 := hs.2.2.2.2.1
  obtain ⟨w1, w2⟩ := a6 k hk
  have q1 := (hM.2.2.2.2.2.2.1 i hi).2.2.2.2 k hk
  have r1 := md_R (f := f) q1.1 hf
  have r2 := md_R (f := f) (v := M 6 (6 * i + k)) ⟨q1.2.1, by have := q1.2.2; grind⟩ hf
  refine g_aload_n hC dX4_markDeviation_0 rfl ?_
  refine g_get hC rfl cO rfl kl_X4 8 (by decide) kf_X4_44 rfl rfl dX4_markDeviation_1 ?_
  refine g_get hC rfl cV rfl kl_X3 4 (by decide) kf_X4_219 rfl rfl dX4_markDeviation_4 ?_
  refine g_aload_n hC dX4_markDeviation_7 rfl ?_
  refine g_get hC rfl (cM hi1 h25) rfl kl_X1 3 (by decide) kf_X4_95 rfl rfl dX4_markDeviation_8 ?_
  refine g_iload_n hC dX4_markDeviation_11 rfl ?_
  refine g_iald hC rfl (cM2 hi1 h25) k rfl (by omega) (by decide) dX4_markDeviation_12 ?_
  refine g_iload_n hC dX4_markDeviation_13 rfl ?_
  refine g_imul hC dX4_markDeviation_14 ?_
  refine g_sipush (v := 1000) hC dX4_markDeviation_15 (by decide) ?_
  refine g_idiv hC dX4_markDeviation_18 (by decide) ?_
  refine g_isub hC dX4_markDeviation_19 ?_
  refine g_val (y := (x - M 5 (6 * i + k) * f / 1000)) (by rw [ex, w1]) ?_
  refine g_istore hC dX4_markDeviation_20 (by decide) ?_
  refine g_aload_n hC dX4_markDeviation_22 rfl ?_
  refine g_get hC rfl cO rfl kl_X4 8 (by decide) kf_X4_44 rfl rfl dX4_markDeviation_23 ?_
  refine g_get hC rfl cV rfl kl_X3 5 (by decide) kf_X4_222 rfl rfl dX4_markDeviation_26 ?_
  refine g_aload_n hC dX4_markDeviation_29 rfl ?_
  refine g_get hC rfl (cM hi1 h25) rfl kl_X1 4 (by decide) kf_X4_104 rfl rfl dX4_markDeviation_30 ?_
  refine g_iload_n hC dX4_markDeviation_33 rfl ?_
  refine g_iald hC rfl (cM3 hi1 h25) k rfl (by omega) (by decide) dX4_markDeviation_34 ?_
  refine g_iload_n hC dX4_markDeviation_35 rfl ?_
  refine g_imul hC dX4_markDeviation_36 ?_
  refine g_sipush (v := 1000) hC dX4_markDeviation_37 (by decide) ?_
  refine g_idiv hC dX4_markDeviation_40 (by decide) ?_
  refine g_isub hC dX4_markDeviation_41 ?_
  refine g_val (y := (y - M 6 (6 * i + k) * f / 1000)) (by rw [ey, w2]) ?_
  refine g_istore hC dX4_markDeviation_42 (by decide) ?_
  refine g_iload hC dX4_markDeviation_44 rfl ?_
  refine g_aload_n hC dX4_markDeviation_46 rfl ?_
  refine g_get hC rfl cO rfl kl_X4 3 (by decide) kf_X4_20 rfl rfl dX4_markDeviation_47 ?_
  refine g_icmp_gt (tgt := 82) hC dX4_markDeviation_50 (by decide) (fun c50 => ?_) (fun c50 => ?_)
  · refine g_iconst (v := (-1)) hC dX4_markDeviation_82 (by decide) ?_
    refine g_ireti hR dX4_markDeviation_83 rfl ?_
    clear hR hC hI
    refine pXi ?_
    have g1 := dev_gt2 hx r1 hM.2.2.1
    have g2 := dev_gt2 hy r2 hM.2.2.1
    rw [← h3] at g1 g2
    unfold mdV
    rw [if_neg]
    rw [← h3]
    clear hs hM hx hy r1 r2 q1 a5 a6 hi hi1 hk
    grind
  · refine g_iload hC dX4_markDeviation_53 rfl ?_
    refine g_aload_n hC dX4_markDeviation_55 rfl ?_
    refine g_get hC rfl cO rfl kl_X4 3 (by decide) kf_X4_20 rfl rfl dX4_markDeviation_56 ?_
    refine g_ineg hC dX4_markDeviation_59 ?_
    refine g_icmp_lt (tgt := 82) hC dX4_markDeviation_60 (by decide) (fun c60 => ?_) (fun c60 => ?_)
    · refine g_iconst (v := (-1)) hC dX4_markDeviation_82 (by decide) ?_
      refine g_ireti hR dX4_markDeviation_83 rfl ?_
      clear hR hC hI
      refine pXi ?_
      have g1 := dev_gt2 hx r1 hM.2.2.1
      have g2 := dev_gt2 hy r2 hM.2.2.1
      rw [← h3] at g1 g2
      unfold mdV
      rw [if_neg]
      rw [← h3]
      clear hs hM hx hy r1 r2 q1 a5 a6 hi hi1 hk
      grind
    · refine g_iload hC dX4_markDeviation_63 rfl ?_
      refine g_aload_n hC dX4_markDeviation_65 rfl ?_
      refine g_get hC rfl cO rfl kl_X4 3 (by decide) kf_X4_20 rfl rfl dX4_markDeviation_66 ?_
      refine g_icmp_gt (tgt := 82) hC dX4_markDeviation_69 (by decide) (fun c69 => ?_) (fun c69 => ?_)
      · refine g_iconst (v := (-1)) hC dX4_markDeviation_82 (by decide) ?_
        refine g_ireti hR dX4_markDeviation_83 rfl ?_
        clear hR hC hI
        refine pXi ?_
        have g1 := dev_gt2 hx r1 hM.2.2.1
        have g2 := dev_gt2 hy r2 hM.2.2.1
        rw [← h3] at g1 g2
        unfold mdV
        rw [if_neg]
        rw [← h3]
        clear hs hM hx hy r1 r2 q1 a5 a6 hi hi1 hk
        grind
      · refine g_iload hC dX4_markDeviation_72 rfl ?_
        refine g_aload_n hC dX4_markDeviation_74 rfl ?_
        refine g_get hC rfl cO rfl kl_X4 3 (by decide) kf_X4_20 rfl rfl dX4_markDeviation_75 ?_
        refine g_ineg hC dX4_markDeviation_78 ?_
        refine g_icmp_ge (tgt := 84) hC dX4_markDeviation_79 (by decide) (fun c79 => ?_) (fun c79 => ?_)
        · refine g_iload hC dX4_markDeviation_84 rfl ?_
          refine g_if_ge (tgt := 95) hC dX4_markDeviation_86 (by decide) (fun c86 => ?_) (fun c86 => ?_)
          · refine g_iload hC dX4_markDeviation_95 rfl ?_
            refine g_iload hC dX4_markDeviation_97 rfl ?_
            refine g_if_ge (tgt := 108) hC dX4_markDeviation_99 (by decide) (fun c99 => ?_) (fun c99 => ?_)
            · refine g_iload hC dX4_markDeviation_108 rfl ?_
              refine g_iadd hC dX4_markDeviation_110 ?_
              refine g_ireti hR dX4_markDeviation_111 rfl ?_
              clear hR hC hI
              refine pXi ?_
              have g1 := dev_gt2 hx r1 hM.2.2.1
              have g2 := dev_gt2 hy r2 hM.2.2.1
              have d1 := fun z => dev_ge hx r1 z
              have d2 := fun z => dev_ge hy r2 z
              have d3 := fun z => dev_lt hx r1 z
              have d4 := fun z => dev_lt hy r2 z
              rw [← h3] at g1 g2
              unfold mdV
              rw [if_pos]
              · clear hs hM hx hy r1 r2 q1 a5 a6 hi hi1 hk g1 g2
                grind
              · rw [← h3]
                clear hs hM hx hy r1 r2 q1 a5 a6 hi hi1 hk d1 d2 d3 d4
                grind
            · refine g_iload hC dX4_markDeviation_102 rfl ?_
              refine g_ineg hC dX4_markDeviation_104 ?_
              refine g_goto (tgt := 110) hC dX4_markDeviation_105 (by decide) ?_
              refine g_iadd hC dX4_markDeviation_110 ?_
              refine g_ireti hR dX4_markDeviation_111 rfl ?_
              clear hR hC hI
              refine pXi ?_
              have g1 := dev_gt2 hx r1 hM.2.2.1
              have g2 := dev_gt2 hy r2 hM.2.2.1
              have d1 := fun z => dev_ge hx r1 z
              have d2 := fun z => dev_ge hy r2 z
              have d3 := fun z => dev_lt hx r1 z
              have d4 := fun z => dev_lt hy r2 z
              rw [← h3] at g1 g2
              unfold mdV
              rw [if_pos]
              · clear hs hM hx hy r1 r2 q1 a5 a6 hi hi1 hk g1 g2
                grind
              · rw [← h3]
                clear hs hM hx hy r1 r2 q1 a5 a6 hi hi1 hk d1 d2 d3 d4
                grind
          · refine g_iload hC dX4_markDeviation_89 rfl ?_
            refine g_ineg hC dX4_markDeviation_91 ?_
            refine g_goto (tgt := 97) hC dX4_markDeviation_92 (by decide) ?_
            refine g_iload hC dX4_markDeviation_97 rfl ?_
            refine g_if_ge (tgt := 108) hC dX4_markDeviation_99 (by decide) (fun c99 => ?_) (fun c99 => ?_)
            · refine g_iload hC dX4_markDeviation_108 rfl ?_
              refine g_iadd hC dX4_markDeviation_110 ?_
              refine g_ireti hR dX4_markDeviation_111 rfl ?_
              clear hR hC hI
              refine pXi ?_
              have g1 := dev_gt2 hx r1 hM.2.2.1
              have g2 := dev_gt2 hy r2 hM.2.2.1
              have d1 := fun z => dev_ge hx r1 z
              have d2 := fun z => dev_ge hy r2 z
              have d3 := fun z => dev_lt hx r1 z
              have d4 := fun z => dev_lt hy r2 z
              rw [← h3] at g1 g2
              unfold mdV
              rw [if_pos]
              · clear hs hM hx hy r1 r2 q1 a5 a6 hi hi1 hk g1 g2
                grind
              · rw [← h3]
                clear hs hM hx hy r1 r2 q1 a5 a6 hi hi1 hk d1 d2 d3 d4
                grind
            · refine g_iload hC dX4_markDeviation_102 rfl ?_
              refine g_ineg hC dX4_markDeviation_104 ?_
              refine g_goto (tgt := 110) hC dX4_markDeviation_105 (by decide) ?_
              refine g_iadd hC dX4_markDeviation_110 ?_
              refine g_ireti hR dX4_markDeviation_111 rfl ?_
              clear hR hC hI
              refine pXi ?_
              have g1 := dev_gt2 hx r1 hM.2.2.1
              have g2 := dev_gt2 hy r2 hM.2.2.1
              have d1 := fun z => dev_ge hx r1 z
              have d2 := fun z => dev_ge hy r2 z
              have d3 := fun z => dev_lt hx r1 z
              have d4 := fun z => dev_lt hy r2 z
              rw [← h3] at g1 g2
              unfold mdV
              rw [if_pos]
              · clear hs hM hx hy r1 r2 q1 a5 a6 hi hi1 hk g1 g2
                grind
              · rw [← h3]
                clear hs hM hx hy r1 r2 q1 a5 a6 hi hi1 hk d1 d2 d3 d4
                grind
        · refine g_iconst (v := (-1)) hC dX4_markDeviation_82 (by decide) ?_
          refine g_ireti hR dX4_markDeviation_83 rfl ?_
          clear hR hC hI
          refine pXi ?_
          have g1 := dev_gt2 hx r1 hM.2.2.1
          have g2 := dev_gt2 hy r2 hM.2.2.1
          rw [← h3] at g1 g2
          unfold mdV
          rw [if_neg]
          rw [← h3]
          clear hs hM hx hy r1 r2 q1 a5 a6 hi hi1 hk
          grind

def fsV (o : Option (Nat × Int32)) : Int32 := match o with | none => -1 | some q => nI q.1
def fsL (o : Option (Nat × Int32)) : Int32 := match o with | none => 0 | some q => q.2
theorem msM_s {M : rM2} {i k : Nat} {x y f : Int32} : msM M i x y f (k + 1) = if mdV M i x y f k = -1 ∧ ¬ (ap x (M 5 (6 * i + k) * f / 1000) ≤ M 20 3 ∧ ap y (M 6 (6 * i + k) * f / 1000) ≤ M 20 3) then msM M i x y f k else (match msM M i x y f k with | none => some (k, mdV M i x y f k) | some q => if mdV M i x y f k < q.2 then some (k, mdV M i x y f k) else some q) := by
  unfold mdV
  by_cases h : ap x (M 5 (6 * i + k) * f / 1000) ≤ M 20 3 ∧ ap y (M 6 (6 * i + k) * f / 1000) ≤ M 20 3
  · rw [if_pos h, if_neg (fun z => z.2 h)]
    exact if_pos h
  · rw [if_neg h, if_pos ⟨rfl, h⟩]
    exact if_neg h
theorem mdV_R {M : rM2} {i k : Nat} {x y f : Int32} (hM : Iv M) (hi : i < nMo M) (hk : k < nt (M 4 i)) (hx : inR 0 x 450) (hy : inR 0 y 450) (hf : inR 940 f 1000) : (mdV M i x y f k = -1 ∧ ¬ (ap x (M 5 (6 * i + k) * f / 1000) ≤ M 20 3 ∧ ap y (M 6 (6 * i + k) * f / 1000) ≤ M 20 3)) ∨ (0 ≤ mdV M i x y f k ∧ (ap x (M 5 (6 * i + k) * f / 1000) ≤ M 20 3 ∧ ap y (M 6 (6 * i + k) * f / 1000) ≤ M 20 3)) := by
  have q1 := (hM.2.2.2.2.2.2.1 i hi).2.2.2.2 k hk
  have r1 := ap_md_R hx q1.1 hf
  have r2 := ap_md_R hy (v := M 6 (6 * i + k)) ⟨q1.2.1, by have := q1.2.2; grind⟩ hf
  unfold mdV
  by_cases h : ap x (M 5 (6 * i + k) * f / 1000) ≤ M 20 3 ∧ ap y (M 6 (6 * i + k) * f / 1000) ≤ M 20 3
  · rw [if_pos h]; exact Or.inr ⟨by grind, h⟩
  · rw [if_neg h]; exact Or.inl ⟨rfl, h⟩
/-- the state that is found has its own deviation -/
theorem msM_val {M : rM2} {i : Nat} {x y f : Int32} : ∀ {n : Nat} {q : Nat × Int32}, msM M i x y f n = some q → q.2 = mdV M i x y f q.1
  | 0, q, h => by simp [msM, msF] at h
  | n + 1, q, h => by
    rw [msM_s] at h
    split at h
    · exact msM_val h
    · split at h
      · cases h; rfl
      · rename_i q0 h0
        split at h
        · cases h; rfl
        · cases h; exact msM_val h0

set_option maxHeartbeats 4000000 in
set_option maxRecDepth 100000 in
theorem c_X4_fittingState (l : Launch) (X : gX) (b0 : Nat) (lo : gL) (L : Nat → Nat → Nat) (K C : rM3) (e0 : gE) (M : rM2) (hM : Iv M) (hs : Sm L K M) (i : Nat) (hi : i < nMo M) (x y f : Int32) (hx : inR 0 x 450) (hy : inR 0 y 450) (hf : inR 940 f 1000) (ex : C 9 0 4 = x) (ey : C 9 0 5 = y) : Ct l X b0 lo (enC X lo L K C e0) yX4_fittingState cX4_fittingState 7 (some FieldType.int) (rM 1 25) [.ref (lo 0), .ref (lo (100 + 4 * i)), .int f] (pX (.int (fsV (msM M i x y f (nt (M 4 i))))) lo (enC X lo L K C e0)) := by
  refine gMet (by decide) (Nat.le_of_ble_eq_true rfl) rfl ?_
  intro Z hC hI hR
  have hi1 : i < L 2 0 := by rw [hs.1]; exact hi
  have hN : L 2 0 ≤ 10 := by rw [hs.1]; exact (Iv_nM hM).1
  have h25 : i < 25 := by omega
  obtain ⟨n, hn1, hn6, en, en2⟩ := Iv_st hM hi
  obtain ⟨a1, a2, a3, a4, a5, a6⟩ := hs.mo hi
  have h3 := hs.2.2.2.2.1
  refine g_iconst (v := (-1)) hC dX4_fittingState_0 (by decide) ?_
  refine g_istore_n hC dX4_fittingState_1 (by decide) ?_
  refine g_iconst (v := 0) hC dX4_fittingState_2 (by decide) ?_
  refine g_istore hC dX4_fittingState_3 (by decide) ?_
  refine g_iconst (v := 0) hC dX4_fittingState_5 (by decide) ?_
  refine g_istore hC dX4_fittingState_6 (by decide) ?_
  have lf : ∀ (r : Nat) (k : Nat), k + r = n → GO l X b0 Z 0 0 lo (enC X lo L K C e0) 8 [(0, .ref (lo 0)), (1, .ref (lo (100 + 4 * i))), (2, .int f), (3, .int (fsV (msM M i x y f k))), (4, .int (fsL (msM M i x y f k))), (5, .int (nI k))] [] := by
    intro r
    induction r with
    | zero =>
      intro k hk
      have hk8 : k = n := by omega
      subst hk8
      refine g_iload hC dX4_fittingState_8 rfl ?_
      refine g_aload_n hC dX4_fittingState_10 rfl ?_
      refine g_get hC rfl (cM hi1 h25) rfl kl_X1 5 (by decide) kf_X4_88 rfl rfl dX4_fittingState_11 ?_
      refine g_icmp_ge (tgt := 58) hC dX4_fittingState_14 (by decide) (fun c14 => ?_) (fun c14 => absurd (by rw [a4, en]; exact nI_le (by omega) (by omega)) c14)
      refine g_iload_n hC dX4_fittingState_58 rfl ?_
      refine g_ireti hR dX4_fittingState_59 rfl ?_
      clear hR hC hI
      refine pXi ?_
      rw [en2]
    | succ r ihlf =>
      intro k hk
      refine g_iload hC dX4_fittingState_8 rfl ?_
      refine g_aload_n hC dX4_fittingState_10 rfl ?_
      refine g_get hC rfl (cM hi1 h25) rfl kl_X1 5 (by decide) kf_X4_88 rfl rfl dX4_fittingState_11 ?_
      refine g_icmp_ge (tgt := 58) hC dX4_fittingState_14 (by decide) (fun c14 => absurd c14 (by rw [a4, en]; exact nI_ge (by omega) (by omega))) (fun c14 => ?_)
      refine g_aload_n hC dX4_fittingState_17 rfl ?_
      refine g_aload_n hC dX4_fittingState_18 rfl ?_
      refine g_iload hC dX4_fittingState_19 rfl ?_
      refine g_iload_n hC dX4_fittingState_21 rfl ?_
      refine g_callV hC v_X4_markDeviation km_X4_211 (c_X4_markDeviation l X b0 lo L _ _ e0 M hM hs i hi x y f hx hy hf ex ey k (by omega)) rfl cO rfl rfl rfl rfl (Nat.le_of_ble_eq_true rfl) ⟨by decide, by decide⟩ ⟨by decide, by decide⟩ dX4_fittingState_22 (kX ?_)
      refine g_istore hC dX4_fittingState_25 (by decide) ?_
      refine g_iload hC dX4_fittingState_27 rfl ?_
      refine g_iconst (v := (-1)) hC dX4_fittingState_29 (by decide) ?_
      refine g_icmp_eq (tgt := 52) hC dX4_fittingState_30 (by decide) (fun c30 => ?_) (fun c30 => ?_)
      · have hst : msM M i x y f (k + 1) = msM M i x y f k := by
          have hR0 := mdV_R hM hi (k := k) (by omega) hx hy hf
          have hps : ∀ q, msM M i x y f k = some q → ¬ nI q.1 = -1 := fun q hq z => absurd (show nI q.1 < 0 by rw [z]; decide) (nI_pos (by have := (msF_R hx hy hf (fun a ha => by have := (hM.2.2.2.2.2.2.1 i hi).2.2.2.2 a (by omega); exact ⟨this.1, by grind⟩) hq).1; omega))
          rw [msM_s]
          clear hC hI hR ihlf hs hM hx hy
          generalize msM M i x y f k = o at *
          generalize mdV M i x y f k = d at *
          cases o <;> simp only [fsV, fsL] at * <;> grind
        refine g_iinc hC dX4_fittingState_52 rfl (nI_inc k) (by decide) ?_
        refine g_goto (tgt := 8) hC dX4_fittingState_55 (by decide) ?_
        exact g_lv (lv' := [(0, .ref (lo 0)), (1, .ref (lo (100 + 4 * i))), (2, .int f), (3, .int (fsV (msM M i x y f (k + 1)))), (4, .int (fsL (msM M i x y f (k + 1)))), (5, .int (nI (k + 1)))]) ⟨rfl, rfl, rfl, (by rw [hst]; rfl), (by rw [hst]; rfl), rfl, trivial⟩ (ihlf (k + 1) (by omega))
      · refine g_iload_n hC dX4_fittingState_33 rfl ?_
        refine g_iconst (v := (-1)) hC dX4_fittingState_34 (by decide) ?_
        refine g_icmp_eq (tgt := 45) hC dX4_fittingState_35 (by decide) (fun c35 => ?_) (fun c35 => ?_)
        · refine g_iload hC dX4_fittingState_45 rfl ?_
          refine g_istore_n hC dX4_fittingState_47 (by decide) ?_
          refine g_iload hC dX4_fittingState_48 rfl ?_
          refine g_istore hC dX4_fittingState_50 (by decide) ?_
          have hst : msM M i x y f (k + 1) = some (k, mdV M i x y f k) := by
            have hR0 := mdV_R hM hi (k := k) (by omega) hx hy hf
            have hps : ∀ q, msM M i x y f k = some q → ¬ nI q.1 = -1 := fun q hq z => absurd (show nI q.1 < 0 by rw [z]; decide) (nI_pos (by have := (msF_R hx hy hf (fun a ha => by have := (hM.2.2.2.2.2.2.1 i hi).2.2.2.2 a (by omega); exact ⟨this.1, by grind⟩) hq).1; omega))
            rw [msM_s]
            clear hC hI hR ihlf hs hM hx hy
            generalize msM M i x y f k = o at *
            generalize mdV M i x y f k = d at *
            cases o <;> simp only [fsV, fsL] at * <;> grind
          refine g_iinc hC dX4_fittingState_52 rfl (nI_inc k) (by decide) ?_
          refine g_goto (tgt := 8) hC dX4_fittingState_55 (by decide) ?_
          exact g_lv (lv' := [(0, .ref (lo 0)), (1, .ref (lo (100 + 4 * i))), (2, .int f), (3, .int (fsV (msM M i x y f (k + 1)))), (4, .int (fsL (msM M i x y f (k + 1)))), (5, .int (nI (k + 1)))]) ⟨rfl, rfl, rfl, (by rw [hst]; rfl), (by rw [hst]; rfl), rfl, trivial⟩ (ihlf (k + 1) (by omega))
        · refine g_iload hC dX4_fittingState_38 rfl ?_
          refine g_iload hC dX4_fittingState_40 rfl ?_
          refine g_icmp_ge (tgt := 52) hC dX4_fittingState_42 (by decide) (fun c42 => ?_) (fun c42 => ?_)
          · have hst : msM M i x y f (k + 1) = msM M i x y f k := by
              have hR0 := mdV_R hM hi (k := k) (by omega) hx hy hf
              have hps : ∀ q, msM M i x y f k = some q → ¬ nI q.1 = -1 := fun q hq z => absurd (show nI q.1 < 0 by rw [z]; decide) (nI_pos (by have := (msF_R hx hy hf (fun a ha => by have := (hM.2.2.2.2.2.2.1 i hi).2.2.2.2 a (by omega); exact ⟨this.1, by grind⟩) hq).1; omega))
              rw [msM_s]
              clear hC hI hR ihlf hs hM hx hy
              generalize msM M i x y f k = o at *
              generalize mdV M i x y f k = d at *
              cases o <;> simp only [fsV, fsL] at * <;> grind
            refine g_iinc hC dX4_fittingState_52 rfl (nI_inc k) (by decide) ?_
            refine g_goto (tgt := 8) hC dX4_fittingState_55 (by decide) ?_
            exact g_lv (lv' := [(0, .ref (lo 0)), (1, .ref (lo (100 + 4 * i))), (2, .int f), (3, .int (fsV (msM M i x y f (k + 1)))), (4, .int (fsL (msM M i x y f (k + 1)))), (5, .int (nI (k + 1)))]) ⟨rfl, rfl, rfl, (by rw [hst]; rfl), (by rw [hst]; rfl), rfl, trivial⟩ (ihlf (k + 1) (by omega))
          · refine g_iload hC dX4_fittingState_45 rfl ?_
            refine g_istore_n hC dX4_fittingState_47 (by decide) ?_
            refine g_iload hC dX4_fittingState_48 rfl ?_
            refine g_istore hC dX4_fittingState_50 (by decide) ?_
            have hst : msM M i x y f (k + 1) = some (k, mdV M i x y f k) := by
              have hR0 := mdV_R hM hi (k := k) (by omega) hx hy hf
              have hps : ∀ q, msM M i x y f k = some q → ¬ nI q.1 = -1 := fun q hq z => absurd (show nI q.1 < 0 by rw [z]; decide) (nI_pos (by have := (msF_R hx hy hf (fun a ha => by have := (hM.2.2.2.2.2.2.1 i hi).2.2.2.2 a (by omega); exact ⟨this.1, by grind⟩) hq).1; omega))
              rw [msM_s]
              clear hC hI hR ihlf hs hM hx hy
              generalize msM M i x y f k = o at *
              generalize mdV M i x y f k = d at *
              cases o <;> simp only [fsV, fsL] at * <;> grind
            refine g_iinc hC dX4_fittingState_52 rfl (nI_inc k) (by decide) ?_
            refine g_goto (tgt := 8) hC dX4_fittingState_55 (by decide) ?_
            exact g_lv (lv' := [(0, .ref (lo 0)), (1, .ref (lo (100 + 4 * i))), (2, .int f), (3, .int (fsV (msM M i x y f (k + 1)))), (4, .int (fsL (msM M i x y f (k + 1)))), (5, .int (nI (k + 1)))]) ⟨rfl, rfl, rfl, (by rw [hst]; rfl), (by rw [hst]; rfl), rfl, trivial⟩ (ihlf (k + 1) (by omega))
  exact g_lv (lv' := [(0, .ref (lo 0)), (1, .ref (lo (100 + 4 * i))), (2, .int f), (3, .int (-1)), (4, .int 0), (5, .int (nI 0))]) ⟨rfl, rfl, rfl, rfl, rfl, rfl, trivial⟩ (lf n 0 (by omega))
