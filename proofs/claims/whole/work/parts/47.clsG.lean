/-! ===== the class: the search, and what is kept of it ===== -/
def cO2 (C C1 : rM3) (r : Nat) : Prop := ∀ b x y, b ≠ 9 → b ≠ 10 → ¬ (b = 8 ∧ x = r ∧ y ≠ 0) → C1 b x y = C b x y
theorem cO2.tr1 {C C1 C2 : rM3} {r : Nat} (h : cO2 C C1 r) (h2 : cO1 C1 C2 r) : cO2 C C2 r := fun b x y b1 b2 hn => (h2 b x y hn).trans (h b x y b1 b2 hn)
theorem cO2.trV {C C1 C2 : rM3} {r : Nat} (h : cO2 C C1 r) (h2 : ∀ b, b ≠ 9 → b ≠ 10 → C2 b = C1 b) : cO2 C C2 r := fun b x y b1 b2 hn => by rw [h2 b b1 b2]; exact h b x y b1 b2 hn
theorem mtB.eq {C C1 : rM3} {r : Nat} {b : gB} (h : mtB C r b) (e : C1 8 = C 8) : mtB C1 r b := by unfold mtB at *; rw [e]; exact h
theorem bF_skip {M : rM2} {j i t o : Nat} {b : gB} (h : ∀ f, plF M j i t o f = none) : ∀ k, bF M j i t o k b = b
  | 0 => rfl
  | k + 1 => by unfold bF; rw [h, bF_skip h k]; rfl
theorem pl_skip {M : rM2} {j i t o : Nat} (h9 : ¬ M 9 j < 0) (h : ¬ nI o + (if rvT t then M 7 j - 1 - M 9 j else M 9 j) = M 3 i) (f : Int32) : plF M j i t o f = none := by
  unfold plF
  cases ssF (sS M j (rvT t)) (qQ M i o) (M 20 2) f (nt (M 7 j)) with
  | none => rfl
  | some s => dsimp only; rw [if_neg h9, if_neg h]

set_option maxHeartbeats 4000000 in
set_option maxRecDepth 100000 in
theorem c_X4_findBest (l : Launch) (X : gX) (b0 : Nat) (lo : gL) (L : Nat → Nat → Nat) (K C : rM3) (e0 : gE) (M : rM2) (hM : Iv M) (hs : Sm L K M) (j i : Nat) (hj : j < nSh M) (hi : i < nMo M) : Ct l X b0 lo (enC X lo L K C e0) yX4_findBest cX4_findBest 8 none (rM 3 77) [.ref (lo 0), .ref (lo (200 + 16 * j)), .ref (lo (100 + 4 * i)), .ref (lo (203 + (16 * j + i)))] (pV lo (fun en' => ∃ C1 : rM3, en' = enC X lo L K C1 e0 ∧ mtB C1 (16 * j + i) (fb M j i) ∧ cO2 C C1 (16 * j + i))) := by
  refine gMet (by decide) (Nat.le_of_ble_eq_true rfl) rfl ?_
  intro Z hC hI hR
  have hi1 : i < L 2 0 := by rw [hs.1]; exact hi
  have hN : L 2 0 ≤ 10 := by rw [hs.1]; exact (Iv_nM hM).1
  have h25 : i < 25 := by omega
  have hi10 : i < 10 := by omega
  have hj1 : j < L 2 1 := by rw [hs.2.1]; exact hj
  have hSS : L 2 1 ≤ 30 := by rw [hs.2.1]; exact (Iv_nS hM).1
  have hj50 : j < 50 := by omega
  obtain ⟨n, hn2, hn10, en, en2⟩ := Iv_sh hM hj
  obtain ⟨m, hm3, hm10, em, em2⟩ := Iv_mo hM hi
  obtain ⟨a1, a2, a3, a4, a5, a6⟩ := hs.mo hi
  obtain ⟨s1, s2, s3, s4, s5, s6, s7⟩ := hs.sh hj
  refine g_aload_n hC dX4_findBest_0 rfl ?_
  refine g_iconst (v := 0) hC dX4_findBest_1 (by decide) ?_
  refine g_put (ty := .boolean) hC rfl (cT hj1 hj50 hi10) rfl kl_X0 1 (by decide) kf_X4_132 rfl tyX0 tyX0_ok nmX0 rfl (by decide +kernel) rfl rfl (Nat.le_of_ble_eq_true rfl) dX4_findBest_2 (fun en37 hen37 => ?_)
  replace hen37 := cPT1 hj1 hj50 hi10 hen37
  obtain ⟨C37, hC37, hen37⟩ := hen37
  subst hen37
  refine g_aload_n hC dX4_findBest_5 rfl ?_
  refine g_get hC rfl (cM hi1 h25) rfl kl_X1 0 (by decide) kf_X4_173 rfl rfl dX4_findBest_6 ?_
  refine g_alenI hC rfl (cM1 hi1 h25) dX4_findBest_9 ?_
  refine g_aload_n hC dX4_findBest_10 rfl ?_
  refine g_get hC rfl (cS hj1 hj50) rfl kl_X2 0 (by decide) kf_X4_193 rfl rfl dX4_findBest_11 ?_
  refine g_alenI hC rfl (cS1 hj1 hj50) dX4_findBest_14 ?_
  refine g_isub hC dX4_findBest_15 ?_
  refine g_val (y := M 1 i - M 7 j) (by rw [a1, s1, em2, en2, em, en]) ?_
  refine g_istore hC dX4_findBest_16 (by decide) ?_
  refine g_iconst (v := 0) hC dX4_findBest_18 (by decide) ?_
  refine g_istore hC dX4_findBest_19 (by decide) ?_
  have lt : ∀ (r : Nat) (t : Nat) (C1 : rM3), t + r = 4 → cO2 C C1 (16 * j + i) → mtB C1 (16 * j + i) (bT M j i t none) → GO l X b0 Z 0 0 lo (enC X lo L K C1 e0) 21 [(0, .ref (lo 0)), (1, .ref (lo (200 + 16 * j))), (2, .ref (lo (100 + 4 * i))), (3, .ref (lo (203 + (16 * j + i)))), (4, .int (M 1 i - M 7 j)), (5, .int (nI t))] [] := by
    intro r
    induction r with
    | zero =>
      intro t C1 ht4 hck hbk
      have ht9 : t = 4 := by omega
      subst ht9
      refine g_iload hC dX4_findBest_21 rfl ?_
      refine g_iconst (v := 4) hC dX4_findBest_23 (by decide) ?_
      refine g_icmp_ge (tgt := 119) hC dX4_findBest_24 (by decide) (fun c24 => ?_) (fun c24 => absurd (by decide) c24)
      refine g_retv hR dX4_findBest_119 ?_
      clear hR hC hI
      exact ⟨rfl, rfl, C1, rfl, hbk, hck⟩
    | succ r ihlt =>
      intro t C1 ht4 hck hbk
      refine g_iload hC dX4_findBest_21 rfl ?_
      refine g_iconst (v := 4) hC dX4_findBest_23 (by decide) ?_
      refine g_icmp_ge (tgt := 119) hC dX4_findBest_24 (by decide) (fun c24 => absurd c24 (nI_ge (a := t) (b := 4) (by omega) (by decide))) (fun c24 => ?_)
      refine g_aload_n hC dX4_findBest_27 rfl ?_
      refine g_get hC rfl cO rfl kl_X4 8 (by decide) kf_X4_44 rfl rfl dX4_findBest_28 ?_
      refine g_aload_n hC dX4_findBest_31 rfl ?_
      refine g_iload hC dX4_findBest_32 rfl ?_
      refine g_callV hC v_X3_turn km_X4_194 (c_X3_turn l X b0 lo L _ _ e0 M hM hs j t hj (by omega)) rfl cV rfl rfl rfl rfl (Nat.le_of_ble_eq_true rfl) ⟨by decide, by decide⟩ ⟨by decide, by decide⟩ dX4_findBest_34 (kV ?_)
      rintro en' ⟨C2, rfl, hv2, hk2⟩
      refine g_iconst (v := 0) hC dX4_findBest_37 (by decide) ?_
      refine g_istore hC dX4_findBest_38 (by decide) ?_
      have lo_ : ∀ (r : Nat) (o : Nat) (C1 : rM3), o + r = nO M j i → cO2 C C1 (16 * j + i) → vO C1 M j t → mtB C1 (16 * j + i) (bO M j i t o (bT M j i t none)) → GO l X b0 Z 0 0 lo (enC X lo L K C1 e0) 40 [(0, .ref (lo 0)), (1, .ref (lo (200 + 16 * j))), (2, .ref (lo (100 + 4 * i))), (3, .ref (lo (203 + (16 * j + i)))), (4, .int (M 1 i - M 7 j)), (5, .int (nI t)), (6, .int (nI o))] [] := by
        intro r
        induction r with
        | zero =>
          intro o C1 ho9 hck hvk hbk
          have ho8 : o = nO M j i := by omega
          subst ho8
          have hnO : nO M j i = m + 1 - n := by unfold nO; rw [em2, en2]
          refine g_iload hC dX4_findBest_40 rfl ?_
          refine g_iload hC dX4_findBest_42 rfl ?_
          refine g_icmp_gt (tgt := 113) hC dX4_findBest_44 (by decide) (fun c44 => ?_) (fun c44 => absurd ((off_gt em en hm10 hn10 (by omega)).mpr (by omega)) c44)
          refine g_iinc hC dX4_findBest_113 rfl (nI_inc t) (by decide) ?_
          refine g_goto (tgt := 21) hC dX4_findBest_116 (by decide) ?_
          exact g_lv (lv' := [(0, .ref (lo 0)), (1, .ref (lo (200 + 16 * j))), (2, .ref (lo (100 + 4 * i))), (3, .ref (lo (203 + (16 * j + i)))), (4, .int (M 1 i - M 7 j)), (5, .int (nI (t + 1)))]) ⟨rfl, rfl, rfl, rfl, rfl, rfl, trivial⟩ (ihlt (t + 1) C1 (by omega) hck hbk)
        | succ r ihlo_ =>
          intro o C1 ho9 hck hvk hbk
          have hnO : nO M j i = m + 1 - n := by unfold nO; rw [em2, en2]
          have ho : o + nt (M 7 j) ≤ nt (M 1 i) := nO_le (by omega)
          have v3 := hvk.2.2.1
          refine g_iload hC dX4_findBest_40 rfl ?_
          refine g_iload hC dX4_findBest_42 rfl ?_
          refine g_icmp_gt (tgt := 113) hC dX4_findBest_44 (by decide) (fun c44 => absurd c44 (fun z => absurd ((off_gt em en hm10 hn10 (by omega)).mp z) (by omega))) (fun c44 => ?_)
          refine g_aload_n hC dX4_findBest_47 rfl ?_
          refine g_get hC rfl cO rfl kl_X4 8 (by decide) kf_X4_44 rfl rfl dX4_findBest_48 ?_
          refine g_get hC rfl cV rfl kl_X3 3 (by decide) kf_X4_198 rfl rfl dX4_findBest_51 ?_
          refine g_iconst (v := (-1)) hC dX4_findBest_54 (by decide) ?_
          refine g_icmp_eq (tgt := 78) hC dX4_findBest_55 (by decide) (fun c55 => ?_) (fun c55 => ?_)
          · have hmk : ¬ M 9 j < 0 → nI o + (if rvT t then M 7 j - 1 - M 9 j else M 9 j) = M 3 i := fun z => by
              rw [if_neg z] at v3
              obtain ⟨-, -, k9, hk9, ek9⟩ := pxy_R (t := t) hM hj z
              first
              | exact absurd (v3.symm.trans c55) (inn_ne en ek9 (by omega) (by omega))
              | (rw [← v3, ← a2]; exact c72)
            refine g_sipush (v := 1000) hC dX4_findBest_78 (by decide) ?_
            refine g_istore hC dX4_findBest_81 (by decide) ?_
            have lk : ∀ (r : Nat) (k : Nat) (C1 : rM3), k + r = 13 → cO2 C C1 (16 * j + i) → vO C1 M j t → mtB C1 (16 * j + i) (bF M j i t o k (bO M j i t o (bT M j i t none))) → GO l X b0 Z 0 0 lo (enC X lo L K C1 e0) 83 [(0, .ref (lo 0)), (1, .ref (lo (200 + 16 * j))), (2, .ref (lo (100 + 4 * i))), (3, .ref (lo (203 + (16 * j + i)))), (4, .int (M 1 i - M 7 j)), (5, .int (nI t)), (6, .int (nI o)), (7, .int (fc k))] [] := by
              intro r
              induction r with
              | zero =>
                intro k C1 hk9 hck hvk hbk
                have hk8 : k = 13 := by omega
                subst hk8
                refine g_iload hC dX4_findBest_83 rfl ?_
                refine g_sipush (v := 940) hC dX4_findBest_85 (by decide) ?_
                refine g_icmp_lt (tgt := 107) hC dX4_findBest_88 (by decide) (fun c88 => ?_) (fun c88 => absurd (by decide) c88)
                refine g_iinc hC dX4_findBest_107 rfl (nI_inc o) (by decide) ?_
                refine g_goto (tgt := 40) hC dX4_findBest_110 (by decide) ?_
                exact g_lv (lv' := [(0, .ref (lo 0)), (1, .ref (lo (200 + 16 * j))), (2, .ref (lo (100 + 4 * i))), (3, .ref (lo (203 + (16 * j + i)))), (4, .int (M 1 i - M 7 j)), (5, .int (nI t)), (6, .int (nI (o + 1)))]) ⟨rfl, rfl, rfl, rfl, rfl, rfl, rfl, trivial⟩ (ihlo_ (o + 1) C1 (by omega) hck hvk hbk)
              | succ r ihlk =>
                intro k C1 hk9 hck hvk hbk
                refine g_iload hC dX4_findBest_83 rfl ?_
                refine g_sipush (v := 940) hC dX4_findBest_85 (by decide) ?_
                refine g_icmp_lt (tgt := 107) hC dX4_findBest_88 (by decide) (fun c88 => absurd c88 (Int32.not_lt.mpr (fc_R (by omega)).1)) (fun c88 => ?_)
                refine g_aload_n hC dX4_findBest_91 rfl ?_
                refine g_aload_n hC dX4_findBest_92 rfl ?_
                refine g_iload hC dX4_findBest_93 rfl ?_
                refine g_iload hC dX4_findBest_95 rfl ?_
                refine g_aload_n hC dX4_findBest_97 rfl ?_
                refine g_callV hC v_X4_tryPlacement km_X4_199 (c_X4_tryPlacement l X b0 lo L _ _ e0 M hM hs j i t o hj hi ho hvk (fc k) (fc_R (by omega)) hmk _ hbk) rfl cO rfl rfl rfl rfl (Nat.le_of_ble_eq_true rfl) ⟨by decide, by decide⟩ ⟨by decide, by decide⟩ dX4_findBest_98 (kV ?_)
                rintro en' ⟨C3, rfl, hb3, hc3⟩
                refine g_iinc hC dX4_findBest_101 rfl (fc_dec (by omega)) (by decide) ?_
                refine g_goto (tgt := 83) hC dX4_findBest_104 (by decide) ?_
                exact g_lv (lv' := [(0, .ref (lo 0)), (1, .ref (lo (200 + 16 * j))), (2, .ref (lo (100 + 4 * i))), (3, .ref (lo (203 + (16 * j + i)))), (4, .int (M 1 i - M 7 j)), (5, .int (nI t)), (6, .int (nI o)), (7, .int (fc (k + 1)))]) ⟨rfl, rfl, rfl, rfl, rfl, rfl, rfl, rfl, trivial⟩ (ihlk (k + 1) C3 (by omega) (hck.tr1 hc3) (hvk.keep hc3) hb3)
            exact g_lv (lv' := [(0, .ref (lo 0)), (1, .ref (lo (200 + 16 * j))), (2, .ref (lo (100 + 4 * i))), (3, .ref (lo (203 + (16 * j + i)))), (4, .int (M 1 i - M 7 j)), (5, .int (nI t)), (6, .int (nI o)), (7, .int (fc 0))]) ⟨rfl, rfl, rfl, rfl, rfl, rfl, rfl, rfl, trivial⟩ (lk 13 0 C1 (by omega) hck hvk hbk)
          · refine g_iload hC dX4_findBest_58 rfl ?_
            refine g_aload_n hC dX4_findBest_60 rfl ?_
            refine g_get hC rfl cO rfl kl_X4 8 (by decide) kf_X4_44 rfl rfl dX4_findBest_61 ?_
            refine g_get hC rfl cV rfl kl_X3 3 (by decide) kf_X4_198 rfl rfl dX4_findBest_64 ?_
            refine g_iadd hC dX4_findBest_67 ?_
            refine g_aload_n hC dX4_findBest_68 rfl ?_
            refine g_get hC rfl (cM hi1 h25) rfl kl_X1 1 (by decide) kf_X4_176 rfl rfl dX4_findBest_69 ?_
            refine g_icmp_eq (tgt := 78) hC dX4_findBest_72 (by decide) (fun c72 => ?_) (fun c72 => ?_)
            · have hmk : ¬ M 9 j < 0 → nI o + (if rvT t then M 7 j - 1 - M 9 j else M 9 j) = M 3 i := fun z => by
                rw [if_neg z] at v3
                obtain ⟨-, -, k9, hk9, ek9⟩ := pxy_R (t := t) hM hj z
                first
                | exact absurd (v3.symm.trans c55) (inn_ne en ek9 (by omega) (by omega))
                | (rw [← v3, ← a2]; exact c72)
              refine g_sipush (v := 1000) hC dX4_findBest_78 (by decide) ?_
              refine g_istore hC dX4_findBest_81 (by decide) ?_
              have lk : ∀ (r : Nat) (k : Nat) (C1 : rM3), k + r = 13 → cO2 C C1 (16 * j + i) → vO C1 M j t → mtB C1 (16 * j + i) (bF M j i t o k (bO M j i t o (bT M j i t none))) → GO l X b0 Z 0 0 lo (enC X lo L K C1 e0) 83 [(0, .ref (lo 0)), (1, .ref (lo (200 + 16 * j))), (2, .ref (lo (100 + 4 * i))), (3, .ref (lo (203 + (16 * j + i)))), (4, .int (M 1 i - M 7 j)), (5, .int (nI t)), (6, .int (nI o)), (7, .int (fc k))] [] := by
                intro r
                induction r with
                | zero =>
                  intro k C1 hk9 hck hvk hbk
                  have hk8 : k = 13 := by omega
                  subst hk8
                  refine g_iload hC dX4_findBest_83 rfl ?_
                  refine g_sipush (v := 940) hC dX4_findBest_85 (by decide) ?_
                  refine g_icmp_lt (tgt := 107) hC dX4_findBest_88 (by decide) (fun c88 => ?_) (fun c88 => absurd (by decide) c88)
                  refine g_iinc hC dX4_findBest_107 rfl (nI_inc o) (by decide) ?_
                  refine g_goto (tgt := 40) hC dX4_findBest_110 (by decide) ?_
                  exact g_lv (lv' := [(0, .ref (lo 0)), (1, .ref (lo (200 + 16 * j))), (2, .ref (lo (100 + 4 * i))), (3, .ref (lo (203 + (16 * j + i)))), (4, .int (M 1 i - M 7 j)), (5, .int (nI t)), (6, .int (nI (o + 1)))]) ⟨rfl, rfl, rfl, rfl, rfl, rfl, rfl, trivial⟩ (ihlo_ (o + 1) C1 (by omega) hck hvk hbk)
                | succ r ihlk =>
                  intro k C1 hk9 hck hvk hbk
                  refine g_iload hC dX4_findBest_83 rfl ?_
                  refine g_sipush (v := 940) hC dX4_findBest_85 (by decide) ?_
                  refine g_icmp_lt (tgt := 107) hC dX4_findBest_88 (by decide) (fun c88 => absurd c88 (Int32.not_lt.mpr (fc_R (by omega)).1)) (fun c88 => ?_)
                  refine g_aload_n hC dX4_findBest_91 rfl ?_
                  refine g_aload_n hC dX4_findBest_92 rfl ?_
                  refine g_iload hC dX4_findBest_93 rfl ?_
                  refine g_iload hC dX4_findBest_95 rfl ?_
                  refine g_aload_n hC dX4_findBest_97 rfl ?_
                  refine g_callV hC v_X4_tryPlacement km_X4_199 (c_X4_tryPlacement l X b0 lo L _ _ e0 M hM hs j i t o hj hi ho hvk (fc k) (fc_R (by omega)) hmk _ hbk) rfl cO rfl rfl rfl rfl (Nat.le_of_ble_eq_true rfl) ⟨by decide, by decide⟩ ⟨by decide, by decide⟩ dX4_findBest_98 (kV ?_)
                  rintro en' ⟨C3, rfl, hb3, hc3⟩
                  refine g_iinc hC dX4_findBest_101 rfl (fc_dec (by omega)) (by decide) ?_
                  refine g_goto (tgt := 83) hC dX4_findBest_104 (by decide) ?_
                  exact g_lv (lv' := [(0, .ref (lo 0)), (1, .ref (lo (200 + 16 * j))), (2, .ref (lo (100 + 4 * i))), (3, .ref (lo (203 + (16 * j + i)))), (4, .int (M 1 i - M 7 j)), (5, .int (nI t)), (6, .int (nI o)), (7, .int (fc (k + 1)))]) ⟨rfl, rfl, rfl, rfl, rfl, rfl, rfl, rfl, trivial⟩ (ihlk (k + 1) C3 (by omega) (hck.tr1 hc3) (hvk.keep hc3) hb3)
              exact g_lv (lv' := [(0, .ref (lo 0)), (1, .ref (lo (200 + 16 * j))), (2, .ref (lo (100 + 4 * i))), (3, .ref (lo (203 + (16 * j + i)))), (4, .int (M 1 i - M 7 j)), (5, .int (nI t)), (6, .int (nI o)), (7, .int (fc 0))]) ⟨rfl, rfl, rfl, rfl, rfl, rfl, rfl, rfl, trivial⟩ (lk 13 0 C1 (by omega) hck hvk hbk)
            · have z9 : ¬ M 9 j < 0 := fun z => c55 (by rw [v3, if_pos z])
              have hsk := pl_skip (M := M) (j := j) (i := i) (t := t) (o := o) z9 (fun z => c72 (by rw [v3, if_neg z9, a2]; exact z))
              replace hbk : mtB C1 (16 * j + i) (bO M j i t (o + 1) (bT M j i t none)) := by unfold bO; rw [bF_skip hsk]; exact hbk
              refine g_goto (tgt := 107) hC dX4_findBest_75 (by decide) ?_
              refine g_iinc hC dX4_findBest_107 rfl (nI_inc o) (by decide) ?_
              refine g_goto (tgt := 40) hC dX4_findBest_110 (by decide) ?_
              exact g_lv (lv' := [(0, .ref (lo 0)), (1, .ref (lo (200 + 16 * j))), (2, .ref (lo (100 + 4 * i))), (3, .ref (lo (203 + (16 * j + i)))), (4, .int (M 1 i - M 7 j)), (5, .int (nI t)), (6, .int (nI (o + 1)))]) ⟨rfl, rfl, rfl, rfl, rfl, rfl, rfl, trivial⟩ (ihlo_ (o + 1) C1 (by omega) hck hvk hbk)
      exact g_lv (lv' := [(0, .ref (lo 0)), (1, .ref (lo (200 + 16 * j))), (2, .ref (lo (100 + 4 * i))), (3, .ref (lo (203 + (16 * j + i)))), (4, .int (M 1 i - M 7 j)), (5, .int (nI t)), (6, .int (nI 0))]) ⟨rfl, rfl, rfl, rfl, rfl, rfl, rfl, trivial⟩ (lo_ (nO M j i) 0 C2 (by omega) (hck.trV hk2) hv2 (hbk.eq (hk2 8 (by decide) (by decide))))
  exact g_lv (lv' := [(0, .ref (lo 0)), (1, .ref (lo (200 + 16 * j))), (2, .ref (lo (100 + 4 * i))), (3, .ref (lo (203 + (16 * j + i)))), (4, .int (M 1 i - M 7 j)), (5, .int (nI 0))]) ⟨rfl, rfl, rfl, rfl, rfl, rfl, trivial⟩ (lt 4 0 C37 (by omega) (fun b x y b1 b2 hn => by rw [hC37]; unfold up3; rw [if_neg (fun z => hn ⟨z.1, z.2.1, by omega⟩)]) (by rw [hC37]; simp [mtB, bT, up3]))

set_option maxHeartbeats 4000000 in
set_option maxRecDepth 100000 in
theorem c_X4_matchOf (l : Launch) (X : gX) (b0 : Nat) (lo : gL) (L : Nat → Nat → Nat) (K C : rM3) (e0 : gE) (M : rM2) (hM : Iv M) (hs : Sm L K M) (hc : Sc C M) (j i : Nat) (hj : j < nSh M) (hi : i < nMo M) : Ct l X b0 lo (enC X lo L K C e0) yX4_matchOf cX4_matchOf 4 (some (FieldType.object "MouldMatcher$Match")) (rM 4 104) [.ref (lo 0), .ref (lo (200 + 16 * j)), .int (nI i)] (pW (.ref (lo (203 + (16 * j + i)))) lo (fun en' => ∃ C1 : rM3, en' = enC X lo L K C1 e0 ∧ Sc C1 M ∧ (∀ b, 10 < b → C1 b = C b) ∧ mtB C1 (16 * j + i) (fb M j i))) := by
  refine gMet (by decide) (Nat.le_of_ble_eq_true rfl) rfl ?_
  intro Z hC hI hR
  have hi1 : i < L 2 0 := by rw [hs.1]; exact hi
  have hN : L 2 0 ≤ 10 := by rw [hs.1]; exact (Iv_nM hM).1
  have h25 : i < 25 := by omega
  have hi10 : i < 10 := by omega
  have hj1 : j < L 2 1 := by rw [hs.2.1]; exact hj
  have hSS : L 2 1 ≤ 30 := by rw [hs.2.1]; exact (Iv_nS hM).1
  have hj50 : j < 50 := by omega
  obtain ⟨n, hn2, hn10, en, en2⟩ := Iv_sh hM hj
  obtain ⟨m, hm3, hm10, em, em2⟩ := Iv_mo hM hi
  obtain ⟨a1, a2, a3, a4, a5, a6⟩ := hs.mo hi
  obtain ⟨s1, s2, s3, s4, s5, s6, s7⟩ := hs.sh hj
  refine g_aload_n hC dX4_matchOf_0 rfl ?_
  refine g_get hC rfl (cS hj1 hj50) rfl kl_X2 6 (by decide) kf_X4_182 rfl rfl dX4_matchOf_1 ?_
  refine g_iload_n hC dX4_matchOf_4 rfl ?_
  refine g_aald (t0 := 3) hC rfl (cS2 hj1 hj50) rfl i rfl (by omega) (by decide) (if_pos hi10) dX4_matchOf_5 ?_
  refine g_astore_n hC dX4_matchOf_6 (by decide) ?_
  refine g_aload_n hC dX4_matchOf_7 rfl ?_
  refine g_get hC rfl (cT hj1 hj50 hi10) rfl kl_X0 0 (by decide) kf_X4_186 rfl rfl dX4_matchOf_8 ?_
  refine g_if_ne (tgt := 31) hC dX4_matchOf_11 (by decide) (fun c11 => ?_) (fun c11 => ?_)
  · refine g_aload_n hC dX4_matchOf_31 rfl ?_
    refine g_areto hR (Or.inr ⟨_, rfl⟩) dX4_matchOf_32 ?_
    clear hR hC hI
    refine ⟨rfl, rfl, C, rfl, hc, fun _ _ => rfl, ?_⟩
    rcases hc j i hj hi10 with h0 | ⟨h1, -, h3⟩
    · exact absurd h0 c11
    · exact h3
  · refine g_aload_n hC dX4_matchOf_14 rfl ?_
    refine g_aload_n hC dX4_matchOf_15 rfl ?_
    refine g_aload_n hC dX4_matchOf_16 rfl ?_
    refine g_get hC rfl cO rfl kl_X4 4 (by decide) kf_X4_25 rfl rfl dX4_matchOf_17 ?_
    refine g_iload_n hC dX4_matchOf_20 rfl ?_
    refine g_aald (t0 := 1) hC rfl cA2 rfl i rfl (by omega) (by decide) (if_pos hi1) dX4_matchOf_21 ?_
    refine g_aload_n hC dX4_matchOf_22 rfl ?_
    refine g_callV hC v_X4_findBest km_X4_189 (c_X4_findBest l X b0 lo L _ _ e0 M hM hs j i hj hi) rfl cO rfl rfl rfl rfl (Nat.le_of_ble_eq_true rfl) ⟨by decide, by decide⟩ ⟨by decide, by decide⟩ dX4_matchOf_23 (kV ?_)
    rintro en' ⟨C2, rfl, hb2, hc2⟩
    refine g_aload_n hC dX4_matchOf_26 rfl ?_
    refine g_iconst (v := 1) hC dX4_matchOf_27 (by decide) ?_
    refine g_put (ty := .boolean) hC rfl (cT hj1 hj50 hi10) rfl kl_X0 0 (by decide) kf_X4_186 rfl tyX0 tyX0_ok nmX0 rfl (by decide +kernel) rfl rfl (Nat.le_of_ble_eq_true rfl) dX4_matchOf_28 (fun en38 hen38 => ?_)
    replace hen38 := cPT0 hj1 hj50 hi10 hen38
    obtain ⟨C38, hC38, hen38⟩ := hen38
    subst hen38
    refine g_aload_n hC dX4_matchOf_31 rfl ?_
    refine g_areto hR (Or.inr ⟨_, rfl⟩) dX4_matchOf_32 ?_
    clear hR hC hI
    have hbn : mtB C38 (16 * j + i) (fb M j i) := by
      rw [hC38]
      unfold mtB at hb2 ⊢
      simp only [up3_self]
      rw [pk_un (by decide), pk_un (by decide), pk_un (by decide), pk_un (by decide), pk_un (by decide), pk_un (by decide)]
      exact hb2
    have hkn : C38 8 (16 * j + i) 0 = 1 := by rw [hC38, up3_self, pk_us]
    refine ⟨rfl, rfl, _, rfl, ?_, fun b hb => by rw [hC38, up3_b (by omega)]; funext x y; exact hc2 b x y (by omega) (by omega) (fun z => by omega), hbn⟩
    intro j2 i2 hj2 hi2
    by_cases hji : j2 = j ∧ i2 = i
    · rw [hji.1, hji.2]
      exact Or.inr ⟨hkn, hi, hbn⟩
    · have e : ∀ y, C38 8 (16 * j2 + i2) y = C 8 (16 * j2 + i2) y := fun y => by
        rw [hC38, up3_row (Or.inr (by omega))]
        exact hc2 8 _ y (by decide) (by decide) (fun z => by have := z.2.1; omega)
      rcases hc j2 i2 hj2 hi2 with h0 | ⟨h1, h2, h3⟩
      · exact Or.inl ((e 0).trans h0)
      · refine Or.inr ⟨(e 0).trans h1, h2, ?_⟩
        unfold mtB at h3 ⊢
        rw [e 1, e 2, e 3, e 4, e 5, e 6]
        exact h3

def lsA (o : Option (Nat × Int32 × Int32)) : Int32 := match o with | none => 0 | some a => a.2.2

set_option maxHeartbeats 4000000 in
set_option maxRecDepth 100000 in
theorem c_X4_mouldFor (l : Launch) (X : gX) (b0 : Nat) (lo : gL) (L : Nat → Nat → Nat) (K C : rM3) (e0 : gE) (M : rM2) (hM : Iv M) (hs : Sm L K M) (hc : Sc C M) (j : Nat) (hj : j < nSh M) : Ct l X b0 lo (enC X lo L K C e0) yX4_mouldFor cX4_mouldFor 6 (some FieldType.int) (rM 5 127) [.ref (lo 0), .ref (lo (200 + 16 * j))] (pI lo (fun r en' => r = moF M j ∧ ∃ C1 : rM3, en' = enC X lo L K C1 e0 ∧ Sc C1 M ∧ ∀ b, 10 < b → C1 b = C b)) := by
  refine gMet (by decide) (Nat.le_of_ble_eq_true rfl) rfl ?_
  intro Z hC hI hR
  have hj1 : j < L 2 1 := by rw [hs.2.1]; exact hj
  have hSS : L 2 1 ≤ 30 := by rw [hs.2.1]; exact (Iv_nS hM).1
  have hj50 : j < 50 := by omega
  obtain ⟨n, hn2, hn10, en, en2⟩ := Iv_sh hM hj
  obtain ⟨s1, s2, s3, s4, s5, s6, s7⟩ := hs.sh hj
  have hN := (Iv_nM hM).1
  refine g_bipush (v := (-6)) hC dX4_mouldFor_0 (by decide) ?_
  refine g_istore_n hC dX4_mouldFor_2 (by decide) ?_
  refine g_iconst (v := 0) hC dX4_mouldFor_3 (by decide) ?_
  refine g_istore_n hC dX4_mouldFor_4 (by decide) ?_
  refine g_iconst (v := 0) hC dX4_mouldFor_5 (by decide) ?_
  refine g_istore hC dX4_mouldFor_6 (by decide) ?_
  have lm : ∀ (r : Nat) (k : Nat) (C1 : rM3), k + r = nMo M → Sc C1 M → (∀ b, 10 < b → C1 b = C b) → GO l X b0 Z 0 0 lo (enC X lo L K C1 e0) 8 [(0, .ref (lo 0)), (1, .ref (lo (200 + 16 * j))), (2, .int (moA (asF M j k))), (3, .int (lsA (asF M j k))), (4, .int (nI k))] [] := by
    intro r
    induction r with
    | zero =>
      intro k C1 hk9 hc1 hcb
      have hk8 : k = nMo M := by omega
      subst hk8
      refine g_iload hC dX4_mouldFor_8 rfl ?_
      refine g_aload_n hC dX4_mouldFor_10 rfl ?_
      refine g_get hC rfl cO rfl kl_X4 5 (by decide) kf_X4_29 rfl rfl dX4_mouldFor_11 ?_
      refine g_icmp_ge (tgt := 64) hC dX4_mouldFor_14 (by decide) (fun c14 => ?_) (fun c14 => absurd (by rw [hs.1]; exact nI_le (by omega) (by omega)) c14)
      refine g_iload_n hC dX4_mouldFor_64 rfl ?_
      refine g_ireti hR dX4_mouldFor_65 rfl ?_
      clear hR hC hI
      exact ⟨rfl, _, rfl, rfl, C1, rfl, hc1, hcb⟩
    | succ r ihlm =>
      intro k C1 hk9 hc1 hcb
      have hk1 : k < nMo M := by omega
      have hk10 : k < 10 := by omega
      refine g_iload hC dX4_mouldFor_8 rfl ?_
      refine g_aload_n hC dX4_mouldFor_10 rfl ?_
      refine g_get hC rfl cO rfl kl_X4 5 (by decide) kf_X4_29 rfl rfl dX4_mouldFor_11 ?_
      refine g_icmp_ge (tgt := 64) hC dX4_mouldFor_14 (by decide) (fun c14 => absurd c14 (by rw [hs.1]; exact nI_ge (by omega) (by omega))) (fun c14 => ?_)
      refine g_aload_n hC dX4_mouldFor_17 rfl ?_
      refine g_aload_n hC dX4_mouldFor_18 rfl ?_
      refine g_iload hC dX4_mouldFor_19 rfl ?_
      refine g_callV hC v_X4_matchOf km_X4_128 (c_X4_matchOf l X b0 lo L _ _ e0 M hM hs hc1 j k hj hk1) rfl cO rfl rfl rfl rfl (Nat.le_of_ble_eq_true rfl) ⟨by decide, by decide⟩ ⟨by decide, by decide⟩ dX4_mouldFor_21 (kW ?_)
      rintro en' ⟨C2, rfl, hs2, hkn2, hb2⟩
      refine g_astore hC dX4_mouldFor_24 (by decide) ?_
      refine g_aload hC dX4_mouldFor_26 rfl ?_
      refine g_get hC rfl (cT hj1 hj50 hk10) rfl kl_X0 1 (by decide) kf_X4_132 rfl rfl dX4_mouldFor_28 ?_
      refine g_if_eq (tgt := 58) hC dX4_mouldFor_31 (by decide) (fun c31 => ?_) (fun c31 => ?_)
      · have hps : ∀ a, asF M j k = some a → ¬ nI a.1 = -6 := fun a ha z => absurd (show nI a.1 < 0 by rw [z]; decide) (nI_pos (by have := asF_lt ha; omega))
        have hst : asF M j (k + 1) = asF M j k := by
          rw [asF_s]
          cases hfb : fb M j k with
          | none => rfl
          | some b =>
            rw [hfb] at hb2
            have hsc : C2 8 (16 * j + k) 2 = b.1 := hb2.2.1
            cases ha : asF M j k with
            | none =>
              first
              | exact absurd (hb2.1.symm.trans c31) (by decide)
              | exact absurd (by rw [ha]; rfl) c37
            | some a =>
              first
              | exact absurd (hb2.1.symm.trans c31) (by decide)
              | exact if_neg (Int32.not_lt.mpr (by have c := c46; rw [ha, hsc] at c; exact c))
        refine g_iinc hC dX4_mouldFor_58 rfl (nI_inc k) (by decide) ?_
        refine g_goto (tgt := 8) hC dX4_mouldFor_61 (by decide) ?_
        exact g_lv (lv' := [(0, .ref (lo 0)), (1, .ref (lo (200 + 16 * j))), (2, .int (moA (asF M j (k + 1)))), (3, .int (lsA (asF M j (k + 1)))), (4, .int (nI (k + 1)))]) ⟨rfl, rfl, (by rw [hst]; rfl), (by rw [hst]; rfl), rfl, trivial⟩ (ihlm (k + 1) C2 (by omega) hs2 (fun b hb => (hkn2 b hb).trans (hcb b hb)))
      · refine g_iload_n hC dX4_mouldFor_34 rfl ?_
        refine g_bipush (v := (-6)) hC dX4_mouldFor_35 (by decide) ?_
        refine g_icmp_eq (tgt := 49) hC dX4_mouldFor_37 (by decide) (fun c37 => ?_) (fun c37 => ?_)
        · refine g_iload hC dX4_mouldFor_49 rfl ?_
          refine g_istore_n hC dX4_mouldFor_51 (by decide) ?_
          refine g_aload hC dX4_mouldFor_52 rfl ?_
          refine g_get hC rfl (cT hj1 hj50 hk10) rfl kl_X0 2 (by decide) kf_X4_138 rfl rfl dX4_mouldFor_54 ?_
          refine g_istore_n hC dX4_mouldFor_57 (by decide) ?_
          have hps : ∀ a, asF M j k = some a → ¬ nI a.1 = -6 := fun a ha z => absurd (show nI a.1 < 0 by rw [z]; decide) (nI_pos (by have := asF_lt ha; omega))
          obtain ⟨b, hfb⟩ : ∃ b, fb M j k = some b := by
            cases h : fb M j k with
            | none => rw [h] at hb2; exact absurd hb2 c31
            | some b => exact ⟨b, rfl⟩
          rw [hfb] at hb2
          have hsc : C2 8 (16 * j + k) 2 = b.1 := hb2.2.1
          have hst : asF M j (k + 1) = some (k, b.2.2.2.2, b.1) := by
            rw [asF_s, hfb]
            cases ha : asF M j k with
            | none => rfl
            | some a =>
              rw [ha] at hps
              have hp := hps a rfl
              have hlt : b.1 < a.2.2 := by
                first
                | exact absurd (by have c := c37; rw [ha] at c; exact c) hp
                | (have c := Int32.not_le.mp c46; rw [ha, hsc] at c; exact c)
              exact if_pos hlt
          refine g_iinc hC dX4_mouldFor_58 rfl (nI_inc k) (by decide) ?_
          refine g_goto (tgt := 8) hC dX4_mouldFor_61 (by decide) ?_
          exact g_lv (lv' := [(0, .ref (lo 0)), (1, .ref (lo (200 + 16 * j))), (2, .int (moA (asF M j (k + 1)))), (3, .int (lsA (asF M j (k + 1)))), (4, .int (nI (k + 1)))]) ⟨rfl, rfl, (by rw [hst]; rfl), (by rw [hst]; exact congrArg (fun z => some (Value.int z)) hsc), rfl, trivial⟩ (ihlm (k + 1) C2 (by omega) hs2 (fun b hb => (hkn2 b hb).trans (hcb b hb)))
        · refine g_aload hC dX4_mouldFor_40 rfl ?_
          refine g_get hC rfl (cT hj1 hj50 hk10) rfl kl_X0 2 (by decide) kf_X4_138 rfl rfl dX4_mouldFor_42 ?_
          refine g_iload_n hC dX4_mouldFor_45 rfl ?_
          refine g_icmp_ge (tgt := 58) hC dX4_mouldFor_46 (by decide) (fun c46 => ?_) (fun c46 => ?_)
          · have hps : ∀ a, asF M j k = some a → ¬ nI a.1 = -6 := fun a ha z => absurd (show nI a.1 < 0 by rw [z]; decide) (nI_pos (by have := asF_lt ha; omega))
            have hst : asF M j (k + 1) = asF M j k := by
              rw [asF_s]
              cases hfb : fb M j k with
              | none => rfl
              | some b =>
                rw [hfb] at hb2
                have hsc : C2 8 (16 * j + k) 2 = b.1 := hb2.2.1
                cases ha : asF M j k with
                | none =>
                  first
                  | exact absurd (hb2.1.symm.trans c31) (by decide)
                  | exact absurd (by rw [ha]; rfl) c37
                | some a =>
                  first
                  | exact absurd (hb2.1.symm.trans c31) (by decide)
                  | exact if_neg (Int32.not_lt.mpr (by have c := c46; rw [ha, hsc] at c; exact c))
            refine g_iinc hC dX4_mouldFor_58 rfl (nI_inc k) (by decide) ?_
            refine g_goto (tgt := 8) hC dX4_mouldFor_61 (by decide) ?_
            exact g_lv (lv' := [(0, .ref (lo 0)), (1, .ref (lo (200 + 16 * j))), (2, .int (moA (asF M j (k + 1)))), (3, .int (lsA (asF M j (k + 1)))), (4, .int (nI (k + 1)))]) ⟨rfl, rfl, (by rw [hst]; rfl), (by rw [hst]; rfl), rfl, trivial⟩ (ihlm (k + 1) C2 (by omega) hs2 (fun b hb => (hkn2 b hb).trans (hcb b hb)))
          · refine g_iload hC dX4_mouldFor_49 rfl ?_
            refine g_istore_n hC dX4_mouldFor_51 (by decide) ?_
            refine g_aload hC dX4_mouldFor_52 rfl ?_
            refine g_get hC rfl (cT hj1 hj50 hk10) rfl kl_X0 2 (by decide) kf_X4_138 rfl rfl dX4_mouldFor_54 ?_
            refine g_istore_n hC dX4_mouldFor_57 (by decide) ?_
            have hps : ∀ a, asF M j k = some a → ¬ nI a.1 = -6 := fun a ha z => absurd (show nI a.1 < 0 by rw [z]; decide) (nI_pos (by have := asF_lt ha; omega))
            obtain ⟨b, hfb⟩ : ∃ b, fb M j k = some b := by
              cases h : fb M j k with
              | none => rw [h] at hb2; exact absurd hb2 c31
              | some b => exact ⟨b, rfl⟩
            rw [hfb] at hb2
            have hsc : C2 8 (16 * j + k) 2 = b.1 := hb2.2.1
            have hst : asF M j (k + 1) = some (k, b.2.2.2.2, b.1) := by
              rw [asF_s, hfb]
              cases ha : asF M j k with
              | none => rfl
              | some a =>
                rw [ha] at hps
                have hp := hps a rfl
                have hlt : b.1 < a.2.2 := by
                  first
                  | exact absurd (by have c := c37; rw [ha] at c; exact c) hp
                  | (have c := Int32.not_le.mp c46; rw [ha, hsc] at c; exact c)
                exact if_pos hlt
            refine g_iinc hC dX4_mouldFor_58 rfl (nI_inc k) (by decide) ?_
            refine g_goto (tgt := 8) hC dX4_mouldFor_61 (by decide) ?_
            exact g_lv (lv' := [(0, .ref (lo 0)), (1, .ref (lo (200 + 16 * j))), (2, .int (moA (asF M j (k + 1)))), (3, .int (lsA (asF M j (k + 1)))), (4, .int (nI (k + 1)))]) ⟨rfl, rfl, (by rw [hst]; rfl), (by rw [hst]; exact congrArg (fun z => some (Value.int z)) hsc), rfl, trivial⟩ (ihlm (k + 1) C2 (by omega) hs2 (fun b hb => (hkn2 b hb).trans (hcb b hb)))
  exact g_lv (lv' := [(0, .ref (lo 0)), (1, .ref (lo (200 + 16 * j))), (2, .int (-6)), (3, .int 0), (4, .int (nI 0))]) ⟨rfl, rfl, rfl, rfl, rfl, trivial⟩ (lm (nMo M) 0 C (by omega) hc (fun _ _ => rfl))
