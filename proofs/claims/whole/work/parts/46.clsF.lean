/-! ===== the class: the best placement ===== -/
theorem up3_b {K : rM3} {a b i j : Nat} {v : Int32} (h : b ≠ a) : up3 K a i j v b = K b := by funext x; exact up3_tag h
theorem cgB {C C1 : rM3} {b x y : Nat} (h : C1 b = C b) : C1 b x y = C b x y := by rw [h]

set_option maxHeartbeats 4000000 in
set_option maxRecDepth 100000 in
theorem c_X3_turn (l : Launch) (X : gX) (b0 : Nat) (lo : gL) (L : Nat → Nat → Nat) (K C : rM3) (e0 : gE) (M : rM2) (hM : Iv M) (hs : Sm L K M) (j t : Nat) (hj : j < nSh M) (ht : t < 4) : Ct l X b0 lo (enC X lo L K C e0) yX3_turn cX3_turn 6 none (rM 1 21) [.ref (lo 4), .ref (lo (200 + 16 * j)), .int (nI t)] (pV lo (fun en' => ∃ C1 : rM3, en' = enC X lo L K C1 e0 ∧ vO C1 M j t ∧ ∀ b, b ≠ 9 → b ≠ 10 → C1 b = C b)) := by
  refine gMet (by decide) (Nat.le_of_ble_eq_true rfl) rfl ?_
  intro Z hC hI hR
  have hj1 : j < L 2 1 := by rw [hs.2.1]; exact hj
  have hSS : L 2 1 ≤ 30 := by rw [hs.2.1]; exact (Iv_nS hM).1
  have hj50 : j < 50 := by omega
  obtain ⟨n, hn2, hn10, en, en2⟩ := Iv_sh hM hj
  obtain ⟨s1, s2, s3, s4, s5, s6, s7⟩ := hs.sh hj
  have J15 : GO l X b0 Z 0 0 lo (enC X lo L K C e0) 15 [(0, .ref (lo 4)), (1, .ref (lo (200 + 16 * j))), (2, .int (nI t))] [.int (if rvT t then 1 else 0)] := by
    refine g_istore_n hC dX3_turn_15 (by decide) ?_
    have J31 : GO l X b0 Z 0 0 lo (enC X lo L K C e0) 31 [(0, .ref (lo 4)), (1, .ref (lo (200 + 16 * j))), (2, .int (nI t)), (3, .int (if rvT t then 1 else 0))] [.int (if dnT t then 1 else 0)] := by
      refine g_istore hC dX3_turn_31 (by decide) ?_
      refine g_aload_n hC dX3_turn_33 rfl ?_
      refine g_iload_n hC dX3_turn_34 rfl ?_
      refine g_put (ty := .int) hC rfl cV rfl kl_X3 2 (by decide) kf_X3_19 rfl tyX3 tyX3_ok nmX3 rfl (by decide +kernel) rfl rfl (Nat.le_of_ble_eq_true rfl) dX3_turn_35 (fun en17 hen17 => ?_)
      replace hen17 := cPV2 hen17
      obtain ⟨C17, hC17, hen17⟩ := hen17
      subst hen17
      refine g_aload_n hC dX3_turn_38 rfl ?_
      refine g_aload_n hC dX3_turn_39 rfl ?_
      refine g_get hC rfl (cS hj1 hj50) rfl kl_X2 0 (by decide) kf_X3_31 rfl rfl dX3_turn_40 ?_
      refine g_alenI hC rfl (cS1 hj1 hj50) dX3_turn_43 ?_
      refine g_bipush (v := 10) hC dX3_turn_44 (by decide) ?_
      refine g_mmin hC km_X3_34 ⟨by decide, Nat.le_of_ble_eq_true rfl⟩ ⟨Nat.le_of_ble_eq_true rfl, Nat.le_of_ble_eq_true rfl⟩ dX3_turn_46 ?_
      refine g_val (y := M 7 j) (by
        rw [s1, en2, en, show (10 : Int32) = nI 10 from rfl]
        have h1 : (nI 10 < nI n) ↔ 10 < n := nI_ltI (by omega) (by omega)
        exact if_neg (fun z => by have := h1.mp z; omega)) ?_
      refine g_put (ty := .int) hC rfl cV rfl kl_X3 1 (by decide) kf_X3_15 rfl tyX3 tyX3_ok nmX3 rfl (by decide +kernel) rfl rfl (Nat.le_of_ble_eq_true rfl) dX3_turn_49 (fun en18 hen18 => ?_)
      replace hen18 := cPV1 hen18
      obtain ⟨C18, hC18, hen18⟩ := hen18
      subst hen18
      refine g_iconst (v := 0) hC dX3_turn_52 (by decide) ?_
      refine g_istore hC dX3_turn_53 (by decide) ?_
      have ll : ∀ (r : Nat) (q : Nat) (C1 : rM3), q + r = n → (∀ b, b ≠ 9 → b ≠ 10 → C1 b = C b) → C1 9 0 1 = M 7 j → C1 9 0 2 = nI t → (∀ x, x < q → C1 10 0 x = sS M j (rvT t) x) → GO l X b0 Z 0 0 lo (enC X lo L K C1 e0) 55 [(0, .ref (lo 4)), (1, .ref (lo (200 + 16 * j))), (2, .int (nI t)), (3, .int (if rvT t then 1 else 0)), (4, .int (if dnT t then 1 else 0)), (5, .int (nI q))] [] := by
        intro r
        induction r with
        | zero =>
          intro q C1 hq k0 k1 k2 k3
          have hq8 : q = n := by omega
          subst hq8
          refine g_iload hC dX3_turn_55 rfl ?_
          refine g_aload_n hC dX3_turn_57 rfl ?_
          refine g_get hC rfl cV rfl kl_X3 1 (by decide) kf_X3_15 rfl rfl dX3_turn_58 ?_
          refine g_icmp_ge (tgt := 100) hC dX3_turn_61 (by decide) (fun c61 => ?_) (fun c61 => absurd (by rw [k1, en]; exact nI_le (by omega) (by omega)) c61)
          refine g_aload_n hC dX3_turn_100 rfl ?_
          refine g_iconst (v := (-1)) hC dX3_turn_101 (by decide) ?_
          refine g_put (ty := .int) hC rfl cV rfl kl_X3 3 (by decide) kf_X3_22 rfl tyX3 tyX3_ok nmX3 rfl (by decide +kernel) rfl rfl (Nat.le_of_ble_eq_true rfl) dX3_turn_102 (fun en19 hen19 => ?_)
          replace hen19 := cPV3 hen19
          obtain ⟨C19, hC19, hen19⟩ := hen19
          subst hen19
          refine g_aload_n hC dX3_turn_105 rfl ?_
          refine g_get hC rfl (cS hj1 hj50) rfl kl_X2 1 (by decide) kf_X3_40 rfl rfl dX3_turn_106 ?_
          refine g_if_lt (tgt := 206) hC dX3_turn_109 (by decide) (fun c109 => ?_) (fun c109 => ?_)
          · refine g_retv hR dX3_turn_206 ?_
            clear hR hC hI
            refine ⟨rfl, rfl, _, rfl, ⟨?_, ?_, ?_, ?_, ?_⟩, ?_⟩
            · rw [hC19]; simp [up3]; exact k1
            · rw [hC19]; simp [up3]; exact k2
            · rw [hC19, if_pos (by rw [← s2]; exact c109)]; simp [up3]
            · intro z; exact absurd (by rw [← s2]; exact c109) z
            · intro x hx; rw [hC19, up3_row (Or.inl (by decide))]; exact k3 x (by omega)
            · intro b b1 b2; rw [hC19, up3_b b1]; exact k0 b b1 b2
          · refine g_aload_n hC dX3_turn_112 rfl ?_
            refine g_get hC rfl (cS hj1 hj50) rfl kl_X2 1 (by decide) kf_X3_40 rfl rfl dX3_turn_113 ?_
            refine g_aload_n hC dX3_turn_116 rfl ?_
            refine g_get hC rfl cV rfl kl_X3 1 (by decide) kf_X3_15 rfl rfl dX3_turn_117 ?_
            refine g_icmp_ge (tgt := 206) hC dX3_turn_120 (by decide) (fun c120 => absurd c120 (by rw [s2, hC19, show up3 C1 9 0 3 (-1) 9 0 1 = C1 9 0 1 by simp [up3], k1]; exact fun z => (Int32.not_lt.mpr z) (by obtain ⟨-, -, k9, hk9, ek9⟩ := pxy_R (t := t) hM hj (by rw [← s2]; exact c109); rw [ek9, en]; exact nI_lt (by omega) (by omega)))) (fun c120 => ?_)
            have c9 : ¬ M 9 j < 0 := by rw [← s2]; exact c109
            obtain ⟨-, -, k9, hk9, ek9⟩ := pxy_R (t := t) hM hj c9
            have hk92 : nt (M 9 j) = k9 := by rw [ek9]; exact nt_nI (by omega)
            have e91 : C19 9 0 1 = M 7 j := by rw [hC19]; simp [up3]; exact k1
            refine g_aload_n hC dX3_turn_123 rfl ?_
            refine g_get hC rfl (cS hj1 hj50) rfl kl_X2 0 (by decide) kf_X3_31 rfl rfl dX3_turn_124 ?_
            refine g_aload_n hC dX3_turn_127 rfl ?_
            refine g_get hC rfl (cS hj1 hj50) rfl kl_X2 1 (by decide) kf_X3_40 rfl rfl dX3_turn_128 ?_
            refine g_iald hC rfl (cS1 hj1 hj50) k9 (by rw [s2]; exact ek9) (by omega) (by omega) dX3_turn_131 ?_
            refine g_istore hC dX3_turn_132 (by decide) ?_
            have J157 : GO l X b0 Z 0 0 lo (enC X lo L K C19 e0) 157 [(0, .ref (lo 4)), (1, .ref (lo (200 + 16 * j))), (2, .int (nI t)), (3, .int (if rvT t then 1 else 0)), (4, .int (if dnT t then 1 else 0)), (5, .int (K 7 j k9))] [.int (if rvT t then M 7 j - 1 - M 9 j else M 9 j), .ref (lo 4)] := by
              refine g_put (ty := .int) hC rfl cV rfl kl_X3 3 (by decide) kf_X3_22 rfl tyX3 tyX3_ok nmX3 rfl (by decide +kernel) rfl rfl (Nat.le_of_ble_eq_true rfl) dX3_turn_157 (fun en20 hen20 => ?_)
              replace hen20 := cPV3 hen20
              obtain ⟨C20, hC20, hen20⟩ := hen20
              subst hen20
              have J179 : GO l X b0 Z 0 0 lo (enC X lo L K C20 e0) 179 [(0, .ref (lo 4)), (1, .ref (lo (200 + 16 * j))), (2, .int (nI t)), (3, .int (if rvT t then 1 else 0)), (4, .int (if dnT t then 1 else 0)), (5, .int (K 7 j k9))] [.int (pxF M j t), .ref (lo 4)] := by
                refine g_put (ty := .int) hC rfl cV rfl kl_X3 4 (by decide) kf_X3_25 rfl tyX3 tyX3_ok nmX3 rfl (by decide +kernel) rfl rfl (Nat.le_of_ble_eq_true rfl) dX3_turn_179 (fun en21 hen21 => ?_)
                replace hen21 := cPV4 hen21
                obtain ⟨C21, hC21, hen21⟩ := hen21
                subst hen21
                have J203 : GO l X b0 Z 0 0 lo (enC X lo L K C21 e0) 203 [(0, .ref (lo 4)), (1, .ref (lo (200 + 16 * j))), (2, .int (nI t)), (3, .int (if rvT t then 1 else 0)), (4, .int (if dnT t then 1 else 0)), (5, .int (K 7 j k9))] [.int (pyF M j t), .ref (lo 4)] := by
                  refine g_put (ty := .int) hC rfl cV rfl kl_X3 5 (by decide) kf_X3_28 rfl tyX3 tyX3_ok nmX3 rfl (by decide +kernel) rfl rfl (Nat.le_of_ble_eq_true rfl) dX3_turn_203 (fun en22 hen22 => ?_)
                  replace hen22 := cPV5 hen22
                  obtain ⟨C22, hC22, hen22⟩ := hen22
                  subst hen22
                  refine g_retv hR dX3_turn_206 ?_
                  clear hR hC hI
                  refine ⟨rfl, rfl, _, rfl, ⟨?_, ?_, ?_, ?_, ?_⟩, ?_⟩
                  · rw [hC22, hC21, hC20, hC19]; simp [up3]; exact k1
                  · rw [hC22, hC21, hC20, hC19]; simp [up3]; exact k2
                  · rw [hC22, hC21, hC20, hC19, if_neg c9]; simp [up3]
                  · intro _; rw [hC22, hC21, hC20, hC19]; exact ⟨by simp [up3], by simp [up3]⟩
                  · intro x hx; rw [hC22, hC21, hC20, hC19]; simp +decide only [up3_tag]; exact k3 x (by omega)
                  · intro b b1 b2; rw [hC22, hC21, hC20, hC19, up3_b b1, up3_b b1, up3_b b1, up3_b b1]; exact k0 b b1 b2
                refine g_aload_n hC dX3_turn_182 rfl ?_
                refine g_iload hC dX3_turn_183 rfl ?_
                refine g_if_eq (tgt := 199) hC dX3_turn_185 (by decide) (fun c185 => ?_) (fun c185 => ?_)
                · refine g_aload_n hC dX3_turn_199 rfl ?_
                  refine g_get hC rfl (cS hj1 hj50) rfl kl_X2 3 (by decide) kf_X3_42 rfl rfl dX3_turn_200 ?_
                  refine g_val (y := pyF M j t) (by unfold pyF; first | (rw [bz c185]; exact s4) | (rw [bn c185, s4]; rfl)) ?_
                  exact g_lv (lv' := [(0, .ref (lo 4)), (1, .ref (lo (200 + 16 * j))), (2, .int (nI t)), (3, .int (if rvT t then 1 else 0)), (4, .int (if dnT t then 1 else 0)), (5, .int (K 7 j k9))]) ⟨rfl, rfl, rfl, rfl, rfl, rfl, trivial⟩ (J203 )
                · refine g_sipush (v := 300) hC dX3_turn_188 (by decide) ?_
                  refine g_aload_n hC dX3_turn_191 rfl ?_
                  refine g_get hC rfl (cS hj1 hj50) rfl kl_X2 3 (by decide) kf_X3_42 rfl rfl dX3_turn_192 ?_
                  refine g_isub hC dX3_turn_195 ?_
                  refine g_goto (tgt := 203) hC dX3_turn_196 (by decide) ?_
                  refine g_val (y := pyF M j t) (by unfold pyF; first | (rw [bz c185]; exact s4) | (rw [bn c185, s4]; rfl)) ?_
                  exact g_lv (lv' := [(0, .ref (lo 4)), (1, .ref (lo (200 + 16 * j))), (2, .int (nI t)), (3, .int (if rvT t then 1 else 0)), (4, .int (if dnT t then 1 else 0)), (5, .int (K 7 j k9))]) ⟨rfl, rfl, rfl, rfl, rfl, rfl, trivial⟩ (J203 )
              refine g_aload_n hC dX3_turn_160 rfl ?_
              refine g_iload_n hC dX3_turn_161 rfl ?_
              refine g_if_eq (tgt := 175) hC dX3_turn_162 (by decide) (fun c162 => ?_) (fun c162 => ?_)
              · refine g_aload_n hC dX3_turn_175 rfl ?_
                refine g_get hC rfl (cS hj1 hj50) rfl kl_X2 2 (by decide) kf_X3_41 rfl rfl dX3_turn_176 ?_
                refine g_val (y := pxF M j t) (by unfold pxF; first | (rw [bz c162]; exact s3) | (rw [bn c162, s3, s7 k9 (by omega), hk92]; rfl)) ?_
                exact g_lv (lv' := [(0, .ref (lo 4)), (1, .ref (lo (200 + 16 * j))), (2, .int (nI t)), (3, .int (if rvT t then 1 else 0)), (4, .int (if dnT t then 1 else 0)), (5, .int (K 7 j k9))]) ⟨rfl, rfl, rfl, rfl, rfl, rfl, trivial⟩ (J179 )
              · refine g_iload hC dX3_turn_165 rfl ?_
                refine g_aload_n hC dX3_turn_167 rfl ?_
                refine g_get hC rfl (cS hj1 hj50) rfl kl_X2 2 (by decide) kf_X3_41 rfl rfl dX3_turn_168 ?_
                refine g_isub hC dX3_turn_171 ?_
                refine g_goto (tgt := 179) hC dX3_turn_172 (by decide) ?_
                refine g_val (y := pxF M j t) (by unfold pxF; first | (rw [bz c162]; exact s3) | (rw [bn c162, s3, s7 k9 (by omega), hk92]; rfl)) ?_
                exact g_lv (lv' := [(0, .ref (lo 4)), (1, .ref (lo (200 + 16 * j))), (2, .int (nI t)), (3, .int (if rvT t then 1 else 0)), (4, .int (if dnT t then 1 else 0)), (5, .int (K 7 j k9))]) ⟨rfl, rfl, rfl, rfl, rfl, rfl, trivial⟩ (J179 )
            refine g_aload_n hC dX3_turn_134 rfl ?_
            refine g_iload_n hC dX3_turn_135 rfl ?_
            refine g_if_eq (tgt := 153) hC dX3_turn_136 (by decide) (fun c136 => ?_) (fun c136 => ?_)
            · refine g_aload_n hC dX3_turn_153 rfl ?_
              refine g_get hC rfl (cS hj1 hj50) rfl kl_X2 1 (by decide) kf_X3_40 rfl rfl dX3_turn_154 ?_
              refine g_val (y := if rvT t then M 7 j - 1 - M 9 j else M 9 j) (by first | (rw [bz c136]; exact s2) | (rw [bn c136, e91, s2]; rfl)) ?_
              exact g_lv (lv' := [(0, .ref (lo 4)), (1, .ref (lo (200 + 16 * j))), (2, .int (nI t)), (3, .int (if rvT t then 1 else 0)), (4, .int (if dnT t then 1 else 0)), (5, .int (K 7 j k9))]) ⟨rfl, rfl, rfl, rfl, rfl, rfl, trivial⟩ (J157 )
            · refine g_aload_n hC dX3_turn_139 rfl ?_
              refine g_get hC rfl cV rfl kl_X3 1 (by decide) kf_X3_15 rfl rfl dX3_turn_140 ?_
              refine g_iconst (v := 1) hC dX3_turn_143 (by decide) ?_
              refine g_isub hC dX3_turn_144 ?_
              refine g_aload_n hC dX3_turn_145 rfl ?_
              refine g_get hC rfl (cS hj1 hj50) rfl kl_X2 1 (by decide) kf_X3_40 rfl rfl dX3_turn_146 ?_
              refine g_isub hC dX3_turn_149 ?_
              refine g_goto (tgt := 157) hC dX3_turn_150 (by decide) ?_
              refine g_val (y := if rvT t then M 7 j - 1 - M 9 j else M 9 j) (by first | (rw [bz c136]; exact s2) | (rw [bn c136, e91, s2]; rfl)) ?_
              exact g_lv (lv' := [(0, .ref (lo 4)), (1, .ref (lo (200 + 16 * j))), (2, .int (nI t)), (3, .int (if rvT t then 1 else 0)), (4, .int (if dnT t then 1 else 0)), (5, .int (K 7 j k9))]) ⟨rfl, rfl, rfl, rfl, rfl, rfl, trivial⟩ (J157 )
        | succ r ihll =>
          intro q C1 hq k0 k1 k2 k3
          refine g_iload hC dX3_turn_55 rfl ?_
          refine g_aload_n hC dX3_turn_57 rfl ?_
          refine g_get hC rfl cV rfl kl_X3 1 (by decide) kf_X3_15 rfl rfl dX3_turn_58 ?_
          refine g_icmp_ge (tgt := 100) hC dX3_turn_61 (by decide) (fun c61 => absurd c61 (by rw [k1, en]; exact nI_ge (by omega) (by omega))) (fun c61 => ?_)
          refine g_aload_n hC dX3_turn_64 rfl ?_
          refine g_get hC rfl cV rfl kl_X3 0 (by decide) kf_X3_9 rfl rfl dX3_turn_65 ?_
          refine g_iload hC dX3_turn_68 rfl ?_
          refine g_aload_n hC dX3_turn_70 rfl ?_
          refine g_get hC rfl (cS hj1 hj50) rfl kl_X2 0 (by decide) kf_X3_31 rfl rfl dX3_turn_71 ?_
          refine g_iload_n hC dX3_turn_74 rfl ?_
          refine g_if_eq (tgt := 90) hC dX3_turn_75 (by decide) (fun c75 => ?_) (fun c75 => ?_)
          · refine g_iload hC dX3_turn_90 rfl ?_
            refine g_val (y := nI (if rvT t then nt (M 7 j) - 1 - q else q)) (by first | (rw [bz c75]; rfl) | (rw [bn c75, k1]; exact sub2 (by rw [en2]; exact en) (by omega))) ?_
            refine g_iald hC rfl (cS1 hj1 hj50) (if rvT t then nt (M 7 j) - 1 - q else q) rfl (by split <;> omega) (by omega) dX3_turn_92 ?_
            refine g_iast hC rfl cA5 q rfl (by omega) (by decide) dX3_turn_93 (fun en23 hen23 => ?_)
            replace hen23 := cQ5 hen23
            obtain ⟨C23, hC23, hen23⟩ := hen23
            subst hen23
            refine g_iinc hC dX3_turn_94 rfl (nI_inc q) (by decide) ?_
            refine g_goto (tgt := 55) hC dX3_turn_97 (by decide) ?_
            exact g_lv (lv' := [(0, .ref (lo 4)), (1, .ref (lo (200 + 16 * j))), (2, .int (nI t)), (3, .int (if rvT t then 1 else 0)), (4, .int (if dnT t then 1 else 0)), (5, .int (nI (q + 1)))]) ⟨rfl, rfl, rfl, rfl, rfl, rfl, trivial⟩ (ihll (q + 1) C23 (by omega) (fun b b1 b2 => by rw [hC23, up3_b b2]; exact k0 b b1 b2) (by rw [hC23, up3_row (Or.inl (by decide))]; exact k1) (by rw [hC23, up3_row (Or.inl (by decide))]; exact k2) (fun x hx => by
              rw [hC23, up3_self]
              by_cases hxq : x = q
              · rw [hxq, pk_us, s7 _ (by split <;> omega)]; rfl
              · rw [pk_un hxq]; exact k3 x (by omega)))
          · refine g_aload_n hC dX3_turn_78 rfl ?_
            refine g_get hC rfl cV rfl kl_X3 1 (by decide) kf_X3_15 rfl rfl dX3_turn_79 ?_
            refine g_iconst (v := 1) hC dX3_turn_82 (by decide) ?_
            refine g_isub hC dX3_turn_83 ?_
            refine g_iload hC dX3_turn_84 rfl ?_
            refine g_isub hC dX3_turn_86 ?_
            refine g_goto (tgt := 92) hC dX3_turn_87 (by decide) ?_
            refine g_val (y := nI (if rvT t then nt (M 7 j) - 1 - q else q)) (by first | (rw [bz c75]; rfl) | (rw [bn c75, k1]; exact sub2 (by rw [en2]; exact en) (by omega))) ?_
            refine g_iald hC rfl (cS1 hj1 hj50) (if rvT t then nt (M 7 j) - 1 - q else q) rfl (by split <;> omega) (by omega) dX3_turn_92 ?_
            refine g_iast hC rfl cA5 q rfl (by omega) (by decide) dX3_turn_93 (fun en24 hen24 => ?_)
            replace hen24 := cQ5 hen24
            obtain ⟨C24, hC24, hen24⟩ := hen24
            subst hen24
            refine g_iinc hC dX3_turn_94 rfl (nI_inc q) (by decide) ?_
            refine g_goto (tgt := 55) hC dX3_turn_97 (by decide) ?_
            exact g_lv (lv' := [(0, .ref (lo 4)), (1, .ref (lo (200 + 16 * j))), (2, .int (nI t)), (3, .int (if rvT t then 1 else 0)), (4, .int (if dnT t then 1 else 0)), (5, .int (nI (q + 1)))]) ⟨rfl, rfl, rfl, rfl, rfl, rfl, trivial⟩ (ihll (q + 1) C24 (by omega) (fun b b1 b2 => by rw [hC24, up3_b b2]; exact k0 b b1 b2) (by rw [hC24, up3_row (Or.inl (by decide))]; exact k1) (by rw [hC24, up3_row (Or.inl (by decide))]; exact k2) (fun x hx => by
              rw [hC24, up3_self]
              by_cases hxq : x = q
              · rw [hxq, pk_us, s7 _ (by split <;> omega)]; rfl
              · rw [pk_un hxq]; exact k3 x (by omega)))
      exact g_lv (lv' := [(0, .ref (lo 4)), (1, .ref (lo (200 + 16 * j))), (2, .int (nI t)), (3, .int (if rvT t then 1 else 0)), (4, .int (if dnT t then 1 else 0)), (5, .int (nI 0))]) ⟨rfl, rfl, rfl, rfl, rfl, rfl, trivial⟩ (ll n 0 C18 (by omega) (fun b b1 b2 => by rw [hC18, hC17, up3_b b1, up3_b b1]) (by rw [hC18, hC17]; simp [up3]) (by rw [hC18, hC17]; simp [up3]) (fun x hx => absurd hx (by omega)))
    refine g_iload_n hC dX3_turn_16 rfl ?_
    refine g_iconst (v := 1) hC dX3_turn_17 (by decide) ?_
    refine g_icmp_eq (tgt := 26) hC dX3_turn_18 (by decide) (fun c18 => ?_) (fun c18 => ?_)
    · refine g_iconst (v := 1) hC dX3_turn_26 (by decide) ?_
      refine g_goto (tgt := 31) hC dX3_turn_27 (by decide) ?_
      refine g_val (y := if dnT t then 1 else 0) (by first | (rw [tq (k := 1) c18 ht (by decide)]; rfl) | (rw [tq (k := 3) c23 ht (by decide)]; rfl) | (have h1 := tn (k := 1) c18; have h2 := tn (k := 3) c23; simp [dnT, h1, h2])) ?_
      exact g_lv (lv' := [(0, .ref (lo 4)), (1, .ref (lo (200 + 16 * j))), (2, .int (nI t)), (3, .int (if rvT t then 1 else 0))]) ⟨rfl, rfl, rfl, rfl, trivial⟩ (J31 )
    · refine g_iload_n hC dX3_turn_21 rfl ?_
      refine g_iconst (v := 3) hC dX3_turn_22 (by decide) ?_
      refine g_icmp_ne (tgt := 30) hC dX3_turn_23 (by decide) (fun c23 => ?_) (fun c23 => ?_)
      · refine g_iconst (v := 0) hC dX3_turn_30 (by decide) ?_
        refine g_val (y := if dnT t then 1 else 0) (by first | (rw [tq (k := 1) c18 ht (by decide)]; rfl) | (rw [tq (k := 3) c23 ht (by decide)]; rfl) | (have h1 := tn (k := 1) c18; have h2 := tn (k := 3) c23; simp [dnT, h1, h2])) ?_
        exact g_lv (lv' := [(0, .ref (lo 4)), (1, .ref (lo (200 + 16 * j))), (2, .int (nI t)), (3, .int (if rvT t then 1 else 0))]) ⟨rfl, rfl, rfl, rfl, trivial⟩ (J31 )
      · refine g_iconst (v := 1) hC dX3_turn_26 (by decide) ?_
        refine g_goto (tgt := 31) hC dX3_turn_27 (by decide) ?_
        refine g_val (y := if dnT t then 1 else 0) (by first | (rw [tq (k := 1) c18 ht (by decide)]; rfl) | (rw [tq (k := 3) c23 ht (by decide)]; rfl) | (have h1 := tn (k := 1) c18; have h2 := tn (k := 3) c23; simp [dnT, h1, h2])) ?_
        exact g_lv (lv' := [(0, .ref (lo 4)), (1, .ref (lo (200 + 16 * j))), (2, .int (nI t)), (3, .int (if rvT t then 1 else 0))]) ⟨rfl, rfl, rfl, rfl, trivial⟩ (J31 )
  refine g_iload_n hC dX3_turn_0 rfl ?_
  refine g_iconst (v := 1) hC dX3_turn_1 (by decide) ?_
  refine g_icmp_eq (tgt := 10) hC dX3_turn_2 (by decide) (fun c2 => ?_) (fun c2 => ?_)
  · refine g_iconst (v := 1) hC dX3_turn_10 (by decide) ?_
    refine g_goto (tgt := 15) hC dX3_turn_11 (by decide) ?_
    refine g_val (y := if rvT t then 1 else 0) (by first | (rw [tq (k := 1) c2 ht (by decide)]; rfl) | (rw [tq (k := 2) c7 ht (by decide)]; rfl) | (have h1 := tn (k := 1) c2; have h2 := tn (k := 2) c7; simp [rvT, h1, h2])) ?_
    exact g_lv (lv' := [(0, .ref (lo 4)), (1, .ref (lo (200 + 16 * j))), (2, .int (nI t))]) ⟨rfl, rfl, rfl, trivial⟩ (J15 )
  · refine g_iload_n hC dX3_turn_5 rfl ?_
    refine g_iconst (v := 2) hC dX3_turn_6 (by decide) ?_
    refine g_icmp_ne (tgt := 14) hC dX3_turn_7 (by decide) (fun c7 => ?_) (fun c7 => ?_)
    · refine g_iconst (v := 0) hC dX3_turn_14 (by decide) ?_
      refine g_val (y := if rvT t then 1 else 0) (by first | (rw [tq (k := 1) c2 ht (by decide)]; rfl) | (rw [tq (k := 2) c7 ht (by decide)]; rfl) | (have h1 := tn (k := 1) c2; have h2 := tn (k := 2) c7; simp [rvT, h1, h2])) ?_
      exact g_lv (lv' := [(0, .ref (lo 4)), (1, .ref (lo (200 + 16 * j))), (2, .int (nI t))]) ⟨rfl, rfl, rfl, trivial⟩ (J15 )
    · refine g_iconst (v := 1) hC dX3_turn_10 (by decide) ?_
      refine g_goto (tgt := 15) hC dX3_turn_11 (by decide) ?_
      refine g_val (y := if rvT t then 1 else 0) (by first | (rw [tq (k := 1) c2 ht (by decide)]; rfl) | (rw [tq (k := 2) c7 ht (by decide)]; rfl) | (have h1 := tn (k := 1) c2; have h2 := tn (k := 2) c7; simp [rvT, h1, h2])) ?_
      exact g_lv (lv' := [(0, .ref (lo 4)), (1, .ref (lo (200 + 16 * j))), (2, .int (nI t))]) ⟨rfl, rfl, rfl, trivial⟩ (J15 )

/-- only the match r was written, and not its flag 'known' -/
def cO1 (C C1 : rM3) (r : Nat) : Prop := ∀ b x y, ¬ (b = 8 ∧ x = r ∧ y ≠ 0) → C1 b x y = C b x y
theorem cO1.rf {C : rM3} {r : Nat} : cO1 C C r := fun _ _ _ _ => rfl
theorem cO1.up {C C1 : rM3} {r f : Nat} {v : Int32} (h : cO1 C C1 r) (hf : f ≠ 0) : cO1 C (up3 C1 8 r f v) r := fun b x y hn => by
  unfold up3
  rw [if_neg (fun z => hn ⟨z.1, z.2.1, by omega⟩)]
  exact h b x y hn
theorem vO.keep {C C1 : rM3} {M : rM2} {j t r : Nat} (h : vO C M j t) (hc : cO1 C C1 r) : vO C1 M j t := by
  have e9 : ∀ y, C1 9 0 y = C 9 0 y := fun y => hc 9 0 y (fun z => absurd z.1 (by decide))
  have e10 : ∀ y, C1 10 0 y = C 10 0 y := fun y => hc 10 0 y (fun z => absurd z.1 (by decide))
  unfold vO
  rw [e9 1, e9 2, e9 3, e9 4, e9 5]
  exact ⟨h.1, h.2.1, h.2.2.1, h.2.2.2.1, fun q hq => by rw [e10 q]; exact h.2.2.2.2 q hq⟩
theorem stF_some {t o : Nat} {f sm sp : Int32} {b : gB} (h : b = none ∨ ∃ r, b = some r ∧ sm < r.1) : stF t o f (some (sm, sp)) b = some (sm, nI t, nI o, f, sp) := by
  rcases h with rfl | ⟨r, rfl, hr⟩
  · rfl
  · exact if_pos hr
theorem stF_skip {t o : Nat} {f sm sp : Int32} {b : gB} {r : Int32 × Int32 × Int32 × Int32 × Int32} (h : b = some r) (hr : ¬ sm < r.1) : stF t o f (some (sm, sp)) b = b := by
  subst h
  exact if_neg hr

theorem inn_ne {x y : Int32} {n k : Nat} {rv : Bool} (hx : x = nI n) (hy : y = nI k) (hk : k < n) (hn : n ≤ 10) : ¬ (if rv then x - 1 - y else y) = -1 := by
  cases rv
  · intro z
    have z2 : y = -1 := z
    rw [hy] at z2
    exact absurd (show nI k < 0 by rw [z2]; decide) (nI_pos (by omega))
  · intro z
    have z2 : x - 1 - y = -1 := z
    rw [hy, sub2 hx (by omega)] at z2
    exact absurd (show nI (n - 1 - k) < 0 by rw [z2]; decide) (nI_pos (by omega))

set_option maxHeartbeats 4000000 in
set_option maxRecDepth 100000 in
theorem c_X4_tryPlacement (l : Launch) (X : gX) (b0 : Nat) (lo : gL) (L : Nat → Nat → Nat) (K C : rM3) (e0 : gE) (M : rM2) (hM : Iv M) (hs : Sm L K M) (j i t o : Nat) (hj : j < nSh M) (hi : i < nMo M) (ho : o + nt (M 7 j) ≤ nt (M 1 i)) (hv : vO C M j t) (f : Int32) (hf : inR 940 f 1000) (hmk : ¬ M 9 j < 0 → nI o + (if rvT t then M 7 j - 1 - M 9 j else M 9 j) = M 3 i) (b : gB) (hb : mtB C (16 * j + i) b) : Ct l X b0 lo (enC X lo L K C e0) yX4_tryPlacement cX4_tryPlacement 7 none (rM 2 51) [.ref (lo 0), .ref (lo (100 + 4 * i)), .int (nI o), .int f, .ref (lo (203 + (16 * j + i)))] (pV lo (fun en' => ∃ C1 : rM3, en' = enC X lo L K C1 e0 ∧ mtB C1 (16 * j + i) (stF t o f (plF M j i t o f) b) ∧ cO1 C C1 (16 * j + i))) := by
  refine gMet (by decide) (Nat.le_of_ble_eq_true rfl) rfl ?_
  intro Z hC hI hR
  have hi1 : i < L 2 0 := by rw [hs.1]; exact hi
  have hN : L 2 0 ≤ 10 := by rw [hs.1]; exact (Iv_nM hM).1
  have h25 : i < 25 := by omega
  obtain ⟨n, hn2, hn10, en, en2⟩ := Iv_sh hM hj
  obtain ⟨m, hm3, hm10, em, em2⟩ := Iv_mo hM hi
  obtain ⟨a1, a2, a3, a4, a5, a6⟩ := hs.mo hi
  obtain ⟨v1, v2, v3, v4, v5⟩ := id hv
  have h2 := hs.2.2.2.1
  have h3 := hs.2.2.2.2.1
  have hj1 : j < L 2 1 := by rw [hs.2.1]; exact hj
  have hSS : L 2 1 ≤ 30 := by rw [hs.2.1]; exact (Iv_nS hM).1
  have hj50 : j < 50 := by omega
  have hi10 : i < 10 := by omega
  have J58 : ∀ (sm st sp : Int32), plF M j i t o f = some (sm, sp) → st = stC sp → GO l X b0 Z 0 0 lo (enC X lo L K C e0) 58 [(0, .ref (lo 0)), (1, .ref (lo (100 + 4 * i))), (2, .int (nI o)), (3, .int f), (4, .ref (lo (203 + (16 * j + i)))), (5, .int sm), (6, .int st)] [] := by
    intro sm st sp hpl hst
    refine g_aload hC dX4_tryPlacement_58 rfl ?_
    refine g_get hC rfl (cT hj1 hj50 hi10) rfl kl_X0 1 (by decide) kf_X4_132 rfl rfl dX4_tryPlacement_60 ?_
    refine g_if_eq (tgt := 76) hC dX4_tryPlacement_63 (by decide) (fun c63 => ?_) (fun c63 => ?_)
    · refine g_aload hC dX4_tryPlacement_76 rfl ?_
      refine g_iconst (v := 1) hC dX4_tryPlacement_78 (by decide) ?_
      refine g_put (ty := .boolean) hC rfl (cT hj1 hj50 hi10) rfl kl_X0 1 (by decide) kf_X4_132 rfl tyX0 tyX0_ok nmX0 rfl (by decide +kernel) rfl rfl (Nat.le_of_ble_eq_true rfl) dX4_tryPlacement_79 (fun en25 hen25 => ?_)
      replace hen25 := cPT1 hj1 hj50 hi10 hen25
      obtain ⟨C25, hC25, hen25⟩ := hen25
      subst hen25
      refine g_aload hC dX4_tryPlacement_82 rfl ?_
      refine g_iload hC dX4_tryPlacement_84 rfl ?_
      refine g_put (ty := .int) hC rfl (cT hj1 hj50 hi10) rfl kl_X0 2 (by decide) kf_X4_138 rfl tyX0 tyX0_ok nmX0 rfl (by decide +kernel) rfl rfl (Nat.le_of_ble_eq_true rfl) dX4_tryPlacement_86 (fun en26 hen26 => ?_)
      replace hen26 := cPT2 hj1 hj50 hi10 hen26
      obtain ⟨C26, hC26, hen26⟩ := hen26
      subst hen26
      refine g_aload hC dX4_tryPlacement_89 rfl ?_
      refine g_aload_n hC dX4_tryPlacement_91 rfl ?_
      refine g_get hC rfl cO rfl kl_X4 8 (by decide) kf_X4_44 rfl rfl dX4_tryPlacement_92 ?_
      refine g_get hC rfl cV rfl kl_X3 2 (by decide) kf_X4_214 rfl rfl dX4_tryPlacement_95 ?_
      refine g_put (ty := .int) hC rfl (cT hj1 hj50 hi10) rfl kl_X0 3 (by decide) kf_X4_141 rfl tyX0 tyX0_ok nmX0 rfl (by decide +kernel) rfl rfl (Nat.le_of_ble_eq_true rfl) dX4_tryPlacement_98 (fun en27 hen27 => ?_)
      replace hen27 := cPT3 hj1 hj50 hi10 hen27
      obtain ⟨C27, hC27, hen27⟩ := hen27
      subst hen27
      refine g_aload hC dX4_tryPlacement_101 rfl ?_
      refine g_iload_n hC dX4_tryPlacement_103 rfl ?_
      refine g_put (ty := .int) hC rfl (cT hj1 hj50 hi10) rfl kl_X0 4 (by decide) kf_X4_144 rfl tyX0 tyX0_ok nmX0 rfl (by decide +kernel) rfl rfl (Nat.le_of_ble_eq_true rfl) dX4_tryPlacement_104 (fun en28 hen28 => ?_)
      replace hen28 := cPT4 hj1 hj50 hi10 hen28
      obtain ⟨C28, hC28, hen28⟩ := hen28
      subst hen28
      refine g_aload hC dX4_tryPlacement_107 rfl ?_
      refine g_iload_n hC dX4_tryPlacement_109 rfl ?_
      refine g_put (ty := .int) hC rfl (cT hj1 hj50 hi10) rfl kl_X0 5 (by decide) kf_X4_147 rfl tyX0 tyX0_ok nmX0 rfl (by decide +kernel) rfl rfl (Nat.le_of_ble_eq_true rfl) dX4_tryPlacement_110 (fun en29 hen29 => ?_)
      replace hen29 := cPT5 hj1 hj50 hi10 hen29
      obtain ⟨C29, hC29, hen29⟩ := hen29
      subst hen29
      refine g_aload hC dX4_tryPlacement_113 rfl ?_
      refine g_iload hC dX4_tryPlacement_115 rfl ?_
      refine g_put (ty := .int) hC rfl (cT hj1 hj50 hi10) rfl kl_X0 6 (by decide) kf_X4_150 rfl tyX0 tyX0_ok nmX0 rfl (by decide +kernel) rfl rfl (Nat.le_of_ble_eq_true rfl) dX4_tryPlacement_117 (fun en30 hen30 => ?_)
      replace hen30 := cPT6 hj1 hj50 hi10 hen30
      obtain ⟨C30, hC30, hen30⟩ := hen30
      subst hen30
      refine g_retv hR dX4_tryPlacement_120 ?_
      clear hR hC hI
      refine ⟨rfl, rfl, _, rfl, ?_, ?_⟩
      · rw [hpl, stF_some (by
          cases b with
          | none => exact Or.inl rfl
          | some r => exact Or.inr ⟨r, rfl, by first | (rw [← hb.2.1]; exact Int32.not_le.mp c73) | exact absurd (hb.1.symm.trans c63) (by decide)⟩)]
        rw [hC30, hC29, hC28, hC27, hC26, hC25]
        refine ⟨by simp [up3], by simp [up3], ?_, by simp [up3], by simp [up3], by simp [up3]; exact hst⟩
        simp [up3]; exact v2
      · rw [hC30, hC29, hC28, hC27, hC26, hC25]
        exact ((((((cO1.rf.up (by decide)).up (by decide)).up (by decide)).up (by decide)).up (by decide)).up (by decide))
    · refine g_iload hC dX4_tryPlacement_66 rfl ?_
      refine g_aload hC dX4_tryPlacement_68 rfl ?_
      refine g_get hC rfl (cT hj1 hj50 hi10) rfl kl_X0 2 (by decide) kf_X4_138 rfl rfl dX4_tryPlacement_70 ?_
      refine g_icmp_ge (tgt := 120) hC dX4_tryPlacement_73 (by decide) (fun c73 => ?_) (fun c73 => ?_)
      · refine g_retv hR dX4_tryPlacement_120 ?_
        clear hR hC hI
        cases b with
        | none => exact absurd hb c63
        | some r =>
          refine ⟨rfl, rfl, C, rfl, ?_, cO1.rf⟩
          rw [hpl, stF_skip rfl (Int32.not_lt.mpr (by rw [← hb.2.1]; exact c73))]
          exact hb
      · refine g_aload hC dX4_tryPlacement_76 rfl ?_
        refine g_iconst (v := 1) hC dX4_tryPlacement_78 (by decide) ?_
        refine g_put (ty := .boolean) hC rfl (cT hj1 hj50 hi10) rfl kl_X0 1 (by decide) kf_X4_132 rfl tyX0 tyX0_ok nmX0 rfl (by decide +kernel) rfl rfl (Nat.le_of_ble_eq_true rfl) dX4_tryPlacement_79 (fun en31 hen31 => ?_)
        replace hen31 := cPT1 hj1 hj50 hi10 hen31
        obtain ⟨C31, hC31, hen31⟩ := hen31
        subst hen31
        refine g_aload hC dX4_tryPlacement_82 rfl ?_
        refine g_iload hC dX4_tryPlacement_84 rfl ?_
        refine g_put (ty := .int) hC rfl (cT hj1 hj50 hi10) rfl kl_X0 2 (by decide) kf_X4_138 rfl tyX0 tyX0_ok nmX0 rfl (by decide +kernel) rfl rfl (Nat.le_of_ble_eq_true rfl) dX4_tryPlacement_86 (fun en32 hen32 => ?_)
        replace hen32 := cPT2 hj1 hj50 hi10 hen32
        obtain ⟨C32, hC32, hen32⟩ := hen32
        subst hen32
        refine g_aload hC dX4_tryPlacement_89 rfl ?_
        refine g_aload_n hC dX4_tryPlacement_91 rfl ?_
        refine g_get hC rfl cO rfl kl_X4 8 (by decide) kf_X4_44 rfl rfl dX4_tryPlacement_92 ?_
        refine g_get hC rfl cV rfl kl_X3 2 (by decide) kf_X4_214 rfl rfl dX4_tryPlacement_95 ?_
        refine g_put (ty := .int) hC rfl (cT hj1 hj50 hi10) rfl kl_X0 3 (by decide) kf_X4_141 rfl tyX0 tyX0_ok nmX0 rfl (by decide +kernel) rfl rfl (Nat.le_of_ble_eq_true rfl) dX4_tryPlacement_98 (fun en33 hen33 => ?_)
        replace hen33 := cPT3 hj1 hj50 hi10 hen33
        obtain ⟨C33, hC33, hen33⟩ := hen33
        subst hen33
        refine g_aload hC dX4_tryPlacement_101 rfl ?_
        refine g_iload_n hC dX4_tryPlacement_103 rfl ?_
        refine g_put (ty := .int) hC rfl (cT hj1 hj50 hi10) rfl kl_X0 4 (by decide) kf_X4_144 rfl tyX0 tyX0_ok nmX0 rfl (by decide +kernel) rfl rfl (Nat.le_of_ble_eq_true rfl) dX4_tryPlacement_104 (fun en34 hen34 => ?_)
        replace hen34 := cPT4 hj1 hj50 hi10 hen34
        obtain ⟨C34, hC34, hen34⟩ := hen34
        subst hen34
        refine g_aload hC dX4_tryPlacement_107 rfl ?_
        refine g_iload_n hC dX4_tryPlacement_109 rfl ?_
        refine g_put (ty := .int) hC rfl (cT hj1 hj50 hi10) rfl kl_X0 5 (by decide) kf_X4_147 rfl tyX0 tyX0_ok nmX0 rfl (by decide +kernel) rfl rfl (Nat.le_of_ble_eq_true rfl) dX4_tryPlacement_110 (fun en35 hen35 => ?_)
        replace hen35 := cPT5 hj1 hj50 hi10 hen35
        obtain ⟨C35, hC35, hen35⟩ := hen35
        subst hen35
        refine g_aload hC dX4_tryPlacement_113 rfl ?_
        refine g_iload hC dX4_tryPlacement_115 rfl ?_
        refine g_put (ty := .int) hC rfl (cT hj1 hj50 hi10) rfl kl_X0 6 (by decide) kf_X4_150 rfl tyX0 tyX0_ok nmX0 rfl (by decide +kernel) rfl rfl (Nat.le_of_ble_eq_true rfl) dX4_tryPlacement_117 (fun en36 hen36 => ?_)
        replace hen36 := cPT6 hj1 hj50 hi10 hen36
        obtain ⟨C36, hC36, hen36⟩ := hen36
        subst hen36
        refine g_retv hR dX4_tryPlacement_120 ?_
        clear hR hC hI
        refine ⟨rfl, rfl, _, rfl, ?_, ?_⟩
        · rw [hpl, stF_some (by
            cases b with
            | none => exact Or.inl rfl
            | some r => exact Or.inr ⟨r, rfl, by first | (rw [← hb.2.1]; exact Int32.not_le.mp c73) | exact absurd (hb.1.symm.trans c63) (by decide)⟩)]
          rw [hC36, hC35, hC34, hC33, hC32, hC31]
          refine ⟨by simp [up3], by simp [up3], ?_, by simp [up3], by simp [up3], by simp [up3]; exact hst⟩
          simp [up3]; exact v2
        · rw [hC36, hC35, hC34, hC33, hC32, hC31]
          exact ((((((cO1.rf.up (by decide)).up (by decide)).up (by decide)).up (by decide)).up (by decide)).up (by decide))
  refine g_aload_n hC dX4_tryPlacement_0 rfl ?_
  refine g_aload_n hC dX4_tryPlacement_1 rfl ?_
  refine g_iload_n hC dX4_tryPlacement_2 rfl ?_
  refine g_iload_n hC dX4_tryPlacement_3 rfl ?_
  refine g_callV hC v_X4_spacingDeviations km_X4_203 (c_X4_spacingDeviations l X b0 lo L _ _ e0 M hM hs j i t o hj hi ho hv f hf) rfl cO rfl rfl rfl rfl (Nat.le_of_ble_eq_true rfl) ⟨by decide, by decide⟩ ⟨by decide, by decide⟩ dX4_tryPlacement_4 (kX ?_)
  refine g_istore hC dX4_tryPlacement_7 (by decide) ?_
  refine g_iload hC dX4_tryPlacement_9 rfl ?_
  refine g_iconst (v := (-1)) hC dX4_tryPlacement_11 (by decide) ?_
  refine g_icmp_ne (tgt := 16) hC dX4_tryPlacement_12 (by decide) (fun c12 => ?_) (fun c12 => ?_)
  · obtain ⟨s0, hs0⟩ : ∃ s0, ssF (sS M j (rvT t)) (qQ M i o) (M 20 2) f (nt (M 7 j)) = some s0 := by
      cases h : ssF (sS M j (rvT t)) (qQ M i o) (M 20 2) f (nt (M 7 j)) with
      | none => rw [h] at c12; exact absurd rfl c12
      | some s0 => exact ⟨s0, rfl⟩
    refine g_iconst (v := (-1)) hC dX4_tryPlacement_16 (by decide) ?_
    refine g_istore hC dX4_tryPlacement_17 (by decide) ?_
    refine g_aload_n hC dX4_tryPlacement_19 rfl ?_
    refine g_get hC rfl cO rfl kl_X4 8 (by decide) kf_X4_44 rfl rfl dX4_tryPlacement_20 ?_
    refine g_get hC rfl cV rfl kl_X3 3 (by decide) kf_X4_198 rfl rfl dX4_tryPlacement_23 ?_
    refine g_iconst (v := (-1)) hC dX4_tryPlacement_26 (by decide) ?_
    refine g_icmp_eq (tgt := 58) hC dX4_tryPlacement_27 (by decide) (fun c27 => ?_) (fun c27 => ?_)
    · have c9 : M 9 j < 0 := by
        by_cases z : M 9 j < 0
        · exact z
        · rw [v3, if_neg z] at c27
          obtain ⟨-, -, k9, hk9, ek9⟩ := pxy_R (t := t) hM hj z
          exact absurd c27 (inn_ne en ek9 (by omega) (by omega))
      have hpl : plF M j i t o f = some (s0, -6) := by unfold plF; rw [hs0]; dsimp only; rw [if_pos c9]
      exact g_lv (lv' := [(0, .ref (lo 0)), (1, .ref (lo (100 + 4 * i))), (2, .int (nI o)), (3, .int f), (4, .ref (lo (203 + (16 * j + i)))), (5, .int s0), (6, .int (-1))]) ⟨rfl, rfl, rfl, rfl, rfl, (by rw [hs0]; rfl), rfl, trivial⟩ (J58 s0 (-1) (-6) hpl rfl)
    · have c9 : ¬ M 9 j < 0 := fun z => c27 (by rw [v3, if_pos z])
      obtain ⟨hx, hy, k9, hk9, ek9⟩ := pxy_R (t := t) hM hj c9
      obtain ⟨ex, ey⟩ := v4 c9
      refine g_aload_n hC dX4_tryPlacement_30 rfl ?_
      refine g_aload_n hC dX4_tryPlacement_31 rfl ?_
      refine g_iload_n hC dX4_tryPlacement_32 rfl ?_
      refine g_callV hC v_X4_fittingState km_X4_207 (c_X4_fittingState l X b0 lo L _ _ e0 M hM hs i hi (pxF M j t) (pyF M j t) f hx hy hf ex ey) rfl cO rfl rfl rfl rfl (Nat.le_of_ble_eq_true rfl) ⟨by decide, by decide⟩ ⟨by decide, by decide⟩ dX4_tryPlacement_33 (kX ?_)
      refine g_istore hC dX4_tryPlacement_36 (by decide) ?_
      refine g_iload hC dX4_tryPlacement_38 rfl ?_
      refine g_iconst (v := (-1)) hC dX4_tryPlacement_40 (by decide) ?_
      refine g_icmp_ne (tgt := 45) hC dX4_tryPlacement_41 (by decide) (fun c41 => ?_) (fun c41 => ?_)
      · obtain ⟨q0, hq0⟩ : ∃ q0, msM M i (pxF M j t) (pyF M j t) f (nt (M 4 i)) = some q0 := by
          cases h : msM M i (pxF M j t) (pyF M j t) f (nt (M 4 i)) with
          | none => rw [h] at c41; exact absurd rfl c41
          | some q0 => exact ⟨q0, rfl⟩
        have hq0l := (msF_R hx hy hf (fun k hk => by have := (hM.2.2.2.2.2.2.1 i hi).2.2.2.2 k hk; exact ⟨this.1, by grind⟩) hq0).1
        obtain ⟨n4, hn41, hn46, en4, en42⟩ := Iv_st hM hi
        have hqv := msM_val hq0
        refine g_iload hC dX4_tryPlacement_45 rfl ?_
        refine g_aload_n hC dX4_tryPlacement_47 rfl ?_
        refine g_aload_n hC dX4_tryPlacement_48 rfl ?_
        refine g_iload hC dX4_tryPlacement_49 rfl ?_
        refine g_val (y := nI q0.1) (by rw [hq0]; rfl) ?_
        refine g_iload_n hC dX4_tryPlacement_51 rfl ?_
        refine g_callV hC v_X4_markDeviation km_X4_211 (c_X4_markDeviation l X b0 lo L _ _ e0 M hM hs i hi (pxF M j t) (pyF M j t) f hx hy hf ex ey q0.1 hq0l) rfl cO rfl rfl rfl rfl (Nat.le_of_ble_eq_true rfl) ⟨by decide, by decide⟩ ⟨by decide, by decide⟩ dX4_tryPlacement_52 (kX ?_)
        refine g_iadd hC dX4_tryPlacement_55 ?_
        refine g_istore hC dX4_tryPlacement_56 (by decide) ?_
        have hpl : plF M j i t o f = some (s0 + q0.2, nI q0.1) := by unfold plF; rw [hs0]; dsimp only; rw [if_neg c9, if_pos (hmk c9), hq0]
        have hst : nI q0.1 = stC (nI q0.1) := by unfold stC; rw [if_neg]; exact fun z => absurd (show nI q0.1 < 0 by rw [z]; decide) (nI_pos (by omega))
        exact g_lv (lv' := [(0, .ref (lo 0)), (1, .ref (lo (100 + 4 * i))), (2, .int (nI o)), (3, .int f), (4, .ref (lo (203 + (16 * j + i)))), (5, .int (s0 + q0.2)), (6, .int (nI q0.1))]) ⟨rfl, rfl, rfl, rfl, rfl, (by rw [hs0, ← hqv]; rfl), (by rw [hq0]; rfl), trivial⟩ (J58 _ _ _ hpl hst)
      · refine g_retv hR dX4_tryPlacement_44 ?_
        clear hR hC hI
        refine ⟨rfl, rfl, C, rfl, ?_, cO1.rf⟩
        have hno : msM M i (pxF M j t) (pyF M j t) f (nt (M 4 i)) = none := by
          cases h : msM M i (pxF M j t) (pyF M j t) f (nt (M 4 i)) with
          | none => rfl
          | some q0 =>
            rw [h] at c41
            have hq0l := (msF_R hx hy hf (fun k hk => by have := (hM.2.2.2.2.2.2.1 i hi).2.2.2.2 k hk; exact ⟨this.1, by grind⟩) h).1
            obtain ⟨n4, hn41, hn46, en4, en42⟩ := Iv_st hM hi
            exact absurd (show nI q0.1 < 0 by rw [show nI q0.1 = -1 from c41]; decide) (nI_pos (by omega))
        have hpl : plF M j i t o f = none := by unfold plF; rw [hs0]; dsimp only; rw [if_neg c9, if_pos (hmk c9), hno]
        rw [hpl]
        exact hb
  · refine g_retv hR dX4_tryPlacement_15 ?_
    clear hR hC hI
    refine ⟨rfl, rfl, C, rfl, ?_, cO1.rf⟩
    have hno : ssF (sS M j (rvT t)) (qQ M i o) (M 20 2) f (nt (M 7 j)) = none := by
      cases h : ssF (sS M j (rvT t)) (qQ M i o) (M 20 2) f (nt (M 7 j)) with
      | none => rfl
      | some s0 =>
        rw [h] at c12
        have h0 := (ssF_R hM.2.1 hf (by omega) (fun q hq => ⟨sS_R hM hj _ hq, qQ_R hM hi (by omega)⟩) h).1
        exact absurd (show s0 < 0 by rw [show s0 = -1 from c12]; decide) (Int32.not_lt.mpr h0)
    have hpl : plF M j i t o f = none := by unfold plF; rw [hno]
    rw [hpl]
    exact hb
