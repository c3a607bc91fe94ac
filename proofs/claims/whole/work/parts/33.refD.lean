/-! ===== the reference: the best placement ===== -/
def bOK (T : rM2) (b : gB) : Prop := match b with
  | none => T 3 20 = -6
  | some r => T 3 20 = r.1 ∧ T 3 21 = r.2.1 ∧ T 3 22 = r.2.2.1 ∧ T 3 23 = r.2.2.2.1 ∧ T 3 24 = r.2.2.2.2
def tOK (T T1 : rM2) : Prop := ∀ a, a ≠ 3 → T1 a = T a
theorem tOK.rf {T : rM2} : tOK T T := fun _ _ => rfl
theorem tOK.up {T T1 : rM2} {i : Nat} {v : Int32} (h : tOK T T1) : tOK T (up2 T1 3 i v) := fun a ha => (up2_row ha).trans (h a ha)
theorem tOK.tr {T T1 T2 : rM2} (h : tOK T T1) (h2 : tOK T1 T2) : tOK T T2 := fun a ha => (h2 a ha).trans (h a ha)
def nnB (b : gB) : Prop := ∀ r, b = some r → 0 ≤ r.1
theorem fc_R {k : Nat} (h : k < 13) : inR 940 (fc k) 1000 := nI_inR (a := 940) (b := 1000) (by omega) (by omega) (by decide)
theorem fc_dec {k : Nat} (h : k < 13) : fc k + Int32.ofInt (-5) = fc (k + 1) := by
  unfold fc
  rw [show 1000 - 5 * (k + 1) = 1000 - 5 * k - 5 by omega, ← pk_sub (a := 1000 - 5 * k) (b := 5) (by omega), show nI 5 = (5 : Int32) from rfl, show Int32.ofInt (-5) = (-5 : Int32) from rfl]
  grind
theorem stF_nn {t o : Nat} {f : Int32} {p : Option (Int32 × Int32)} {b : gB} (hp : ∀ q, p = some q → 0 ≤ q.1) (hb : nnB b) : nnB (stF t o f p b) := by
  intro r hr
  unfold stF at hr
  split at hr
  · exact hb r hr
  · rename_i q
    split at hr
    · cases hr; exact hp q rfl
    · rename_i r0
      split at hr
      · cases hr; exact hp q rfl
      · cases hr; exact hb _ rfl
theorem bF_nn {M : rM2} (hM : Iv M) {j i t o : Nat} (hj : j < nSh M) (hi : i < nMo M) (ho : o + nt (M 7 j) ≤ nt (M 1 i)) {b : gB} (hb : nnB b) : ∀ {k : Nat}, k ≤ 13 → nnB (bF M j i t o k b)
  | 0, _ => hb
  | k + 1, hk => stF_nn (fun q hq => plF_R hM hj hi ho (fc_R (by omega)) hq) (bF_nn hM hj hi ho hb (by omega))
theorem nO_le {M : rM2} {j i o : Nat} (h : o < nO M j i) : o + nt (M 7 j) ≤ nt (M 1 i) := by unfold nO at h; omega
theorem bO_nn {M : rM2} (hM : Iv M) {j i t : Nat} (hj : j < nSh M) (hi : i < nMo M) {b : gB} (hb : nnB b) : ∀ {o : Nat}, o ≤ nO M j i → nnB (bO M j i t o b)
  | 0, _ => hb
  | o + 1, ho => bF_nn hM hj hi (nO_le (by omega)) (bO_nn hM hj hi hb (by omega)) (Nat.le_refl _)
theorem bT_nn {M : rM2} (hM : Iv M) {j i : Nat} (hj : j < nSh M) (hi : i < nMo M) : ∀ {t : Nat}, nnB (bT M j i t none)
  | 0 => fun r h => by cases h
  | t + 1 => bO_nn hM hj hi (bT_nn hM hj hi) (Nat.le_refl _)
theorem fb_nn {M : rM2} (hM : Iv M) {j i : Nat} (hj : j < nSh M) (hi : i < nMo M) : nnB (fb M j i) := bT_nn hM hj hi
theorem off_gt {m n o : Nat} {x y : Int32} (hx : x = nI m) (hy : y = nI n) (hm : m ≤ 10) (hn : n ≤ 10) (ho : o ≤ 20) : (x - y < nI o) ↔ m + 1 - n ≤ o := by
  rw [hx, hy, Int32.lt_iff_toInt_lt, pk_sub_toInt (by omega) (by omega), nI_toInt (by omega)]
  omega

set_option maxHeartbeats 4000000 in
set_option maxRecDepth 100000 in
theorem c_X5_findBest (l : Launch) (X : gX) (b0 : Nat) (lo : gL) (M T : rM2) (e0 : gE) (hM : Iv M) (j i : Nat) (hj : j < nSh M) (hi : i < nMo M) : Ct l X b0 lo (enR X lo M T e0) yX5_findBest cX5_findBest 7 none (rM 3 83) [.ref (lo 1000), .int (nI j), .int (nI i)] (pV lo (fun en' => ∃ T' : rM2, en' = enR X lo M T' e0 ∧ tOK T T' ∧ bOK T' (fb M j i))) := by
  refine gMet (by decide) (Nat.le_of_ble_eq_true rfl) rfl ?_
  intro Z hC hI hR
  obtain ⟨n, hn2, hn10, en, en2⟩ := Iv_sh hM hj
  obtain ⟨m, hm2, hm10, em, em2⟩ := Iv_mo hM hi
  have hS := (Iv_nS hM).1
  have hMo := (Iv_nM hM).1
  refine g_aload_n hC dX5_findBest_0 rfl ?_
  refine g_bipush (v := (-6)) hC dX5_findBest_1 (by decide) ?_
  refine g_put (ty := .int) hC rfl rO rfl kl_X5 20 (by decide) kf_X5_116 rfl tyX5 tyX5_ok nmX5 rfl (by decide +kernel) rfl rfl (Nat.le_of_ble_eq_true rfl) dX5_findBest_3 (fun en24 hen24 => ?_)
  replace hen24 := rP20 hen24
  obtain ⟨T24, hT24, hen24⟩ := hen24
  subst hen24
  refine g_iconst (v := 0) hC dX5_findBest_6 (by decide) ?_
  refine g_istore_n hC dX5_findBest_7 (by decide) ?_
  have lt : ∀ (r : Nat) (t : Nat) (T1 : rM2), t + r = 4 → tOK T T1 → bOK T1 (bT M j i t none) → GO l X b0 Z 0 0 lo (enR X lo M T1 e0) 8 [(0, .ref (lo 1000)), (1, .int (nI j)), (2, .int (nI i)), (3, .int (nI t))] [] := by
    intro r
    induction r with
    | zero =>
      intro t T1 ht4 htk hbk
      have ht9 : t = 4 := by omega
      subst ht9
      refine g_iload_n hC dX5_findBest_8 rfl ?_
      refine g_iconst (v := 4) hC dX5_findBest_9 (by decide) ?_
      refine g_icmp_ge (tgt := 130) hC dX5_findBest_10 (by decide) (fun c10 => ?_) (fun c10 => absurd (by decide) c10)
      refine g_retv hR dX5_findBest_130 ?_
      clear hR hC hI
      exact ⟨rfl, rfl, T1, rfl, htk, hbk⟩
    | succ r ihlt =>
      intro t T1 ht4 htk hbk
      refine g_iload_n hC dX5_findBest_8 rfl ?_
      refine g_iconst (v := 4) hC dX5_findBest_9 (by decide) ?_
      refine g_icmp_ge (tgt := 130) hC dX5_findBest_10 (by decide) (fun c10 => absurd c10 (nI_ge (a := t) (b := 4) (by omega) (by decide))) (fun c10 => ?_)
      refine g_iconst (v := 0) hC dX5_findBest_13 (by decide) ?_
      refine g_istore hC dX5_findBest_14 (by decide) ?_
      have lo_ : ∀ (r : Nat) (o : Nat) (T1 : rM2), o + r = nO M j i → tOK T T1 → bOK T1 (bO M j i t o (bT M j i t none)) → GO l X b0 Z 0 0 lo (enR X lo M T1 e0) 16 [(0, .ref (lo 1000)), (1, .int (nI j)), (2, .int (nI i)), (3, .int (nI t)), (4, .int (nI o))] [] := by
        intro r
        induction r with
        | zero =>
          intro o T1 ho9 htk hbk
          have ho8 : o = nO M j i := by omega
          subst ho8
          have hnO : nO M j i = m + 1 - n := by unfold nO; rw [em2, en2]
          refine g_iload hC dX5_findBest_16 rfl ?_
          refine g_aload_n hC dX5_findBest_18 rfl ?_
          refine g_get hC rfl rO rfl kl_X5 5 (by decide) kf_X5_20 rfl rfl dX5_findBest_19 ?_
          refine g_iload_n hC dX5_findBest_22 rfl ?_
          refine g_iald hC rfl rA1002 i rfl (by omega) (by decide) dX5_findBest_23 ?_
          refine g_aload_n hC dX5_findBest_24 rfl ?_
          refine g_get hC rfl rO rfl kl_X5 12 (by decide) kf_X5_38 rfl rfl dX5_findBest_25 ?_
          refine g_iload_n hC dX5_findBest_28 rfl ?_
          refine g_iald hC rfl rA1008 j rfl (by omega) (by decide) dX5_findBest_29 ?_
          refine g_isub hC dX5_findBest_30 ?_
          refine g_icmp_gt (tgt := 124) hC dX5_findBest_31 (by decide) (fun c31 => ?_) (fun c31 => absurd ((off_gt em en hm10 hn10 (by omega)).mpr (by omega)) c31)
          refine g_iinc hC dX5_findBest_124 rfl (nI_inc t) (by decide) ?_
          refine g_goto (tgt := 8) hC dX5_findBest_127 (by decide) ?_
          exact g_lv (lv' := [(0, .ref (lo 1000)), (1, .int (nI j)), (2, .int (nI i)), (3, .int (nI (t + 1)))]) ⟨rfl, rfl, rfl, rfl, trivial⟩ (ihlt (t + 1) T1 (by omega) htk hbk)
        | succ r ihlo_ =>
          intro o T1 ho9 htk hbk
          have hnO : nO M j i = m + 1 - n := by unfold nO; rw [em2, en2]
          have ho : o + nt (M 7 j) ≤ nt (M 1 i) := nO_le (by omega)
          refine g_iload hC dX5_findBest_16 rfl ?_
          refine g_aload_n hC dX5_findBest_18 rfl ?_
          refine g_get hC rfl rO rfl kl_X5 5 (by decide) kf_X5_20 rfl rfl dX5_findBest_19 ?_
          refine g_iload_n hC dX5_findBest_22 rfl ?_
          refine g_iald hC rfl rA1002 i rfl (by omega) (by decide) dX5_findBest_23 ?_
          refine g_aload_n hC dX5_findBest_24 rfl ?_
          refine g_get hC rfl rO rfl kl_X5 12 (by decide) kf_X5_38 rfl rfl dX5_findBest_25 ?_
          refine g_iload_n hC dX5_findBest_28 rfl ?_
          refine g_iald hC rfl rA1008 j rfl (by omega) (by decide) dX5_findBest_29 ?_
          refine g_isub hC dX5_findBest_30 ?_
          refine g_icmp_gt (tgt := 124) hC dX5_findBest_31 (by decide) (fun c31 => absurd c31 (fun z => absurd ((off_gt em en hm10 hn10 (by omega)).mp z) (by omega))) (fun c31 => ?_)
          refine g_sipush (v := 1000) hC dX5_findBest_34 (by decide) ?_
          refine g_istore hC dX5_findBest_37 (by decide) ?_
          have lk : ∀ (r : Nat) (k : Nat) (T1 : rM2), k + r = 13 → tOK T T1 → bOK T1 (bF M j i t o k (bO M j i t o (bT M j i t none))) → GO l X b0 Z 0 0 lo (enR X lo M T1 e0) 39 [(0, .ref (lo 1000)), (1, .int (nI j)), (2, .int (nI i)), (3, .int (nI t)), (4, .int (nI o)), (5, .int (fc k))] [] := by
            intro r
            induction r with
            | zero =>
              intro k T1 hk9 htk hbk
              have hk8 : k = 13 := by omega
              subst hk8
              refine g_iload hC dX5_findBest_39 rfl ?_
              refine g_sipush (v := 940) hC dX5_findBest_41 (by decide) ?_
              refine g_icmp_lt (tgt := 118) hC dX5_findBest_44 (by decide) (fun c44 => ?_) (fun c44 => absurd (by decide) c44)
              refine g_iinc hC dX5_findBest_118 rfl (nI_inc o) (by decide) ?_
              refine g_goto (tgt := 16) hC dX5_findBest_121 (by decide) ?_
              exact g_lv (lv' := [(0, .ref (lo 1000)), (1, .int (nI j)), (2, .int (nI i)), (3, .int (nI t)), (4, .int (nI (o + 1)))]) ⟨rfl, rfl, rfl, rfl, rfl, trivial⟩ (ihlo_ (o + 1) T1 (by omega) htk hbk)
            | succ r ihlk =>
              intro k T1 hk9 htk hbk
              refine g_iload hC dX5_findBest_39 rfl ?_
              refine g_sipush (v := 940) hC dX5_findBest_41 (by decide) ?_
              refine g_icmp_lt (tgt := 118) hC dX5_findBest_44 (by decide) (fun c44 => absurd c44 (Int32.not_lt.mpr (fc_R (by omega)).1)) (fun c44 => ?_)
              refine g_aload_n hC dX5_findBest_47 rfl ?_
              refine g_iload_n hC dX5_findBest_48 rfl ?_
              refine g_iload_n hC dX5_findBest_49 rfl ?_
              refine g_iload_n hC dX5_findBest_50 rfl ?_
              refine g_iload hC dX5_findBest_51 rfl ?_
              refine g_iload hC dX5_findBest_53 rfl ?_
              refine g_callV hC v_X5_scoreOf km_X5_119 (c_X5_scoreOf l X b0 lo _ _ e0 hM j i t o hj hi (by omega) ho (fc k) (fc_R (by omega))) rfl rO rfl rfl rfl rfl (Nat.le_of_ble_eq_true rfl) ⟨by decide, by decide⟩ ⟨by decide, by decide⟩ dX5_findBest_55 (kI ?_)
              rintro r1 en' ⟨hr1, rfl⟩
              generalize hTs : up2 T1 3 19 (plS (plF M j i t o (fc k))) = T2
              have htk1 : tOK T T2 := by rw [← hTs]; exact htk.up
              have hb1 : T2 3 20 = T1 3 20 ∧ T2 3 21 = T1 3 21 ∧ T2 3 22 = T1 3 22 ∧ T2 3 23 = T1 3 23 ∧ T2 3 24 = T1 3 24 ∧ T2 3 19 = plS (plF M j i t o (fc k)) := by rw [← hTs]; simp [up2]
              refine g_istore hC dX5_findBest_58 (by decide) ?_
              refine g_iload hC dX5_findBest_60 rfl ?_
              refine g_if_lt (tgt := 112) hC dX5_findBest_62 (by decide) (fun c62 => ?_) (fun c62 => ?_)
              · have hbk2 : bOK T2 (bF M j i t o (k + 1) (bO M j i t o (bT M j i t none))) := by
                  have hnb := bF_nn (t := t) (k := k) hM hj hi ho (bO_nn (t := t) (o := o) hM hj hi (bT_nn (t := t) hM hj hi) (by omega)) (by omega)
                  have hnp := fun q hq => plF_R (t := t) (q := q) hM hj hi ho (fc_R (k := k) (by omega)) hq
                  unfold bF
                  generalize bF M j i t o k (bO M j i t o (bT M j i t none)) = b at hbk hnb
                  generalize plF M j i t o (fc k) = p at hr1 hnp hb1
                  clear hC hR hI ihlk ihlo_ ihlt
                  cases p with
                  | none => simp only [bOK, stF] at *; cases b <;> grind
                  | some q =>
                    have hq := hnp q rfl
                    cases b with
                    | none =>
                      simp only [bOK, stF, plV] at *; grind
                    | some r =>
                      have hr := hnb r rfl
                      simp only [bOK, stF, plV] at *; grind
                have htk2 : tOK T T2 := htk1
                refine g_iinc hC dX5_findBest_112 rfl (fc_dec (by omega)) (by decide) ?_
                refine g_goto (tgt := 39) hC dX5_findBest_115 (by decide) ?_
                exact g_lv (lv' := [(0, .ref (lo 1000)), (1, .int (nI j)), (2, .int (nI i)), (3, .int (nI t)), (4, .int (nI o)), (5, .int (fc (k + 1)))]) ⟨rfl, rfl, rfl, rfl, rfl, rfl, trivial⟩ (ihlk (k + 1) T2 (by omega) htk2 hbk2)
              · refine g_aload_n hC dX5_findBest_65 rfl ?_
                refine g_get hC rfl rO rfl kl_X5 20 (by decide) kf_X5_116 rfl rfl dX5_findBest_66 ?_
                refine g_if_lt (tgt := 81) hC dX5_findBest_69 (by decide) (fun c69 => ?_) (fun c69 => ?_)
                · refine g_aload_n hC dX5_findBest_81 rfl ?_
                  refine g_iload hC dX5_findBest_82 rfl ?_
                  refine g_put (ty := .int) hC rfl rO rfl kl_X5 20 (by decide) kf_X5_116 rfl tyX5 tyX5_ok nmX5 rfl (by decide +kernel) rfl rfl (Nat.le_of_ble_eq_true rfl) dX5_findBest_84 (fun en25 hen25 => ?_)
                  replace hen25 := rP20 hen25
                  obtain ⟨T25, hT25, hen25⟩ := hen25
                  subst hen25
                  refine g_aload_n hC dX5_findBest_87 rfl ?_
                  refine g_iload_n hC dX5_findBest_88 rfl ?_
                  refine g_put (ty := .int) hC rfl rO rfl kl_X5 21 (by decide) kf_X5_123 rfl tyX5 tyX5_ok nmX5 rfl (by decide +kernel) rfl rfl (Nat.le_of_ble_eq_true rfl) dX5_findBest_89 (fun en26 hen26 => ?_)
                  replace hen26 := rP21 hen26
                  obtain ⟨T26, hT26, hen26⟩ := hen26
                  subst hen26
                  refine g_aload_n hC dX5_findBest_92 rfl ?_
                  refine g_iload hC dX5_findBest_93 rfl ?_
                  refine g_put (ty := .int) hC rfl rO rfl kl_X5 22 (by decide) kf_X5_126 rfl tyX5 tyX5_ok nmX5 rfl (by decide +kernel) rfl rfl (Nat.le_of_ble_eq_true rfl) dX5_findBest_95 (fun en27 hen27 => ?_)
                  replace hen27 := rP22 hen27
                  obtain ⟨T27, hT27, hen27⟩ := hen27
                  subst hen27
                  refine g_aload_n hC dX5_findBest_98 rfl ?_
                  refine g_iload hC dX5_findBest_99 rfl ?_
                  refine g_put (ty := .int) hC rfl rO rfl kl_X5 23 (by decide) kf_X5_129 rfl tyX5 tyX5_ok nmX5 rfl (by decide +kernel) rfl rfl (Nat.le_of_ble_eq_true rfl) dX5_findBest_101 (fun en28 hen28 => ?_)
                  replace hen28 := rP23 hen28
                  obtain ⟨T28, hT28, hen28⟩ := hen28
                  subst hen28
                  refine g_aload_n hC dX5_findBest_104 rfl ?_
                  refine g_aload_n hC dX5_findBest_105 rfl ?_
                  refine g_get hC rfl rO rfl kl_X5 19 (by decide) kf_X5_105 rfl rfl dX5_findBest_106 ?_
                  refine g_put (ty := .int) hC rfl rO rfl kl_X5 24 (by decide) kf_X5_132 rfl tyX5 tyX5_ok nmX5 rfl (by decide +kernel) rfl rfl (Nat.le_of_ble_eq_true rfl) dX5_findBest_109 (fun en29 hen29 => ?_)
                  replace hen29 := rP24 hen29
                  obtain ⟨T29, hT29, hen29⟩ := hen29
                  subst hen29
                  have hbk2 : bOK T29 (bF M j i t o (k + 1) (bO M j i t o (bT M j i t none))) := by
                    have hnb := bF_nn (t := t) (k := k) hM hj hi ho (bO_nn (t := t) (o := o) hM hj hi (bT_nn (t := t) hM hj hi) (by omega)) (by omega)
                    have hnp := fun q hq => plF_R (t := t) (q := q) hM hj hi ho (fc_R (k := k) (by omega)) hq
                    unfold bF
                    generalize bF M j i t o k (bO M j i t o (bT M j i t none)) = b at hbk hnb
                    generalize plF M j i t o (fc k) = p at hr1 hnp hb1
                    clear hC hR hI ihlk ihlo_ ihlt
                    cases p with
                    | none => simp only [plV] at *; grind
                    | some q =>
                      have hq := hnp q rfl
                      cases b with
                      | none =>
                        simp only [stF]; rw [hT29, hT28, hT27, hT26, hT25]; simp [bOK, up2, plV, plS, hr1, hb1]
                      | some r =>
                        have hr := hnb r rfl
                        have hlt : q.1 < r.1 := by simp only [bOK, plV] at *; grind
                        simp only [stF, if_pos hlt]; rw [hT29, hT28, hT27, hT26, hT25]; simp [bOK, up2, plV, plS, hr1, hb1]
                  have htk2 : tOK T T29 := by rw [hT29, hT28, hT27, hT26, hT25]; exact htk1.up.up.up.up.up
                  refine g_iinc hC dX5_findBest_112 rfl (fc_dec (by omega)) (by decide) ?_
                  refine g_goto (tgt := 39) hC dX5_findBest_115 (by decide) ?_
                  exact g_lv (lv' := [(0, .ref (lo 1000)), (1, .int (nI j)), (2, .int (nI i)), (3, .int (nI t)), (4, .int (nI o)), (5, .int (fc (k + 1)))]) ⟨rfl, rfl, rfl, rfl, rfl, rfl, trivial⟩ (ihlk (k + 1) T29 (by omega) htk2 hbk2)
                · refine g_iload hC dX5_findBest_72 rfl ?_
                  refine g_aload_n hC dX5_findBest_74 rfl ?_
                  refine g_get hC rfl rO rfl kl_X5 20 (by decide) kf_X5_116 rfl rfl dX5_findBest_75 ?_
                  refine g_icmp_ge (tgt := 112) hC dX5_findBest_78 (by decide) (fun c78 => ?_) (fun c78 => ?_)
                  · have hbk2 : bOK T2 (bF M j i t o (k + 1) (bO M j i t o (bT M j i t none))) := by
                      have hnb := bF_nn (t := t) (k := k) hM hj hi ho (bO_nn (t := t) (o := o) hM hj hi (bT_nn (t := t) hM hj hi) (by omega)) (by omega)
                      have hnp := fun q hq => plF_R (t := t) (q := q) hM hj hi ho (fc_R (k := k) (by omega)) hq
                      unfold bF
                      generalize bF M j i t o k (bO M j i t o (bT M j i t none)) = b at hbk hnb
                      generalize plF M j i t o (fc k) = p at hr1 hnp hb1
                      clear hC hR hI ihlk ihlo_ ihlt
                      cases p with
                      | none => simp only [bOK, stF] at *; cases b <;> grind
                      | some q =>
                        have hq := hnp q rfl
                        cases b with
                        | none =>
                          simp only [bOK, stF, plV] at *; grind
                        | some r =>
                          have hr := hnb r rfl
                          simp only [bOK, stF, plV] at *; grind
                    have htk2 : tOK T T2 := htk1
                    refine g_iinc hC dX5_findBest_112 rfl (fc_dec (by omega)) (by decide) ?_
                    refine g_goto (tgt := 39) hC dX5_findBest_115 (by decide) ?_
                    exact g_lv (lv' := [(0, .ref (lo 1000)), (1, .int (nI j)), (2, .int (nI i)), (3, .int (nI t)), (4, .int (nI o)), (5, .int (fc (k + 1)))]) ⟨rfl, rfl, rfl, rfl, rfl, rfl, trivial⟩ (ihlk (k + 1) T2 (by omega) htk2 hbk2)
                  · refine g_aload_n hC dX5_findBest_81 rfl ?_
                    refine g_iload hC dX5_findBest_82 rfl ?_
                    refine g_put (ty := .int) hC rfl rO rfl kl_X5 20 (by decide) kf_X5_116 rfl tyX5 tyX5_ok nmX5 rfl (by decide +kernel) rfl rfl (Nat.le_of_ble_eq_true rfl) dX5_findBest_84 (fun en30 hen30 => ?_)
                    replace hen30 := rP20 hen30
                    obtain ⟨T30, hT30, hen30⟩ := hen30
                    subst hen30
                    refine g_aload_n hC dX5_findBest_87 rfl ?_
                    refine g_iload_n hC dX5_findBest_88 rfl ?_
                    refine g_put (ty := .int) hC rfl rO rfl kl_X5 21 (by decide) kf_X5_123 rfl tyX5 tyX5_ok nmX5 rfl (by decide +kernel) rfl rfl (Nat.le_of_ble_eq_true rfl) dX5_findBest_89 (fun en31 hen31 => ?_)
                    replace hen31 := rP21 hen31
                    obtain ⟨T31, hT31, hen31⟩ := hen31
                    subst hen31
                    refine g_aload_n hC dX5_findBest_92 rfl ?_
                    refine g_iload hC dX5_findBest_93 rfl ?_
                    refine g_put (ty := .int) hC rfl rO rfl kl_X5 22 (by decide) kf_X5_126 rfl tyX5 tyX5_ok nmX5 rfl (by decide +kernel) rfl rfl (Nat.le_of_ble_eq_true rfl) dX5_findBest_95 (fun en32 hen32 => ?_)
                    replace hen32 := rP22 hen32
                    obtain ⟨T32, hT32, hen32⟩ := hen32
                    subst hen32
                    refine g_aload_n hC dX5_findBest_98 rfl ?_
                    refine g_iload hC dX5_findBest_99 rfl ?_
                    refine g_put (ty := .int) hC rfl rO rfl kl_X5 23 (by decide) kf_X5_129 rfl tyX5 tyX5_ok nmX5 rfl (by decide +kernel) rfl rfl (Nat.le_of_ble_eq_true rfl) dX5_findBest_101 (fun en33 hen33 => ?_)
                    replace hen33 := rP23 hen33
                    obtain ⟨T33, hT33, hen33⟩ := hen33
                    subst hen33
                    refine g_aload_n hC dX5_findBest_104 rfl ?_
                    refine g_aload_n hC dX5_findBest_105 rfl ?_
                    refine g_get hC rfl rO rfl kl_X5 19 (by decide) kf_X5_105 rfl rfl dX5_findBest_106 ?_
                    refine g_put (ty := .int) hC rfl rO rfl kl_X5 24 (by decide) kf_X5_132 rfl tyX5 tyX5_ok nmX5 rfl (by decide +kernel) rfl rfl (Nat.le_of_ble_eq_true rfl) dX5_findBest_109 (fun en34 hen34 => ?_)
                    replace hen34 := rP24 hen34
                    obtain ⟨T34, hT34, hen34⟩ := hen34
                    subst hen34
                    have hbk2 : bOK T34 (bF M j i t o (k + 1) (bO M j i t o (bT M j i t none))) := by
                      have hnb := bF_nn (t := t) (k := k) hM hj hi ho (bO_nn (t := t) (o := o) hM hj hi (bT_nn (t := t) hM hj hi) (by omega)) (by omega)
                      have hnp := fun q hq => plF_R (t := t) (q := q) hM hj hi ho (fc_R (k := k) (by omega)) hq
                      unfold bF
                      generalize bF M j i t o k (bO M j i t o (bT M j i t none)) = b at hbk hnb
                      generalize plF M j i t o (fc k) = p at hr1 hnp hb1
                      clear hC hR hI ihlk ihlo_ ihlt
                      cases p with
                      | none => simp only [plV] at *; grind
                      | some q =>
                        have hq := hnp q rfl
                        cases b with
                        | none =>
                          simp only [stF]; rw [hT34, hT33, hT32, hT31, hT30]; simp [bOK, up2, plV, plS, hr1, hb1]
                        | some r =>
                          have hr := hnb r rfl
                          have hlt : q.1 < r.1 := by simp only [bOK, plV] at *; grind
                          simp only [stF, if_pos hlt]; rw [hT34, hT33, hT32, hT31, hT30]; simp [bOK, up2, plV, plS, hr1, hb1]
                    have htk2 : tOK T T34 := by rw [hT34, hT33, hT32, hT31, hT30]; exact htk1.up.up.up.up.up
                    refine g_iinc hC dX5_findBest_112 rfl (fc_dec (by omega)) (by decide) ?_
                    refine g_goto (tgt := 39) hC dX5_findBest_115 (by decide) ?_
                    exact g_lv (lv' := [(0, .ref (lo 1000)), (1, .int (nI j)), (2, .int (nI i)), (3, .int (nI t)), (4, .int (nI o)), (5, .int (fc (k + 1)))]) ⟨rfl, rfl, rfl, rfl, rfl, rfl, trivial⟩ (ihlk (k + 1) T34 (by omega) htk2 hbk2)
          exact g_lv (lv' := [(0, .ref (lo 1000)), (1, .int (nI j)), (2, .int (nI i)), (3, .int (nI t)), (4, .int (nI o)), (5, .int (fc 0))]) ⟨rfl, rfl, rfl, rfl, rfl, rfl, trivial⟩ (lk 13 0 T1 (by omega) htk hbk)
      exact g_lv (lv' := [(0, .ref (lo 1000)), (1, .int (nI j)), (2, .int (nI i)), (3, .int (nI t)), (4, .int (nI 0))]) ⟨rfl, rfl, rfl, rfl, rfl, trivial⟩ (lo_ (nO M j i) 0 T1 (by omega) htk hbk)
  exact g_lv (lv' := [(0, .ref (lo 1000)), (1, .int (nI j)), (2, .int (nI i)), (3, .int (nI 0))]) ⟨rfl, rfl, rfl, rfl, trivial⟩ (lt 4 0 T24 (by omega) (by rw [hT24]; exact tOK.rf.up) (by rw [hT24]; simp [bOK, bT, up2]))
