/-! ===== the reference: placements ===== -/
theorem bz {rv : Bool} (h : (if rv then (1 : Int32) else 0) = 0) : rv = false := by cases rv <;> first | rfl | exact absurd h (by decide)
theorem bn {rv : Bool} (h : ¬ (if rv then (1 : Int32) else 0) = 0) : rv = true := by cases rv <;> first | rfl | exact absurd rfl h
theorem sub2 {x : Int32} {n q : Nat} (h : x = nI n) (hq : q + 1 ≤ n) : x - 1 - nI q = nI (n - 1 - q) := by
  rw [h, show (1 : Int32) = nI 1 from rfl, pk_sub (by omega), pk_sub (by omega)]
theorem up2_up2 {T : rM2} {a i : Nat} {v w : Int32} : up2 (up2 T a i v) a i w = up2 T a i w := by
  funext b j
  unfold up2
  split <;> rfl
theorem up2_same {T : rM2} {a i : Nat} {v : Int32} (h : v = T a i) : up2 T a i v = T := by
  funext b j
  unfold up2
  split
  · rename_i h1; rw [h1.1, h1.2, h]
  · rfl

set_option maxHeartbeats 4000000 in
set_option maxRecDepth 100000 in
theorem c_X5_spacingScore (l : Launch) (X : gX) (b0 : Nat) (lo : gL) (M T : rM2) (e0 : gE) (hM : Iv M) (j i o : Nat) (hj : j < nSh M) (hi : i < nMo M) (ho : o + nt (M 7 j) ≤ nt (M 1 i)) (rv : Bool) (f : Int32) : Ct l X b0 lo (enR X lo M T e0) yX5_spacingScore cX5_spacingScore 11 (some FieldType.int) (rM 1 21) [.ref (lo 1000), .int (nI j), .int (nI i), .int (if rv then 1 else 0), .int (nI o), .int f] (pX (.int (oI (ssF (sS M j rv) (qQ M i o) (M 20 2) f (nt (M 7 j))))) lo (enR X lo M T e0)) := by
  refine gMet (by decide) (Nat.le_of_ble_eq_true rfl) rfl ?_
  intro Z hC hI hR
  obtain ⟨n, hn2, hn10, en, en2⟩ := Iv_sh hM hj
  obtain ⟨n', hn2', hn10', en', en2'⟩ := Iv_mo hM hi
  have hS := (Iv_nS hM).1
  have hMo := (Iv_nM hM).1
  refine g_aload_n hC dX5_spacingScore_0 rfl ?_
  refine g_get hC rfl rO rfl kl_X5 12 (by decide) kf_X5_38 rfl rfl dX5_spacingScore_1 ?_
  refine g_iload_n hC dX5_spacingScore_4 rfl ?_
  refine g_iald hC rfl rA1008 j rfl (by omega) (by decide) dX5_spacingScore_5 ?_
  refine g_istore hC dX5_spacingScore_6 (by decide) ?_
  refine g_iconst (v := 0) hC dX5_spacingScore_8 (by decide) ?_
  refine g_istore hC dX5_spacingScore_9 (by decide) ?_
  refine g_iconst (v := 0) hC dX5_spacingScore_11 (by decide) ?_
  refine g_istore hC dX5_spacingScore_12 (by decide) ?_
  have lp : ∀ (r : Nat) (q : Nat) (s : Int32), q + r = n → ssF (sS M j rv) (qQ M i o) (M 20 2) f q = some s → GO l X b0 Z 0 0 lo (enR X lo M T e0) 14 [(0, .ref (lo 1000)), (1, .int (nI j)), (2, .int (nI i)), (3, .int (if rv then 1 else 0)), (4, .int (nI o)), (5, .int f), (6, .int (M 7 j)), (7, .int s), (8, .int (nI q))] [] := by
    intro r
    induction r with
    | zero =>
      intro q s hq hs
      have hkn : q = n := by omega
      subst hkn
      refine g_iload hC dX5_spacingScore_14 rfl ?_
      refine g_iload hC dX5_spacingScore_16 rfl ?_
      refine g_icmp_ge (tgt := 103) hC dX5_spacingScore_18 (by decide) (fun c18 => ?_) (fun c18 => absurd (by rw [en]; exact nI_le (by omega) (by omega)) c18)
      refine g_iload hC dX5_spacingScore_103 rfl ?_
      refine g_ireti hR dX5_spacingScore_105 rfl ?_
      clear hR hC hI
      refine pXi ?_
      rw [en2, hs]
      rfl
    | succ r ihlp =>
      intro q s hq hs
      refine g_iload hC dX5_spacingScore_14 rfl ?_
      refine g_iload hC dX5_spacingScore_16 rfl ?_
      refine g_icmp_ge (tgt := 103) hC dX5_spacingScore_18 (by decide) (fun c18 => absurd c18 (by rw [en]; exact nI_ge (by omega) (by omega))) (fun c18 => ?_)
      refine g_aload_n hC dX5_spacingScore_21 rfl ?_
      refine g_get hC rfl rO rfl kl_X5 13 (by decide) kf_X5_41 rfl rfl dX5_spacingScore_22 ?_
      refine g_bipush (v := 10) hC dX5_spacingScore_25 (by decide) ?_
      refine g_iload_n hC dX5_spacingScore_27 rfl ?_
      refine g_imul hC dX5_spacingScore_28 ?_
      refine g_iload_n hC dX5_spacingScore_29 rfl ?_
      refine g_if_eq (tgt := 43) hC dX5_spacingScore_30 (by decide) (fun c30 => ?_) (fun c30 => ?_)
      · refine g_iload hC dX5_spacingScore_43 rfl ?_
        refine g_val (y := nI (if rv then nt (M 7 j) - 1 - q else q)) (by first | (rw [bz c30]; rfl) | (rw [bn c30]; exact sub2 (by rw [en2]; exact en) (by omega))) ?_
        refine g_iadd hC dX5_spacingScore_45 ?_
        refine g_iald hC rfl rA1009 (10 * j + (if rv then nt (M 7 j) - 1 - q else q)) (ix10 rfl rfl) (by split <;> omega) (by decide) dX5_spacingScore_46 ?_
        refine g_istore hC dX5_spacingScore_47 (by decide) ?_
        refine g_iload hC dX5_spacingScore_49 rfl ?_
        refine g_aload_n hC dX5_spacingScore_51 rfl ?_
        refine g_get hC rfl rO rfl kl_X5 6 (by decide) kf_X5_23 rfl rfl dX5_spacingScore_52 ?_
        refine g_bipush (v := 10) hC dX5_spacingScore_55 (by decide) ?_
        refine g_iload_n hC dX5_spacingScore_57 rfl ?_
        refine g_imul hC dX5_spacingScore_58 ?_
        refine g_iload hC dX5_spacingScore_59 rfl ?_
        refine g_iadd hC dX5_spacingScore_61 ?_
        refine g_iload hC dX5_spacingScore_62 rfl ?_
        refine g_iadd hC dX5_spacingScore_64 ?_
        refine g_iald hC rfl rA1003 (10 * i + o + q) (nI_maa 10 i o q) (by omega) (by decide) dX5_spacingScore_65 ?_
        refine g_iload hC dX5_spacingScore_66 rfl ?_
        refine g_imul hC dX5_spacingScore_68 ?_
        refine g_sipush (v := 1000) hC dX5_spacingScore_69 (by decide) ?_
        refine g_idiv hC dX5_spacingScore_72 (by decide) ?_
        refine g_callS hC v_X5_apart km_X5_89 (c_X5_apart l X b0 lo _ _ _) rfl rfl (Nat.le_of_ble_eq_true rfl) ⟨by decide, by decide⟩ ⟨by decide, by decide⟩ dX5_spacingScore_73 (kX ?_)
        refine g_istore hC dX5_spacingScore_76 (by decide) ?_
        refine g_iload hC dX5_spacingScore_78 rfl ?_
        refine g_aload_n hC dX5_spacingScore_80 rfl ?_
        refine g_get hC rfl rO rfl kl_X5 2 (by decide) kf_X5_13 rfl rfl dX5_spacingScore_81 ?_
        refine g_icmp_le (tgt := 90) hC dX5_spacingScore_84 (by decide) (fun c84 => ?_) (fun c84 => ?_)
        · refine g_iload hC dX5_spacingScore_90 rfl ?_
          refine g_iload hC dX5_spacingScore_92 rfl ?_
          refine g_iadd hC dX5_spacingScore_94 ?_
          refine g_istore hC dX5_spacingScore_95 (by decide) ?_
          refine g_iinc hC dX5_spacingScore_97 rfl (nI_inc q) (by decide) ?_
          refine g_goto (tgt := 14) hC dX5_spacingScore_100 (by decide) ?_
          exact g_lv (lv' := [(0, .ref (lo 1000)), (1, .int (nI j)), (2, .int (nI i)), (3, .int (if rv then 1 else 0)), (4, .int (nI o)), (5, .int f), (6, .int (M 7 j)), (7, .int (s + ap (sS M j rv q) (qQ M i o q * f / 1000))), (8, .int (nI (q + 1)))]) ⟨rfl, rfl, rfl, rfl, rfl, rfl, rfl, rfl, rfl, trivial⟩ (ihlp (q + 1) _ (by omega) (by rw [ssF, hs]; exact if_neg (Int32.not_lt.mpr c84)))
        · refine g_bipush (v := (-6)) hC dX5_spacingScore_87 (by decide) ?_
          refine g_ireti hR dX5_spacingScore_89 rfl ?_
          clear hR hC hI
          refine pXi ?_
          rw [ssF_none (k := q + 1) (by rw [ssF, hs]; exact if_pos (by have := c84; grind [sS, qQ])) (by omega)]
          rfl
      · refine g_iload hC dX5_spacingScore_33 rfl ?_
        refine g_iconst (v := 1) hC dX5_spacingScore_35 (by decide) ?_
        refine g_isub hC dX5_spacingScore_36 ?_
        refine g_iload hC dX5_spacingScore_37 rfl ?_
        refine g_isub hC dX5_spacingScore_39 ?_
        refine g_goto (tgt := 45) hC dX5_spacingScore_40 (by decide) ?_
        refine g_val (y := nI (if rv then nt (M 7 j) - 1 - q else q)) (by first | (rw [bz c30]; rfl) | (rw [bn c30]; exact sub2 (by rw [en2]; exact en) (by omega))) ?_
        refine g_iadd hC dX5_spacingScore_45 ?_
        refine g_iald hC rfl rA1009 (10 * j + (if rv then nt (M 7 j) - 1 - q else q)) (ix10 rfl rfl) (by split <;> omega) (by decide) dX5_spacingScore_46 ?_
        refine g_istore hC dX5_spacingScore_47 (by decide) ?_
        refine g_iload hC dX5_spacingScore_49 rfl ?_
        refine g_aload_n hC dX5_spacingScore_51 rfl ?_
        refine g_get hC rfl rO rfl kl_X5 6 (by decide) kf_X5_23 rfl rfl dX5_spacingScore_52 ?_
        refine g_bipush (v := 10) hC dX5_spacingScore_55 (by decide) ?_
        refine g_iload_n hC dX5_spacingScore_57 rfl ?_
        refine g_imul hC dX5_spacingScore_58 ?_
        refine g_iload hC dX5_spacingScore_59 rfl ?_
        refine g_iadd hC dX5_spacingScore_61 ?_
        refine g_iload hC dX5_spacingScore_62 rfl ?_
        refine g_iadd hC dX5_spacingScore_64 ?_
        refine g_iald hC rfl rA1003 (10 * i + o + q) (nI_maa 10 i o q) (by omega) (by decide) dX5_spacingScore_65 ?_
        refine g_iload hC dX5_spacingScore_66 rfl ?_
        refine g_imul hC dX5_spacingScore_68 ?_
        refine g_sipush (v := 1000) hC dX5_spacingScore_69 (by decide) ?_
        refine g_idiv hC dX5_spacingScore_72 (by decide) ?_
        refine g_callS hC v_X5_apart km_X5_89 (c_X5_apart l X b0 lo _ _ _) rfl rfl (Nat.le_of_ble_eq_true rfl) ⟨by decide, by decide⟩ ⟨by decide, by decide⟩ dX5_spacingScore_73 (kX ?_)
        refine g_istore hC dX5_spacingScore_76 (by decide) ?_
        refine g_iload hC dX5_spacingScore_78 rfl ?_
        refine g_aload_n hC dX5_spacingScore_80 rfl ?_
        refine g_get hC rfl rO rfl kl_X5 2 (by decide) kf_X5_13 rfl rfl dX5_spacingScore_81 ?_
        refine g_icmp_le (tgt := 90) hC dX5_spacingScore_84 (by decide) (fun c84 => ?_) (fun c84 => ?_)
        · refine g_iload hC dX5_spacingScore_90 rfl ?_
          refine g_iload hC dX5_spacingScore_92 rfl ?_
          refine g_iadd hC dX5_spacingScore_94 ?_
          refine g_istore hC dX5_spacingScore_95 (by decide) ?_
          refine g_iinc hC dX5_spacingScore_97 rfl (nI_inc q) (by decide) ?_
          refine g_goto (tgt := 14) hC dX5_spacingScore_100 (by decide) ?_
          exact g_lv (lv' := [(0, .ref (lo 1000)), (1, .int (nI j)), (2, .int (nI i)), (3, .int (if rv then 1 else 0)), (4, .int (nI o)), (5, .int f), (6, .int (M 7 j)), (7, .int (s + ap (sS M j rv q) (qQ M i o q * f / 1000))), (8, .int (nI (q + 1)))]) ⟨rfl, rfl, rfl, rfl, rfl, rfl, rfl, rfl, rfl, trivial⟩ (ihlp (q + 1) _ (by omega) (by rw [ssF, hs]; exact if_neg (Int32.not_lt.mpr c84)))
        · refine g_bipush (v := (-6)) hC dX5_spacingScore_87 (by decide) ?_
          refine g_ireti hR dX5_spacingScore_89 rfl ?_
          clear hR hC hI
          refine pXi ?_
          rw [ssF_none (k := q + 1) (by rw [ssF, hs]; exact if_pos (by have := c84; grind [sS, qQ])) (by omega)]
          rfl
  exact g_lv (lv' := [(0, .ref (lo 1000)), (1, .int (nI j)), (2, .int (nI i)), (3, .int (if rv then 1 else 0)), (4, .int (nI o)), (5, .int f), (6, .int (M 7 j)), (7, .int 0), (8, .int (nI 0))]) ⟨rfl, rfl, rfl, rfl, rfl, rfl, rfl, rfl, rfl, trivial⟩ (lp n 0 0 (by omega) rfl)

def msV (o : Option (Nat × Int32)) : Int32 := match o with | none => -6 | some q => q.2
def msS (o : Option (Nat × Int32)) : Int32 := match o with | none => -6 | some q => nI q.1

set_option maxHeartbeats 4000000 in
set_option maxRecDepth 100000 in
theorem c_X5_markScore (l : Launch) (X : gX) (b0 : Nat) (lo : gL) (M T : rM2) (e0 : gE) (hM : Iv M) (i : Nat) (hi : i < nMo M) (x y f : Int32) (hx : inR 0 x 450) (hy : inR 0 y 450) (hf : inR 940 f 1000) : Ct l X b0 lo (enR X lo M T e0) yX5_markScore cX5_markScore 10 (some FieldType.int) (rM 1 21) [.ref (lo 1000), .int (nI i), .int x, .int y, .int f] (pI lo (fun r en' => r = msV (msM M i x y f (nt (M 4 i))) ∧ en' = enR X lo M (up2 T 3 19 (msS (msM M i x y f (nt (M 4 i))))) e0)) := by
  refine gMet (by decide) (Nat.le_of_ble_eq_true rfl) rfl ?_
  intro Z hC hI hR
  obtain ⟨n, hn1, hn6, en, en2⟩ := Iv_st hM hi
  have hMo := (Iv_nM hM).1
  have hnn : ∀ k, k < n → ∀ q, msM M i x y f k = some q → 0 ≤ q.2 := fun k hk q hq => (msF_R hx hy hf (fun a ha => by have := (hM.2.2.2.2.2.2.1 i hi).2.2.2.2 a (by omega); exact ⟨this.1, by grind⟩) hq).2.1
  refine g_bipush (v := (-6)) hC dX5_markScore_0 (by decide) ?_
  refine g_istore hC dX5_markScore_2 (by decide) ?_
  refine g_aload_n hC dX5_markScore_4 rfl ?_
  refine g_bipush (v := (-6)) hC dX5_markScore_5 (by decide) ?_
  refine g_put (ty := .int) hC rfl rO rfl kl_X5 19 (by decide) kf_X5_105 rfl tyX5 tyX5_ok nmX5 rfl (by decide +kernel) rfl rfl (Nat.le_of_ble_eq_true rfl) dX5_markScore_7 (fun en20 hen20 => ?_)
  replace hen20 := rP19 hen20
  obtain ⟨T20, hT20, hen20⟩ := hen20
  subst hen20
  refine g_iconst (v := 0) hC dX5_markScore_10 (by decide) ?_
  refine g_istore hC dX5_markScore_11 (by decide) ?_
  have lp : ∀ (r : Nat) (k : Nat) (T1 : rM2), k + r = n → T1 = up2 T 3 19 (msS (msM M i x y f k)) → GO l X b0 Z 0 0 lo (enR X lo M T1 e0) 13 [(0, .ref (lo 1000)), (1, .int (nI i)), (2, .int x), (3, .int y), (4, .int f), (5, .int (msV (msM M i x y f k))), (6, .int (nI k))] [] := by
    intro r
    induction r with
    | zero =>
      intro k T1 hk hT1
      have hkn : k = n := by omega
      subst hkn
      refine g_iload hC dX5_markScore_13 rfl ?_
      refine g_aload_n hC dX5_markScore_15 rfl ?_
      refine g_get hC rfl rO rfl kl_X5 8 (by decide) kf_X5_29 rfl rfl dX5_markScore_16 ?_
      refine g_iload_n hC dX5_markScore_19 rfl ?_
      refine g_iald hC rfl rA1005 i rfl (by omega) (by decide) dX5_markScore_20 ?_
      refine g_icmp_ge (tgt := 138) hC dX5_markScore_21 (by decide) (fun c21 => ?_) (fun c21 => absurd (by rw [en]; exact nI_le (by omega) (by omega)) c21)
      refine g_iload hC dX5_markScore_138 rfl ?_
      refine g_ireti hR dX5_markScore_140 rfl ?_
      clear hR hC hI
      rw [hT1, en2]
      exact ⟨rfl, _, rfl, rfl, rfl⟩
    | succ r ihlp =>
      intro k T1 hk hT1
      refine g_iload hC dX5_markScore_13 rfl ?_
      refine g_aload_n hC dX5_markScore_15 rfl ?_
      refine g_get hC rfl rO rfl kl_X5 8 (by decide) kf_X5_29 rfl rfl dX5_markScore_16 ?_
      refine g_iload_n hC dX5_markScore_19 rfl ?_
      refine g_iald hC rfl rA1005 i rfl (by omega) (by decide) dX5_markScore_20 ?_
      refine g_icmp_ge (tgt := 138) hC dX5_markScore_21 (by decide) (fun c21 => absurd c21 (by rw [en]; exact nI_ge (by omega) (by omega))) (fun c21 => ?_)
      refine g_iload_n hC dX5_markScore_24 rfl ?_
      refine g_aload_n hC dX5_markScore_25 rfl ?_
      refine g_get hC rfl rO rfl kl_X5 9 (by decide) kf_X5_32 rfl rfl dX5_markScore_26 ?_
      refine g_bipush (v := 6) hC dX5_markScore_29 (by decide) ?_
      refine g_iload_n hC dX5_markScore_31 rfl ?_
      refine g_imul hC dX5_markScore_32 ?_
      refine g_iload hC dX5_markScore_33 rfl ?_
      refine g_iadd hC dX5_markScore_35 ?_
      refine g_iald hC rfl rA1006 (6 * i + k) (ix6 rfl rfl) (by omega) (by decide) dX5_markScore_36 ?_
      refine g_iload hC dX5_markScore_37 rfl ?_
      refine g_imul hC dX5_markScore_39 ?_
      refine g_sipush (v := 1000) hC dX5_markScore_40 (by decide) ?_
      refine g_idiv hC dX5_markScore_43 (by decide) ?_
      refine g_callS hC v_X5_apart km_X5_89 (c_X5_apart l X b0 lo _ _ _) rfl rfl (Nat.le_of_ble_eq_true rfl) ⟨by decide, by decide⟩ ⟨by decide, by decide⟩ dX5_markScore_44 (kX ?_)
      refine g_istore hC dX5_markScore_47 (by decide) ?_
      refine g_iload_n hC dX5_markScore_49 rfl ?_
      refine g_aload_n hC dX5_markScore_50 rfl ?_
      refine g_get hC rfl rO rfl kl_X5 10 (by decide) kf_X5_35 rfl rfl dX5_markScore_51 ?_
      refine g_bipush (v := 6) hC dX5_markScore_54 (by decide) ?_
      refine g_iload_n hC dX5_markScore_56 rfl ?_
      refine g_imul hC dX5_markScore_57 ?_
      refine g_iload hC dX5_markScore_58 rfl ?_
      refine g_iadd hC dX5_markScore_60 ?_
      refine g_iald hC rfl rA1007 (6 * i + k) (ix6 rfl rfl) (by omega) (by decide) dX5_markScore_61 ?_
      refine g_iload hC dX5_markScore_62 rfl ?_
      refine g_imul hC dX5_markScore_64 ?_
      refine g_sipush (v := 1000) hC dX5_markScore_65 (by decide) ?_
      refine g_idiv hC dX5_markScore_68 (by decide) ?_
      refine g_callS hC v_X5_apart km_X5_89 (c_X5_apart l X b0 lo _ _ _) rfl rfl (Nat.le_of_ble_eq_true rfl) ⟨by decide, by decide⟩ ⟨by decide, by decide⟩ dX5_markScore_69 (kX ?_)
      refine g_istore hC dX5_markScore_72 (by decide) ?_
      refine g_iload hC dX5_markScore_74 rfl ?_
      refine g_aload_n hC dX5_markScore_76 rfl ?_
      refine g_get hC rfl rO rfl kl_X5 3 (by decide) kf_X5_17 rfl rfl dX5_markScore_77 ?_
      refine g_icmp_gt (tgt := 96) hC dX5_markScore_80 (by decide) (fun c80 => ?_) (fun c80 => ?_)
      · refine g_iconst (v := 0) hC dX5_markScore_96 (by decide) ?_
        refine g_istore hC dX5_markScore_97 (by decide) ?_
        refine g_iload hC dX5_markScore_99 rfl ?_
        refine g_if_eq (tgt := 132) hC dX5_markScore_101 (by decide) (fun c101 => ?_) (fun c101 => absurd (rfl) c101)
        have hst : msM M i x y f (k + 1) = msM M i x y f k := by
          have hn := hnn k (by omega)
          simp only [msM, msF] at *
          grind [msV]
        refine g_iinc hC dX5_markScore_132 rfl (nI_inc k) (by decide) ?_
        refine g_goto (tgt := 13) hC dX5_markScore_135 (by decide) ?_
        exact g_lv (lv' := [(0, .ref (lo 1000)), (1, .int (nI i)), (2, .int x), (3, .int y), (4, .int f), (5, .int (msV (msM M i x y f (k + 1)))), (6, .int (nI (k + 1)))]) ⟨rfl, rfl, rfl, rfl, rfl, (by rw [hst]; rfl), rfl, trivial⟩ (ihlp (k + 1) T1 (by omega) (by rw [hst]; exact hT1))
      · refine g_iload hC dX5_markScore_83 rfl ?_
        refine g_aload_n hC dX5_markScore_85 rfl ?_
        refine g_get hC rfl rO rfl kl_X5 3 (by decide) kf_X5_17 rfl rfl dX5_markScore_86 ?_
        refine g_icmp_gt (tgt := 96) hC dX5_markScore_89 (by decide) (fun c89 => ?_) (fun c89 => ?_)
        · refine g_iconst (v := 0) hC dX5_markScore_96 (by decide) ?_
          refine g_istore hC dX5_markScore_97 (by decide) ?_
          refine g_iload hC dX5_markScore_99 rfl ?_
          refine g_if_eq (tgt := 132) hC dX5_markScore_101 (by decide) (fun c101 => ?_) (fun c101 => absurd (rfl) c101)
          have hst : msM M i x y f (k + 1) = msM M i x y f k := by
            have hn := hnn k (by omega)
            simp only [msM, msF] at *
            grind [msV]
          refine g_iinc hC dX5_markScore_132 rfl (nI_inc k) (by decide) ?_
          refine g_goto (tgt := 13) hC dX5_markScore_135 (by decide) ?_
          exact g_lv (lv' := [(0, .ref (lo 1000)), (1, .int (nI i)), (2, .int x), (3, .int y), (4, .int f), (5, .int (msV (msM M i x y f (k + 1)))), (6, .int (nI (k + 1)))]) ⟨rfl, rfl, rfl, rfl, rfl, (by rw [hst]; rfl), rfl, trivial⟩ (ihlp (k + 1) T1 (by omega) (by rw [hst]; exact hT1))
        · refine g_iconst (v := 1) hC dX5_markScore_92 (by decide) ?_
          refine g_goto (tgt := 97) hC dX5_markScore_93 (by decide) ?_
          refine g_istore hC dX5_markScore_97 (by decide) ?_
          refine g_iload hC dX5_markScore_99 rfl ?_
          refine g_if_eq (tgt := 132) hC dX5_markScore_101 (by decide) (fun c101 => absurd c101 (by decide)) (fun c101 => ?_)
          refine g_iload hC dX5_markScore_104 rfl ?_
          refine g_if_lt (tgt := 119) hC dX5_markScore_106 (by decide) (fun c106 => ?_) (fun c106 => ?_)
          · refine g_iload hC dX5_markScore_119 rfl ?_
            refine g_iload hC dX5_markScore_121 rfl ?_
            refine g_iadd hC dX5_markScore_123 ?_
            refine g_istore hC dX5_markScore_124 (by decide) ?_
            refine g_aload_n hC dX5_markScore_126 rfl ?_
            refine g_iload hC dX5_markScore_127 rfl ?_
            refine g_put (ty := .int) hC rfl rO rfl kl_X5 19 (by decide) kf_X5_105 rfl tyX5 tyX5_ok nmX5 rfl (by decide +kernel) rfl rfl (Nat.le_of_ble_eq_true rfl) dX5_markScore_129 (fun en21 hen21 => ?_)
            replace hen21 := rP19 hen21
            obtain ⟨T21, hT21, hen21⟩ := hen21
            subst hen21
            have hst : msM M i x y f (k + 1) = some (k, (ap x (M 5 (6 * i + k) * f / 1000)) + (ap y (M 6 (6 * i + k) * f / 1000))) := by
              have hn := hnn k (by omega)
              simp only [msM, msF] at *
              grind [msV]
            refine g_iinc hC dX5_markScore_132 rfl (nI_inc k) (by decide) ?_
            refine g_goto (tgt := 13) hC dX5_markScore_135 (by decide) ?_
            exact g_lv (lv' := [(0, .ref (lo 1000)), (1, .int (nI i)), (2, .int x), (3, .int y), (4, .int f), (5, .int (msV (msM M i x y f (k + 1)))), (6, .int (nI (k + 1)))]) ⟨rfl, rfl, rfl, rfl, rfl, (by rw [hst]; rfl), rfl, trivial⟩ (ihlp (k + 1) T21 (by omega) (by rw [hst, hT21, hT1, up2_up2]; rfl))
          · refine g_iload hC dX5_markScore_109 rfl ?_
            refine g_iload hC dX5_markScore_111 rfl ?_
            refine g_iadd hC dX5_markScore_113 ?_
            refine g_iload hC dX5_markScore_114 rfl ?_
            refine g_icmp_ge (tgt := 132) hC dX5_markScore_116 (by decide) (fun c116 => ?_) (fun c116 => ?_)
            · have hst : msM M i x y f (k + 1) = msM M i x y f k := by
                have hn := hnn k (by omega)
                simp only [msM, msF] at *
                grind [msV]
              refine g_iinc hC dX5_markScore_132 rfl (nI_inc k) (by decide) ?_
              refine g_goto (tgt := 13) hC dX5_markScore_135 (by decide) ?_
              exact g_lv (lv' := [(0, .ref (lo 1000)), (1, .int (nI i)), (2, .int x), (3, .int y), (4, .int f), (5, .int (msV (msM M i x y f (k + 1)))), (6, .int (nI (k + 1)))]) ⟨rfl, rfl, rfl, rfl, rfl, (by rw [hst]; rfl), rfl, trivial⟩ (ihlp (k + 1) T1 (by omega) (by rw [hst]; exact hT1))
            · refine g_iload hC dX5_markScore_119 rfl ?_
              refine g_iload hC dX5_markScore_121 rfl ?_
              refine g_iadd hC dX5_markScore_123 ?_
              refine g_istore hC dX5_markScore_124 (by decide) ?_
              refine g_aload_n hC dX5_markScore_126 rfl ?_
              refine g_iload hC dX5_markScore_127 rfl ?_
              refine g_put (ty := .int) hC rfl rO rfl kl_X5 19 (by decide) kf_X5_105 rfl tyX5 tyX5_ok nmX5 rfl (by decide +kernel) rfl rfl (Nat.le_of_ble_eq_true rfl) dX5_markScore_129 (fun en22 hen22 => ?_)
              replace hen22 := rP19 hen22
              obtain ⟨T22, hT22, hen22⟩ := hen22
              subst hen22
              have hst : msM M i x y f (k + 1) = some (k, (ap x (M 5 (6 * i + k) * f / 1000)) + (ap y (M 6 (6 * i + k) * f / 1000))) := by
                have hn := hnn k (by omega)
                simp only [msM, msF] at *
                grind [msV]
              refine g_iinc hC dX5_markScore_132 rfl (nI_inc k) (by decide) ?_
              refine g_goto (tgt := 13) hC dX5_markScore_135 (by decide) ?_
              exact g_lv (lv' := [(0, .ref (lo 1000)), (1, .int (nI i)), (2, .int x), (3, .int y), (4, .int f), (5, .int (msV (msM M i x y f (k + 1)))), (6, .int (nI (k + 1)))]) ⟨rfl, rfl, rfl, rfl, rfl, (by rw [hst]; rfl), rfl, trivial⟩ (ihlp (k + 1) T22 (by omega) (by rw [hst, hT22, hT1, up2_up2]; rfl))
  exact g_lv (lv' := [(0, .ref (lo 1000)), (1, .int (nI i)), (2, .int x), (3, .int y), (4, .int f), (5, .int (-6)), (6, .int (nI 0))]) ⟨rfl, rfl, rfl, rfl, rfl, rfl, rfl, trivial⟩ (lp n 0 T20 (by omega) (by rw [hT20]; rfl))

theorem tq {t k : Nat} (h : nI t = nI k) (ht : t < 4) (hk : k < 4) : t = k := (nI_eq (by omega) (by omega)).mp h
theorem tn {t k : Nat} (h : ¬ nI t = nI k) : t ≠ k := fun z => h (by rw [z])
def plV (o : Option (Int32 × Int32)) : Int32 := match o with | none => -6 | some q => q.1
def plS (o : Option (Int32 × Int32)) : Int32 := match o with | none => -6 | some q => q.2

set_option maxHeartbeats 4000000 in
set_option maxRecDepth 100000 in
theorem c_X5_scoreOf (l : Launch) (X : gX) (b0 : Nat) (lo : gL) (M T : rM2) (e0 : gE) (hM : Iv M) (j i t o : Nat) (hj : j < nSh M) (hi : i < nMo M) (ht : t < 4) (ho : o + nt (M 7 j) ≤ nt (M 1 i)) (f : Int32) (hf : inR 940 f 1000) : Ct l X b0 lo (enR X lo M T e0) yX5_scoreOf cX5_scoreOf 13 (some FieldType.int) (rM 2 51) [.ref (lo 1000), .int (nI j), .int (nI i), .int (nI t), .int (nI o), .int f] (pI lo (fun r en' => r = plV (plF M j i t o f) ∧ en' = enR X lo M (up2 T 3 19 (plS (plF M j i t o f))) e0)) := by
  refine gMet (by decide) (Nat.le_of_ble_eq_true rfl) rfl ?_
  intro Z hC hI hR
  obtain ⟨n, hn2, hn10, en, en2⟩ := Iv_sh hM hj
  have hS := (Iv_nS hM).1
  have hMo := (Iv_nM hM).1
  have J15 : GO l X b0 Z 0 0 lo (enR X lo M T e0) 15 [(0, .ref (lo 1000)), (1, .int (nI j)), (2, .int (nI i)), (3, .int (nI t)), (4, .int (nI o)), (5, .int f)] [.int (if rvT t then 1 else 0)] := by
    refine g_istore hC dX5_scoreOf_15 (by decide) ?_
    refine g_aload_n hC dX5_scoreOf_17 rfl ?_
    refine g_iload_n hC dX5_scoreOf_18 rfl ?_
    refine g_iload_n hC dX5_scoreOf_19 rfl ?_
    refine g_iload hC dX5_scoreOf_20 rfl ?_
    refine g_iload hC dX5_scoreOf_22 rfl ?_
    refine g_iload hC dX5_scoreOf_24 rfl ?_
    refine g_callV hC v_X5_spacingScore km_X5_108 (c_X5_spacingScore l X b0 lo _ _ e0 hM j i o hj hi ho (rvT t) f) rfl rO rfl rfl rfl rfl (Nat.le_of_ble_eq_true rfl) ⟨by decide, by decide⟩ ⟨by decide, by decide⟩ dX5_scoreOf_26 (kX ?_)
    refine g_istore hC dX5_scoreOf_29 (by decide) ?_
    refine g_aload_n hC dX5_scoreOf_31 rfl ?_
    refine g_bipush (v := (-6)) hC dX5_scoreOf_32 (by decide) ?_
    refine g_put (ty := .int) hC rfl rO rfl kl_X5 19 (by decide) kf_X5_105 rfl tyX5 tyX5_ok nmX5 rfl (by decide +kernel) rfl rfl (Nat.le_of_ble_eq_true rfl) dX5_scoreOf_34 (fun en23 hen23 => ?_)
    replace hen23 := rP19 hen23
    obtain ⟨T23, hT23, hen23⟩ := hen23
    subst hen23
    have hT0 : T23 = up2 T 3 19 (-6) := hT23
    refine g_iload hC dX5_scoreOf_37 rfl ?_
    refine g_if_lt (tgt := 51) hC dX5_scoreOf_39 (by decide) (fun c39 => ?_) (fun c39 => ?_)
    · refine g_iload hC dX5_scoreOf_51 rfl ?_
      refine g_ireti hR dX5_scoreOf_53 rfl ?_
      clear hR hC hI
      rw [hT0]
      cases hs0 : ssF (sS M j (rvT t)) (qQ M i o) (M 20 2) f (nt (M 7 j)) with
      | none => refine ⟨rfl, _, rfl, ?_, ?_⟩ <;> (unfold plF; rw [hs0]; rfl)
      | some s0 =>
        rw [hs0] at c39
        have c9 : M 9 j < 0 := by
          first
          | exact Int32.not_le.mp c48
          | exact absurd c39 (Int32.not_lt.mpr (ssF_R hM.2.1 hf (by omega) (fun q hq => ⟨sS_R hM hj _ hq, qQ_R hM hi (by omega)⟩) hs0).1)
        refine ⟨rfl, _, rfl, ?_, ?_⟩ <;> (unfold plF; rw [hs0]; dsimp only; rw [if_pos c9]; rfl)
    · refine g_aload_n hC dX5_scoreOf_42 rfl ?_
      refine g_get hC rfl rO rfl kl_X5 14 (by decide) kf_X5_44 rfl rfl dX5_scoreOf_43 ?_
      refine g_iload_n hC dX5_scoreOf_46 rfl ?_
      refine g_iald hC rfl rA1010 j rfl (by omega) (by decide) dX5_scoreOf_47 ?_
      refine g_if_ge (tgt := 54) hC dX5_scoreOf_48 (by decide) (fun c48 => ?_) (fun c48 => ?_)
      · have c9 : ¬ M 9 j < 0 := Int32.not_lt.mpr c48
        obtain ⟨s0, hs0⟩ : ∃ s0, ssF (sS M j (rvT t)) (qQ M i o) (M 20 2) f (nt (M 7 j)) = some s0 := by
          cases h : ssF (sS M j (rvT t)) (qQ M i o) (M 20 2) f (nt (M 7 j)) with
          | none => rw [h] at c39; exact absurd (by decide) c39
          | some s0 => exact ⟨s0, rfl⟩
        obtain ⟨hx, hy, k9, hk9, ek9⟩ := pxy_R (t := t) hM hj c9
        have hk92 : nt (M 9 j) = k9 := by rw [ek9]; exact nt_nI (by omega)
        refine g_aload_n hC dX5_scoreOf_54 rfl ?_
        refine g_get hC rfl rO rfl kl_X5 14 (by decide) kf_X5_44 rfl rfl dX5_scoreOf_55 ?_
        refine g_iload_n hC dX5_scoreOf_58 rfl ?_
        refine g_iald hC rfl rA1010 j rfl (by omega) (by decide) dX5_scoreOf_59 ?_
        refine g_istore hC dX5_scoreOf_60 (by decide) ?_
        have J83 : GO l X b0 Z 0 0 lo (enR X lo M T23 e0) 83 [(0, .ref (lo 1000)), (1, .int (nI j)), (2, .int (nI i)), (3, .int (nI t)), (4, .int (nI o)), (5, .int f), (6, .int (if rvT t then 1 else 0)), (7, .int (oI (ssF (sS M j (rvT t)) (qQ M i o) (M 20 2) f (nt (M 7 j))))), (8, .int (M 9 j))] [.int (if rvT t then M 7 j - 1 - M 9 j else M 9 j)] := by
          refine g_istore hC dX5_scoreOf_83 (by decide) ?_
          refine g_iload hC dX5_scoreOf_85 rfl ?_
          refine g_iload hC dX5_scoreOf_87 rfl ?_
          refine g_iadd hC dX5_scoreOf_89 ?_
          refine g_aload_n hC dX5_scoreOf_90 rfl ?_
          refine g_get hC rfl rO rfl kl_X5 7 (by decide) kf_X5_26 rfl rfl dX5_scoreOf_91 ?_
          refine g_iload_n hC dX5_scoreOf_94 rfl ?_
          refine g_iald hC rfl rA1004 i rfl (by omega) (by decide) dX5_scoreOf_95 ?_
          refine g_icmp_eq (tgt := 102) hC dX5_scoreOf_96 (by decide) (fun c96 => ?_) (fun c96 => ?_)
          · have J135 : GO l X b0 Z 0 0 lo (enR X lo M T23 e0) 135 [(0, .ref (lo 1000)), (1, .int (nI j)), (2, .int (nI i)), (3, .int (nI t)), (4, .int (nI o)), (5, .int f), (6, .int (if rvT t then 1 else 0)), (7, .int (oI (ssF (sS M j (rvT t)) (qQ M i o) (M 20 2) f (nt (M 7 j))))), (8, .int (M 9 j))] [.int (pxF M j t)] := by
              refine g_istore hC dX5_scoreOf_135 (by decide) ?_
              have J166 : GO l X b0 Z 0 0 lo (enR X lo M T23 e0) 166 [(0, .ref (lo 1000)), (1, .int (nI j)), (2, .int (nI i)), (3, .int (nI t)), (4, .int (nI o)), (5, .int f), (6, .int (if rvT t then 1 else 0)), (7, .int (oI (ssF (sS M j (rvT t)) (qQ M i o) (M 20 2) f (nt (M 7 j))))), (8, .int (M 9 j)), (10, .int (pxF M j t))] [.int (pyF M j t)] := by
                refine g_istore hC dX5_scoreOf_166 (by decide) ?_
                refine g_aload_n hC dX5_scoreOf_168 rfl ?_
                refine g_iload_n hC dX5_scoreOf_169 rfl ?_
                refine g_iload hC dX5_scoreOf_170 rfl ?_
                refine g_iload hC dX5_scoreOf_172 rfl ?_
                refine g_iload hC dX5_scoreOf_174 rfl ?_
                refine g_callV hC v_X5_markScore km_X5_112 (c_X5_markScore l X b0 lo _ _ e0 hM i hi _ _ f hx hy hf) rfl rO rfl rfl rfl rfl (Nat.le_of_ble_eq_true rfl) ⟨by decide, by decide⟩ ⟨by decide, by decide⟩ dX5_scoreOf_176 (kI ?_)
                rintro r1 en' ⟨hr1, rfl⟩
                refine g_istore hC dX5_scoreOf_179 (by decide) ?_
                refine g_iload hC dX5_scoreOf_181 rfl ?_
                refine g_if_ge (tgt := 191) hC dX5_scoreOf_183 (by decide) (fun c183 => ?_) (fun c183 => ?_)
                · refine g_iload hC dX5_scoreOf_191 rfl ?_
                  refine g_iload hC dX5_scoreOf_193 rfl ?_
                  refine g_iadd hC dX5_scoreOf_195 ?_
                  refine g_ireti hR dX5_scoreOf_196 rfl ?_
                  clear hR hC hI
                  rw [hT0, up2_up2]
                  cases hq0 : msM M i (pxF M j t) (pyF M j t) f (nt (M 4 i)) with
                  | none =>
                    rw [hq0] at hr1
                    refine ⟨rfl, _, rfl, ?_, ?_⟩
                    · unfold plF; rw [hs0]; dsimp only; rw [if_neg c9, if_pos c96, hq0]
                      first | rfl | exact absurd (by rw [hr1]; decide) c183 | exact absurd c183 (by rw [hr1]; decide)
                    · unfold plF; rw [hs0]; dsimp only; rw [if_neg c9, if_pos c96, hq0]; rfl
                  | some q0 =>
                    rw [hq0] at hr1
                    have hq9 := (msF_R hx hy hf (fun k hk => by have := (hM.2.2.2.2.2.2.1 i hi).2.2.2.2 k hk; exact ⟨this.1, by grind⟩) hq0).2.1
                    refine ⟨rfl, _, rfl, ?_, ?_⟩
                    · unfold plF; rw [hs0]; dsimp only; rw [if_neg c9, if_pos c96, hq0]
                      first | (rw [hr1]; rfl) | exact absurd (by rw [hr1]; exact hq9) c183 | exact absurd c183 (by rw [hr1]; exact Int32.not_lt.mpr hq9)
                    · unfold plF; rw [hs0]; dsimp only; rw [if_neg c9, if_pos c96, hq0]; rfl
                · refine g_bipush (v := (-6)) hC dX5_scoreOf_186 (by decide) ?_
                  refine g_goto (tgt := 196) hC dX5_scoreOf_188 (by decide) ?_
                  refine g_ireti hR dX5_scoreOf_196 rfl ?_
                  clear hR hC hI
                  rw [hT0, up2_up2]
                  cases hq0 : msM M i (pxF M j t) (pyF M j t) f (nt (M 4 i)) with
                  | none =>
                    rw [hq0] at hr1
                    refine ⟨rfl, _, rfl, ?_, ?_⟩
                    · unfold plF; rw [hs0]; dsimp only; rw [if_neg c9, if_pos c96, hq0]
                      first | rfl | exact absurd (by rw [hr1]; decide) c183 | exact absurd c183 (by rw [hr1]; decide)
                    · unfold plF; rw [hs0]; dsimp only; rw [if_neg c9, if_pos c96, hq0]; rfl
                  | some q0 =>
                    rw [hq0] at hr1
                    have hq9 := (msF_R hx hy hf (fun k hk => by have := (hM.2.2.2.2.2.2.1 i hi).2.2.2.2 k hk; exact ⟨this.1, by grind⟩) hq0).2.1
                    refine ⟨rfl, _, rfl, ?_, ?_⟩
                    · unfold plF; rw [hs0]; dsimp only; rw [if_neg c9, if_pos c96, hq0]
                      first | (rw [hr1]; rfl) | exact absurd (by rw [hr1]; exact hq9) c183 | exact absurd c183 (by rw [hr1]; exact Int32.not_lt.mpr hq9)
                    · unfold plF; rw [hs0]; dsimp only; rw [if_neg c9, if_pos c96, hq0]; rfl
              refine g_iload_n hC dX5_scoreOf_137 rfl ?_
              refine g_iconst (v := 1) hC dX5_scoreOf_138 (by decide) ?_
              refine g_icmp_eq (tgt := 147) hC dX5_scoreOf_139 (by decide) (fun c139 => ?_) (fun c139 => ?_)
              · refine g_sipush (v := 300) hC dX5_scoreOf_147 (by decide) ?_
                refine g_aload_n hC dX5_scoreOf_150 rfl ?_
                refine g_get hC rfl rO rfl kl_X5 16 (by decide) kf_X5_50 rfl rfl dX5_scoreOf_151 ?_
                refine g_iload_n hC dX5_scoreOf_154 rfl ?_
                refine g_iald hC rfl rA1012 j rfl (by omega) (by decide) dX5_scoreOf_155 ?_
                refine g_isub hC dX5_scoreOf_156 ?_
                refine g_goto (tgt := 166) hC dX5_scoreOf_157 (by decide) ?_
                refine g_val (y := pyF M j t) (by unfold pyF; first | (rw [tq (k := 1) c139 ht (by decide)]; rfl) | (rw [tq (k := 3) c144 ht (by decide)]; rfl) | (have h1 := tn (k := 1) c139; have h2 := tn (k := 3) c144; simp [dnT, h1, h2])) ?_
                exact g_lv (lv' := [(0, .ref (lo 1000)), (1, .int (nI j)), (2, .int (nI i)), (3, .int (nI t)), (4, .int (nI o)), (5, .int f), (6, .int (if rvT t then 1 else 0)), (7, .int (oI (ssF (sS M j (rvT t)) (qQ M i o) (M 20 2) f (nt (M 7 j))))), (8, .int (M 9 j)), (10, .int (pxF M j t))]) ⟨rfl, rfl, rfl, rfl, rfl, rfl, rfl, rfl, rfl, rfl, trivial⟩ (J166 )
              · refine g_iload_n hC dX5_scoreOf_142 rfl ?_
                refine g_iconst (v := 3) hC dX5_scoreOf_143 (by decide) ?_
                refine g_icmp_ne (tgt := 160) hC dX5_scoreOf_144 (by decide) (fun c144 => ?_) (fun c144 => ?_)
                · refine g_aload_n hC dX5_scoreOf_160 rfl ?_
                  refine g_get hC rfl rO rfl kl_X5 16 (by decide) kf_X5_50 rfl rfl dX5_scoreOf_161 ?_
                  refine g_iload_n hC dX5_scoreOf_164 rfl ?_
                  refine g_iald hC rfl rA1012 j rfl (by omega) (by decide) dX5_scoreOf_165 ?_
                  refine g_val (y := pyF M j t) (by unfold pyF; first | (rw [tq (k := 1) c139 ht (by decide)]; rfl) | (rw [tq (k := 3) c144 ht (by decide)]; rfl) | (have h1 := tn (k := 1) c139; have h2 := tn (k := 3) c144; simp [dnT, h1, h2])) ?_
                  exact g_lv (lv' := [(0, .ref (lo 1000)), (1, .int (nI j)), (2, .int (nI i)), (3, .int (nI t)), (4, .int (nI o)), (5, .int f), (6, .int (if rvT t then 1 else 0)), (7, .int (oI (ssF (sS M j (rvT t)) (qQ M i o) (M 20 2) f (nt (M 7 j))))), (8, .int (M 9 j)), (10, .int (pxF M j t))]) ⟨rfl, rfl, rfl, rfl, rfl, rfl, rfl, rfl, rfl, rfl, trivial⟩ (J166 )
                · refine g_sipush (v := 300) hC dX5_scoreOf_147 (by decide) ?_
                  refine g_aload_n hC dX5_scoreOf_150 rfl ?_
                  refine g_get hC rfl rO rfl kl_X5 16 (by decide) kf_X5_50 rfl rfl dX5_scoreOf_151 ?_
                  refine g_iload_n hC dX5_scoreOf_154 rfl ?_
                  refine g_iald hC rfl rA1012 j rfl (by omega) (by decide) dX5_scoreOf_155 ?_
                  refine g_isub hC dX5_scoreOf_156 ?_
                  refine g_goto (tgt := 166) hC dX5_scoreOf_157 (by decide) ?_
                  refine g_val (y := pyF M j t) (by unfold pyF; first | (rw [tq (k := 1) c139 ht (by decide)]; rfl) | (rw [tq (k := 3) c144 ht (by decide)]; rfl) | (have h1 := tn (k := 1) c139; have h2 := tn (k := 3) c144; simp [dnT, h1, h2])) ?_
                  exact g_lv (lv' := [(0, .ref (lo 1000)), (1, .int (nI j)), (2, .int (nI i)), (3, .int (nI t)), (4, .int (nI o)), (5, .int f), (6, .int (if rvT t then 1 else 0)), (7, .int (oI (ssF (sS M j (rvT t)) (qQ M i o) (M 20 2) f (nt (M 7 j))))), (8, .int (M 9 j)), (10, .int (pxF M j t))]) ⟨rfl, rfl, rfl, rfl, rfl, rfl, rfl, rfl, rfl, rfl, trivial⟩ (J166 )
            refine g_iload hC dX5_scoreOf_102 rfl ?_
            refine g_if_eq (tgt := 129) hC dX5_scoreOf_104 (by decide) (fun c104 => ?_) (fun c104 => ?_)
            · refine g_aload_n hC dX5_scoreOf_129 rfl ?_
              refine g_get hC rfl rO rfl kl_X5 15 (by decide) kf_X5_47 rfl rfl dX5_scoreOf_130 ?_
              refine g_iload_n hC dX5_scoreOf_133 rfl ?_
              refine g_iald hC rfl rA1011 j rfl (by omega) (by decide) dX5_scoreOf_134 ?_
              refine g_val (y := pxF M j t) (by unfold pxF; first | (rw [bz c104]; rfl) | (rw [bn c104]; rfl)) ?_
              exact g_lv (lv' := [(0, .ref (lo 1000)), (1, .int (nI j)), (2, .int (nI i)), (3, .int (nI t)), (4, .int (nI o)), (5, .int f), (6, .int (if rvT t then 1 else 0)), (7, .int (oI (ssF (sS M j (rvT t)) (qQ M i o) (M 20 2) f (nt (M 7 j))))), (8, .int (M 9 j))]) ⟨rfl, rfl, rfl, rfl, rfl, rfl, rfl, rfl, rfl, trivial⟩ (J135 )
            · refine g_aload_n hC dX5_scoreOf_107 rfl ?_
              refine g_get hC rfl rO rfl kl_X5 13 (by decide) kf_X5_41 rfl rfl dX5_scoreOf_108 ?_
              refine g_bipush (v := 10) hC dX5_scoreOf_111 (by decide) ?_
              refine g_iload_n hC dX5_scoreOf_113 rfl ?_
              refine g_imul hC dX5_scoreOf_114 ?_
              refine g_iload hC dX5_scoreOf_115 rfl ?_
              refine g_iadd hC dX5_scoreOf_117 ?_
              refine g_iald hC rfl rA1009 (10 * j + nt (M 9 j)) (ix10 rfl (by rw [hk92]; exact ek9)) (by omega) (by decide) dX5_scoreOf_118 ?_
              refine g_aload_n hC dX5_scoreOf_119 rfl ?_
              refine g_get hC rfl rO rfl kl_X5 15 (by decide) kf_X5_47 rfl rfl dX5_scoreOf_120 ?_
              refine g_iload_n hC dX5_scoreOf_123 rfl ?_
              refine g_iald hC rfl rA1011 j rfl (by omega) (by decide) dX5_scoreOf_124 ?_
              refine g_isub hC dX5_scoreOf_125 ?_
              refine g_goto (tgt := 135) hC dX5_scoreOf_126 (by decide) ?_
              refine g_val (y := pxF M j t) (by unfold pxF; first | (rw [bz c104]; rfl) | (rw [bn c104]; rfl)) ?_
              exact g_lv (lv' := [(0, .ref (lo 1000)), (1, .int (nI j)), (2, .int (nI i)), (3, .int (nI t)), (4, .int (nI o)), (5, .int f), (6, .int (if rvT t then 1 else 0)), (7, .int (oI (ssF (sS M j (rvT t)) (qQ M i o) (M 20 2) f (nt (M 7 j))))), (8, .int (M 9 j))]) ⟨rfl, rfl, rfl, rfl, rfl, rfl, rfl, rfl, rfl, trivial⟩ (J135 )
          · refine g_bipush (v := (-6)) hC dX5_scoreOf_99 (by decide) ?_
            refine g_ireti hR dX5_scoreOf_101 rfl ?_
            clear hR hC hI
            rw [hT0]
            refine ⟨rfl, _, rfl, ?_, ?_⟩
            · unfold plF; rw [hs0]; dsimp only; rw [if_neg c9, if_neg c96]; rfl
            · unfold plF; rw [hs0]; dsimp only; rw [if_neg c9, if_neg c96]; rfl
        refine g_iload hC dX5_scoreOf_62 rfl ?_
        refine g_if_eq (tgt := 81) hC dX5_scoreOf_64 (by decide) (fun c64 => ?_) (fun c64 => ?_)
        · refine g_iload hC dX5_scoreOf_81 rfl ?_
          refine g_val (y := if rvT t then M 7 j - 1 - M 9 j else M 9 j) (by first | (rw [bz c64]; rfl) | (rw [bn c64]; rfl)) ?_
          exact g_lv (lv' := [(0, .ref (lo 1000)), (1, .int (nI j)), (2, .int (nI i)), (3, .int (nI t)), (4, .int (nI o)), (5, .int f), (6, .int (if rvT t then 1 else 0)), (7, .int (oI (ssF (sS M j (rvT t)) (qQ M i o) (M 20 2) f (nt (M 7 j))))), (8, .int (M 9 j))]) ⟨rfl, rfl, rfl, rfl, rfl, rfl, rfl, rfl, rfl, trivial⟩ (J83 )
        · refine g_aload_n hC dX5_scoreOf_67 rfl ?_
          refine g_get hC rfl rO rfl kl_X5 12 (by decide) kf_X5_38 rfl rfl dX5_scoreOf_68 ?_
          refine g_iload_n hC dX5_scoreOf_71 rfl ?_
          refine g_iald hC rfl rA1008 j rfl (by omega) (by decide) dX5_scoreOf_72 ?_
          refine g_iconst (v := 1) hC dX5_scoreOf_73 (by decide) ?_
          refine g_isub hC dX5_scoreOf_74 ?_
          refine g_iload hC dX5_scoreOf_75 rfl ?_
          refine g_isub hC dX5_scoreOf_77 ?_
          refine g_goto (tgt := 83) hC dX5_scoreOf_78 (by decide) ?_
          refine g_val (y := if rvT t then M 7 j - 1 - M 9 j else M 9 j) (by first | (rw [bz c64]; rfl) | (rw [bn c64]; rfl)) ?_
          exact g_lv (lv' := [(0, .ref (lo 1000)), (1, .int (nI j)), (2, .int (nI i)), (3, .int (nI t)), (4, .int (nI o)), (5, .int f), (6, .int (if rvT t then 1 else 0)), (7, .int (oI (ssF (sS M j (rvT t)) (qQ M i o) (M 20 2) f (nt (M 7 j))))), (8, .int (M 9 j))]) ⟨rfl, rfl, rfl, rfl, rfl, rfl, rfl, rfl, rfl, trivial⟩ (J83 )
      · refine g_iload hC dX5_scoreOf_51 rfl ?_
        refine g_ireti hR dX5_scoreOf_53 rfl ?_
        clear hR hC hI
        rw [hT0]
        cases hs0 : ssF (sS M j (rvT t)) (qQ M i o) (M 20 2) f (nt (M 7 j)) with
        | none => refine ⟨rfl, _, rfl, ?_, ?_⟩ <;> (unfold plF; rw [hs0]; rfl)
        | some s0 =>
          rw [hs0] at c39
          have c9 : M 9 j < 0 := by
            first
            | exact Int32.not_le.mp c48
            | exact absurd c39 (Int32.not_lt.mpr (ssF_R hM.2.1 hf (by omega) (fun q hq => ⟨sS_R hM hj _ hq, qQ_R hM hi (by omega)⟩) hs0).1)
          refine ⟨rfl, _, rfl, ?_, ?_⟩ <;> (unfold plF; rw [hs0]; dsimp only; rw [if_pos c9]; rfl)
  refine g_iload_n hC dX5_scoreOf_0 rfl ?_
  refine g_iconst (v := 1) hC dX5_scoreOf_1 (by decide) ?_
  refine g_icmp_eq (tgt := 10) hC dX5_scoreOf_2 (by decide) (fun c2 => ?_) (fun c2 => ?_)
  · refine g_iconst (v := 1) hC dX5_scoreOf_10 (by decide) ?_
    refine g_goto (tgt := 15) hC dX5_scoreOf_11 (by decide) ?_
    refine g_val (y := if rvT t then 1 else 0) (by first | (rw [tq (k := 1) c2 ht (by decide)]; rfl) | (rw [tq (k := 2) c7 ht (by decide)]; rfl) | (have h1 := tn (k := 1) c2; have h2 := tn (k := 2) c7; simp [rvT, h1, h2])) ?_
    exact g_lv (lv' := [(0, .ref (lo 1000)), (1, .int (nI j)), (2, .int (nI i)), (3, .int (nI t)), (4, .int (nI o)), (5, .int f)]) ⟨rfl, rfl, rfl, rfl, rfl, rfl, trivial⟩ (J15 )
  · refine g_iload_n hC dX5_scoreOf_5 rfl ?_
    refine g_iconst (v := 2) hC dX5_scoreOf_6 (by decide) ?_
    refine g_icmp_ne (tgt := 14) hC dX5_scoreOf_7 (by decide) (fun c7 => ?_) (fun c7 => ?_)
    · refine g_iconst (v := 0) hC dX5_scoreOf_14 (by decide) ?_
      refine g_val (y := if rvT t then 1 else 0) (by first | (rw [tq (k := 1) c2 ht (by decide)]; rfl) | (rw [tq (k := 2) c7 ht (by decide)]; rfl) | (have h1 := tn (k := 1) c2; have h2 := tn (k := 2) c7; simp [rvT, h1, h2])) ?_
      exact g_lv (lv' := [(0, .ref (lo 1000)), (1, .int (nI j)), (2, .int (nI i)), (3, .int (nI t)), (4, .int (nI o)), (5, .int f)]) ⟨rfl, rfl, rfl, rfl, rfl, rfl, trivial⟩ (J15 )
    · refine g_iconst (v := 1) hC dX5_scoreOf_10 (by decide) ?_
      refine g_goto (tgt := 15) hC dX5_scoreOf_11 (by decide) ?_
      refine g_val (y := if rvT t then 1 else 0) (by first | (rw [tq (k := 1) c2 ht (by decide)]; rfl) | (rw [tq (k := 2) c7 ht (by decide)]; rfl) | (have h1 := tn (k := 1) c2; have h2 := tn (k := 2) c7; simp [rvT, h1, h2])) ?_
      exact g_lv (lv' := [(0, .ref (lo 1000)), (1, .int (nI j)), (2, .int (nI i)), (3, .int (nI t)), (4, .int (nI o)), (5, .int f)]) ⟨rfl, rfl, rfl, rfl, rfl, rfl, trivial⟩ (J15 )
