set_option maxHeartbeats 4000000 in
set_option maxRecDepth 100000 in
theorem c_X2_init (l : Launch) (X : gX) (b0 : Nat) (lo : gL) (en : gE) (k kt km a b : Nat) (iv x y : Int32) (ha : a = lo k) (he : en k = some (.inr (2, zX2))) (hkt : k ≠ kt) (hkm : ¬ (km ≤ k ∧ k < km + 10)) (htm : ¬ (km ≤ kt ∧ kt < km + 10)) (hnt : en kt = none) (hnm : ∀ z, z < 10 → en (km + z) = none) : Ct l X b0 lo en yX2_init cX2_init 6 none (rN 2 11 80 100) [.ref a, .ref b, .int iv, .int x, .int y] (fun v lo' en' => v = none ∧ (∀ j, j ≠ kt → ¬ (km ≤ j ∧ j < km + 10) → lo' j = lo j) ∧ (∀ j, j ≠ k → j ≠ kt → ¬ (km ≤ j ∧ j < km + 10) → en' j = en j) ∧ en' k = some (.inr (2, [.ref b, .int iv, .int x, .int y, .int 0, .int 9999, .ref (lo' kt)])) ∧ en' kt = some (.inl (X.2 3, 10, .inr (.inr (.inr (.inr (fun z => if z < 10 then some (lo' (km + z)) else none)))))) ∧ ∀ z, z < 10 → en' (km + z) = some (.inr (0, [.int 0, .int 0, .int 0, .int 0, .int 0, .int 0, .int (-1)]))) := by
  refine gMet (by decide) (Nat.le_of_ble_eq_true rfl) rfl ?_
  intro Z hC hI hR
  rw [← eup_id he]
  refine g_aload_n hC dX2_init_0 rfl ?_
  refine g_objInit hC km_X2_3 (by rw [hC.2.2.1]; decide) (by rw [hC.2.2.1]; exact Nat.le_of_ble_eq_true rfl) dX2_init_1 ?_
  refine g_aload_n hC dX2_init_4 rfl ?_
  refine g_iconst (v := 0) hC dX2_init_5 (by decide) ?_
  refine g_put (ty := .int) hC ha eup_eq rfl kl_X2 4 (by decide) kf_X2_9 rfl tyX2 tyX2_ok nmX2 rfl (by decide +kernel) rfl rfl (Nat.le_of_ble_eq_true rfl) dX2_init_6 (fun e26 he26 => ?_)
  replace he26 : e26 = eup en k (.inr (2, [.null, .int 0, .int 0, .int 0, .int 0, .int 0, .null])) := he26.trans eup_eup
  subst he26
  refine g_aload_n hC dX2_init_9 rfl ?_
  refine g_sipush (v := 9999) hC dX2_init_10 (by decide) ?_
  refine g_put (ty := .int) hC ha eup_eq rfl kl_X2 5 (by decide) kf_X2_15 rfl tyX2 tyX2_ok nmX2 rfl (by decide +kernel) rfl rfl (Nat.le_of_ble_eq_true rfl) dX2_init_13 (fun e27 he27 => ?_)
  replace he27 : e27 = eup en k (.inr (2, [.null, .int 0, .int 0, .int 0, .int 0, .int 9999, .null])) := he27.trans eup_eup
  subst he27
  refine g_aload_n hC dX2_init_16 rfl ?_
  refine g_bipush (v := 10) hC dX2_init_17 (by decide) ?_
  refine g_newQ (t0 := 3) hC (kt) (by rw [eup_ne (by omega)]; exact hnt) kk_X2_18 hC.2.1.2.2.2.2.2.2 rfl (n := 10) rfl (by decide) (by rw [hC.2.2.1]; decide) (by rw [hC.2.2.1]; decide) dX2_init_19 (fun q28 l28 e28 hl28 he28 => ?_)
  replace he28 := he28.trans (eup_comm (by omega))
  obtain ⟨B29, hB29⟩ : ∃ z : gE, z = eup en (kt) (.inl (X.2 3, 10, .inr (.inr (.inr (.inr (fun _ => none)))))) := ⟨_, rfl⟩
  rw [← hB29] at he28
  subst he28
  replace ha : a = l28 (k) := by rw [hl28, lup_ne (by omega)]; exact ha
  refine g_putF (ty := .array (.object "MouldMatcher$Match")) hC ha eup_eq rfl kl_X2 6 (by decide) kf_X2_20 rfl tyX2 tyX2_ok nmX2 rfl (hI rfl) rfl (by decide +kernel) rfl rfl (Nat.le_of_ble_eq_true rfl) dX2_init_22 (fun e30 he30 => ?_)
  replace he30 : e30 = eup B29 k (.inr (2, [.null, .int 0, .int 0, .int 0, .int 0, .int 9999, .ref q28])) := he30.trans eup_eup
  subst he30
  refine g_aload_n hC dX2_init_25 rfl ?_
  refine g_aload_n hC dX2_init_26 rfl ?_
  refine g_putF (ty := .array .int) hC ha eup_eq rfl kl_X2 0 (by decide) kf_X2_24 rfl tyX2 tyX2_ok nmX2 rfl (hI rfl) rfl (by decide +kernel) rfl rfl (Nat.le_of_ble_eq_true rfl) dX2_init_27 (fun e31 he31 => ?_)
  replace he31 : e31 = eup B29 k (.inr (2, [.ref b, .int 0, .int 0, .int 0, .int 0, .int 9999, .ref q28])) := he31.trans eup_eup
  subst he31
  refine g_aload_n hC dX2_init_30 rfl ?_
  refine g_iload_n hC dX2_init_31 rfl ?_
  refine g_putF (ty := .int) hC ha eup_eq rfl kl_X2 1 (by decide) kf_X2_28 rfl tyX2 tyX2_ok nmX2 rfl (hI rfl) rfl (by decide +kernel) rfl rfl (Nat.le_of_ble_eq_true rfl) dX2_init_32 (fun e32 he32 => ?_)
  replace he32 : e32 = eup B29 k (.inr (2, [.ref b, .int iv, .int 0, .int 0, .int 0, .int 9999, .ref q28])) := he32.trans eup_eup
  subst he32
  refine g_aload_n hC dX2_init_35 rfl ?_
  refine g_iload_n hC dX2_init_36 rfl ?_
  refine g_putF (ty := .int) hC ha eup_eq rfl kl_X2 2 (by decide) kf_X2_31 rfl tyX2 tyX2_ok nmX2 rfl (hI rfl) rfl (by decide +kernel) rfl rfl (Nat.le_of_ble_eq_true rfl) dX2_init_37 (fun e33 he33 => ?_)
  replace he33 : e33 = eup B29 k (.inr (2, [.ref b, .int iv, .int x, .int 0, .int 0, .int 9999, .ref q28])) := he33.trans eup_eup
  subst he33
  refine g_aload_n hC dX2_init_40 rfl ?_
  refine g_iload hC dX2_init_41 rfl ?_
  refine g_putF (ty := .int) hC ha eup_eq rfl kl_X2 3 (by decide) kf_X2_34 rfl tyX2 tyX2_ok nmX2 rfl (hI rfl) rfl (by decide +kernel) rfl rfl (Nat.le_of_ble_eq_true rfl) dX2_init_43 (fun e34 he34 => ?_)
  replace he34 : e34 = eup B29 k (.inr (2, [.ref b, .int iv, .int x, .int y, .int 0, .int 9999, .ref q28])) := he34.trans eup_eup
  subst he34
  obtain ⟨E, hE⟩ : ∃ z : gE, z = eup B29 k (.inr (2, [.ref b, .int iv, .int x, .int y, .int 0, .int 9999, .ref q28])) := ⟨_, rfl⟩
  have hEk : E k = some (.inr (2, [.ref b, .int iv, .int x, .int y, .int 0, .int 9999, .ref q28])) := by rw [hE, eup_eq]
  have hEt : E kt = some (.inl (X.2 3, 10, .inr (.inr (.inr (.inr (fun _ => none)))))) := by rw [hE, eup_ne (by omega), hB29, eup_eq]
  have hEo : ∀ j, j ≠ k → j ≠ kt → E j = en j := fun j h1 h2 => by rw [hE, eup_ne h1, hB29, eup_ne h2]
  have hqt : q28 = l28 kt := by rw [hl28, lup_eq]
  have hlo : ∀ j, j ≠ kt → l28 j = lo j := fun j h => by rw [hl28, lup_ne h]
  have loop : ∀ (d i : Nat) (lo2 : gL) (en2 : gE), d + i = 10 → (∀ j, ¬ (km ≤ j ∧ j < km + i) → lo2 j = l28 j) → (∀ j, j ≠ kt → ¬ (km ≤ j ∧ j < km + i) → en2 j = E j) → (∀ z, z < i → en2 (km + z) = some (.inr (0, [.int 0, .int 0, .int 0, .int 0, .int 0, .int 0, .int (-1)]))) → en2 kt = some (.inl (X.2 3, 10, .inr (.inr (.inr (.inr (fun z => if z < i then some (lo2 (km + z)) else none)))))) → GO l X b0 Z (1 + i) (10 + 7 * i) lo2 en2 49 [(0, .ref a), (5, .int (nI i))] [] := by
    intro d
    induction d with
    | zero =>
      intro i lo2 en2 hi h1 h2 h3 h4
      refine g_iload hC dX2_init_49 rfl ?_
      refine g_bipush (v := 10) hC dX2_init_51 (by decide) ?_
      refine g_icmp_ge (tgt := 76) hC dX2_init_53 (by decide) (fun c => ?_) (fun c => absurd (nI_le (a := 10) (b := i) (by omega) (by omega)) c)
      have hi10 : i = 10 := by omega
      subst hi10
      have hk2 : en2 k = some (.inr (2, [.ref b, .int iv, .int x, .int y, .int 0, .int 9999, .ref q28])) := by rw [h2 k (by omega) (by omega)]; exact hEk
      refine g_retv hR dX2_init_76 ⟨rfl, fun j g1 g2 => by rw [h1 j g2, hlo j g1], fun j g1 g2 g3 => by rw [h2 j g2 g3, hEo j g1 g2], ?_, ?_, h3⟩
      · rw [hk2, h1 kt (by omega), ← hqt]
      · rw [h4]
    | succ d ih =>
      intro i lo2 en2 hi h1 h2 h3 h4
      have hk2 : en2 k = some (.inr (2, [.ref b, .int iv, .int x, .int y, .int 0, .int 9999, .ref q28])) := by rw [h2 k (by omega) (by omega)]; exact hEk
      have ha2 : a = lo2 k := by rw [h1 k (by omega)]; exact ha
      have ht2 : q28 = lo2 kt := by rw [h1 kt (by omega)]; exact hqt
      refine g_iload hC dX2_init_49 rfl ?_
      refine g_bipush (v := 10) hC dX2_init_51 (by decide) ?_
      refine g_icmp_ge (tgt := 76) hC dX2_init_53 (by decide) (fun c => absurd c (nI_ge (a := i) (b := 10) (by omega) (by decide))) (fun c => ?_)
      refine g_aload_n hC dX2_init_56 rfl ?_
      refine g_get hC ha2 hk2 rfl kl_X2 6 (by decide) kf_X2_20 rfl rfl dX2_init_57 ?_
      refine g_iload hC dX2_init_60 rfl ?_
      refine g_new (ci := 0) hC (km + i) (by rw [h2 (km + i) (by omega) (by omega), hEo (km + i) (by omega) (by omega)]; exact hnm i (by omega)) rfl kl_X0 tyX0 tyX0_ok kk_X2_18 kn_X0 kz_X0 zX0 dfX0 (by rw [hC.2.2.1]; show 1 + i + 1 ≤ 11; omega) (by rw [hC.2.2.1]; show 10 + 7 * i + 7 ≤ 80; omega) dX2_init_62 (fun q lo3 en3 hlo3 hen3 => ?_)
      refine g_dup hC dX2_init_65 rfl ?_
      have hq : q = lo3 (km + i) := by rw [hlo3, lup_eq]
      have hen3i : en3 (km + i) = some (.inr (0, zX0)) := by rw [hen3, eup_eq]
      refine g_callIN hC v_X0_init hC.2.1.2.2.1 (c_X0_init l X b0 lo3 en3 (km + i) q hq hen3i) rfl rfl (Nat.le_of_ble_eq_true rfl) ⟨by decide, by decide⟩ ⟨by show 1 + i + 1 + 0 ≤ 11; omega, by show 10 + 7 * i + 7 + 0 ≤ 80; omega⟩ dX2_init_66 (fun v lo4 en4 hp => ?_)
      obtain ⟨hv, hlo4, hen4⟩ := hp
      subst hv
      subst hlo4
      rw [hen3, eup_eup] at hen4
      have ht4 : q28 = lo4 kt := by rw [hlo3, lup_ne (by omega)]; exact ht2
      have h4t : en4 kt = some (.inl (X.2 3, 10, .inr (.inr (.inr (.inr (fun z => if z < i then some (lo2 (km + z)) else none)))))) := by rw [hen4, eup_ne (by omega)]; exact h4
      have h4i : en4 (km + i) = some (.inr (0, [.int 0, .int 0, .int 0, .int 0, .int 0, .int 0, .int (-1)])) := by rw [hen4, eup_eq]
      refine g_aast (t0 := 3) hC ht4 hq h4t h4i rfl rfl i rfl (by omega) (by decide) dX2_init_69 (fun en5 hen5 => ?_)
      refine g_iinc hC dX2_init_70 rfl (nI_inc i) (by decide) ?_
      refine g_goto (tgt := 49) hC dX2_init_73 (by decide) ?_
      refine g_widen (k := 1 + (i + 1)) (n := 10 + 7 * (i + 1)) (by show 1 + i + 1 + 0 ≤ _; omega) (by show 10 + 7 * i + 7 + 0 ≤ _; omega) ?_
      have hl4 : ∀ z, z < i → lo4 (km + z) = lo2 (km + z) := fun z hz => by rw [hlo3, lup_ne (by omega)]
      refine g_lv (lv' := [(0, .ref a), (5, .int (nI (i + 1)))]) ⟨rfl, rfl, trivial⟩ (ih (i + 1) lo4 en5 (by omega) (fun j hj => ?_) (fun j hj1 hj2 => ?_) (fun z hz => ?_) ?_)
      · rw [hlo3, lup_ne (by omega), h1 j (by omega)]
      · rw [hen5, eup_ne hj1, hen4, eup_ne (by omega), h2 j hj1 (by omega)]
      · rw [hen5, eup_ne (by omega)]
        by_cases hzi : z = i
        · subst hzi; exact h4i
        · rw [hen4, eup_ne (by omega)]; exact h3 z (by omega)
      · rw [hen5, eup_eq]
        have hf : va_up (fun z => if z < i then some (lo2 (km + z)) else none) i (some q) = fun z => if z < i + 1 then some (lo4 (km + z)) else none := by
          funext z
          unfold va_up
          by_cases hz : z = i
          · subst hz
            rw [if_pos (by omega), hq]
            simp
          · rw [if_neg hz]
            show (if z < i then some (lo2 (km + z)) else none) = _
            by_cases hz2 : z < i
            · rw [if_pos hz2, if_pos (by omega), hl4 z hz2]
            · rw [if_neg hz2, if_neg (by omega)]
        rw [hf]
  refine g_iconst (v := 0) hC dX2_init_46 (by decide) ?_
  refine g_istore hC dX2_init_47 (by decide) ?_
  rw [← hE]
  exact g_lv (lv' := [(0, .ref a), (5, .int (nI 0))]) ⟨rfl, rfl, trivial⟩ (loop 10 0 l28 E rfl (fun _ _ => rfl) (fun _ _ _ => rfl) (fun z hz => absurd hz (by omega)) (by rw [hEt]; congr))
