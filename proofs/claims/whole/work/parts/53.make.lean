/-! ===== makers ===== -/
theorem eup_eup {en : gE} {k : Nat} {x y : va_E} : eup (eup en k x) k y = eup en k y := by funext j; unfold eup; by_cases h : j = k <;> simp [h]
theorem eup_comm {en : gE} {a b : Nat} {x y : va_E} (h : a ≠ b) : eup (eup en a x) b y = eup (eup en b y) a x := by
  funext j
  unfold eup
  by_cases h1 : j = a <;> by_cases h2 : j = b
  · exact absurd (h1.symm.trans h2) h
  · simp only [h1, if_true, if_neg h]
  · simp only [h2, if_true, if_neg (Ne.symm h)]
  · simp only [if_neg h1, if_neg h2]
theorem eup_id {en : gE} {k : Nat} {o : va_E} (h : en k = some o) : eup en k o = en := by
  funext j
  unfold eup
  by_cases h1 : j = k
  · rw [if_pos h1, h1, h]
  · rw [if_neg h1]
def rN (f c s n : Nat) : Room := { frames := f, cells := c, slots := s, locals := n }
/-- fewer labels -/
theorem hw.less {X : gX} {b0 : Nat} {lo lo1 : gL} {en en1 : gE} {H : Heap} (h : hw X b0 lo en H) (hs : ∀ k e, en1 k = some e → en k = some e ∧ lo1 k = lo k) : hw X b0 lo1 en1 H := by
  refine ⟨h.1, fun k e hk => ?_, fun i j e f hi hj hij => ?_⟩
  · obtain ⟨h1, h2⟩ := hs k e hk
    rw [h2]
    exact h.2.1 k e h1
  · obtain ⟨h1, h2⟩ := hs i e hi
    obtain ⟨h3, h4⟩ := hs j f hj
    rw [h2, h4] at hij
    exact h.2.2 i j e f h1 h3 hij
theorem g_less {l : Launch} {X : gX} {b0 : Nat} {Z : gZ} {cells slots pc : Nat} {lo lo1 : gL} {en en1 : gE} {lv : List (Nat × Value)} {st : List Value} (hs : ∀ k e, en1 k = some e → en k = some e ∧ lo1 k = lo k) (kk : GO l X b0 Z cells slots lo1 en1 pc lv st) : GO l X b0 Z cells slots lo en pc lv st := fun H locs ls hS hW hl => kk H locs ls hS (hW.less hs) hl

abbrev zX0 : List Value := [.int 0, .int 0, .int 0, .int 0, .int 0, .int 0, .int 0]
theorem dfX0 : ∀ j, j < 7 → defaultValue (tyX0 j) = vp_V zX0 j := by
  intro j hj
  match j, hj with
  | 0, _ => rfl
  | 1, _ => rfl
  | 2, _ => rfl
  | 3, _ => rfl
  | 4, _ => rfl
  | 5, _ => rfl
  | 6, _ => rfl
  | j + 7, h => exact absurd h (by omega)
abbrev zX1 : List Value := [.null, .int 0, .int 0, .null, .null, .int 0]
theorem dfX1 : ∀ j, j < 6 → defaultValue (tyX1 j) = vp_V zX1 j := by
  intro j hj
  match j, hj with
  | 0, _ => rfl
  | 1, _ => rfl
  | 2, _ => rfl
  | 3, _ => rfl
  | 4, _ => rfl
  | 5, _ => rfl
  | j + 6, h => exact absurd h (by omega)
abbrev zX2 : List Value := [.null, .int 0, .int 0, .int 0, .int 0, .int 0, .null]
theorem dfX2 : ∀ j, j < 7 → defaultValue (tyX2 j) = vp_V zX2 j := by
  intro j hj
  match j, hj with
  | 0, _ => rfl
  | 1, _ => rfl
  | 2, _ => rfl
  | 3, _ => rfl
  | 4, _ => rfl
  | 5, _ => rfl
  | 6, _ => rfl
  | j + 7, h => exact absurd h (by omega)
abbrev zX3 : List Value := [.null, .int 0, .int 0, .int 0, .int 0, .int 0]
theorem dfX3 : ∀ j, j < 6 → defaultValue (tyX3 j) = vp_V zX3 j := by
  intro j hj
  match j, hj with
  | 0, _ => rfl
  | 1, _ => rfl
  | 2, _ => rfl
  | 3, _ => rfl
  | 4, _ => rfl
  | 5, _ => rfl
  | j + 6, h => exact absurd h (by omega)
abbrev zX4 : List Value := [.null, .int 0, .int 0, .int 0, .null, .int 0, .null, .int 0, .null, .null, .null]
theorem dfX4 : ∀ j, j < 11 → defaultValue (tyX4 j) = vp_V zX4 j := by
  intro j hj
  match j, hj with
  | 0, _ => rfl
  | 1, _ => rfl
  | 2, _ => rfl
  | 3, _ => rfl
  | 4, _ => rfl
  | 5, _ => rfl
  | 6, _ => rfl
  | 7, _ => rfl
  | 8, _ => rfl
  | 9, _ => rfl
  | 10, _ => rfl
  | j + 11, h => exact absurd h (by omega)
abbrev zX5 : List Value := [.null, .int 0, .int 0, .int 0, .int 0, .null, .null, .null, .null, .null, .null, .int 0, .null, .null, .null, .null, .null, .null, .null, .int 0, .int 0, .int 0, .int 0, .int 0, .int 0, .null, .null, .null]
theorem dfX5 : ∀ j, j < 28 → defaultValue (tyX5 j) = vp_V zX5 j := by
  intro j hj
  match j, hj with
  | 0, _ => rfl
  | 1, _ => rfl
  | 2, _ => rfl
  | 3, _ => rfl
  | 4, _ => rfl
  | 5, _ => rfl
  | 6, _ => rfl
  | 7, _ => rfl
  | 8, _ => rfl
  | 9, _ => rfl
  | 10, _ => rfl
  | 11, _ => rfl
  | 12, _ => rfl
  | 13, _ => rfl
  | 14, _ => rfl
  | 15, _ => rfl
  | 16, _ => rfl
  | 17, _ => rfl
  | 18, _ => rfl
  | 19, _ => rfl
  | 20, _ => rfl
  | 21, _ => rfl
  | 22, _ => rfl
  | 23, _ => rfl
  | 24, _ => rfl
  | 25, _ => rfl
  | 26, _ => rfl
  | 27, _ => rfl
  | j + 28, h => exact absurd h (by omega)
set_option maxHeartbeats 4000000 in
set_option maxRecDepth 100000 in
theorem c_X0_init (l : Launch) (X : gX) (b0 : Nat) (lo : gL) (en : gE) (k a : Nat) (ha : a = lo k) (he : en k = some (.inr (0, zX0))) : Ct l X b0 lo en yX0_init cX0_init 1 none (rN 1 0 0 40) [.ref a] (fun v lo' en' => v = none ∧ lo' = lo ∧ en' = eup en k (.inr (0, [.int 0, .int 0, .int 0, .int 0, .int 0, .int 0, .int (-1)]))) := by
  refine gMet (by decide) (Nat.le_of_ble_eq_true rfl) rfl ?_
  intro Z hC hI hR
  rw [← eup_id he]
  refine g_aload_n hC dX0_init_0 rfl ?_
  refine g_objInit hC km_X0_3 (by rw [hC.2.2.1]; decide) (by rw [hC.2.2.1]; exact Nat.le_of_ble_eq_true rfl) dX0_init_1 ?_
  refine g_aload_n hC dX0_init_4 rfl ?_
  refine g_iconst (v := 0) hC dX0_init_5 (by decide) ?_
  refine g_put (ty := .boolean) hC ha eup_eq rfl kl_X0 0 (by decide) kf_X0_9 rfl tyX0 tyX0_ok nmX0 rfl (by decide +kernel) rfl rfl (Nat.le_of_ble_eq_true rfl) dX0_init_6 (fun e1 he1 => ?_)
  replace he1 : e1 = eup en k (.inr (0, [.int 0, .int 0, .int 0, .int 0, .int 0, .int 0, .int 0])) := he1.trans eup_eup
  subst he1
  refine g_aload_n hC dX0_init_9 rfl ?_
  refine g_iconst (v := 0) hC dX0_init_10 (by decide) ?_
  refine g_put (ty := .boolean) hC ha eup_eq rfl kl_X0 1 (by decide) kf_X0_15 rfl tyX0 tyX0_ok nmX0 rfl (by decide +kernel) rfl rfl (Nat.le_of_ble_eq_true rfl) dX0_init_11 (fun e2 he2 => ?_)
  replace he2 : e2 = eup en k (.inr (0, [.int 0, .int 0, .int 0, .int 0, .int 0, .int 0, .int 0])) := he2.trans eup_eup
  subst he2
  refine g_aload_n hC dX0_init_14 rfl ?_
  refine g_iconst (v := 0) hC dX0_init_15 (by decide) ?_
  refine g_put (ty := .int) hC ha eup_eq rfl kl_X0 2 (by decide) kf_X0_18 rfl tyX0 tyX0_ok nmX0 rfl (by decide +kernel) rfl rfl (Nat.le_of_ble_eq_true rfl) dX0_init_16 (fun e3 he3 => ?_)
  replace he3 : e3 = eup en k (.inr (0, [.int 0, .int 0, .int 0, .int 0, .int 0, .int 0, .int 0])) := he3.trans eup_eup
  subst he3
  refine g_aload_n hC dX0_init_19 rfl ?_
  refine g_iconst (v := 0) hC dX0_init_20 (by decide) ?_
  refine g_put (ty := .int) hC ha eup_eq rfl kl_X0 3 (by decide) kf_X0_22 rfl tyX0 tyX0_ok nmX0 rfl (by decide +kernel) rfl rfl (Nat.le_of_ble_eq_true rfl) dX0_init_21 (fun e4 he4 => ?_)
  replace he4 : e4 = eup en k (.inr (0, [.int 0, .int 0, .int 0, .int 0, .int 0, .int 0, .int 0])) := he4.trans eup_eup
  subst he4
  refine g_aload_n hC dX0_init_24 rfl ?_
  refine g_iconst (v := 0) hC dX0_init_25 (by decide) ?_
  refine g_put (ty := .int) hC ha eup_eq rfl kl_X0 4 (by decide) kf_X0_25 rfl tyX0 tyX0_ok nmX0 rfl (by decide +kernel) rfl rfl (Nat.le_of_ble_eq_true rfl) dX0_init_26 (fun e5 he5 => ?_)
  replace he5 : e5 = eup en k (.inr (0, [.int 0, .int 0, .int 0, .int 0, .int 0, .int 0, .int 0])) := he5.trans eup_eup
  subst he5
  refine g_aload_n hC dX0_init_29 rfl ?_
  refine g_iconst (v := 0) hC dX0_init_30 (by decide) ?_
  refine g_put (ty := .int) hC ha eup_eq rfl kl_X0 5 (by decide) kf_X0_28 rfl tyX0 tyX0_ok nmX0 rfl (by decide +kernel) rfl rfl (Nat.le_of_ble_eq_true rfl) dX0_init_31 (fun e6 he6 => ?_)
  replace he6 : e6 = eup en k (.inr (0, [.int 0, .int 0, .int 0, .int 0, .int 0, .int 0, .int 0])) := he6.trans eup_eup
  subst he6
  refine g_aload_n hC dX0_init_34 rfl ?_
  refine g_iconst (v := (-1)) hC dX0_init_35 (by decide) ?_
  refine g_put (ty := .int) hC ha eup_eq rfl kl_X0 6 (by decide) kf_X0_31 rfl tyX0 tyX0_ok nmX0 rfl (by decide +kernel) rfl rfl (Nat.le_of_ble_eq_true rfl) dX0_init_36 (fun e7 he7 => ?_)
  replace he7 : e7 = eup en k (.inr (0, [.int 0, .int 0, .int 0, .int 0, .int 0, .int 0, .int (-1)])) := he7.trans eup_eup
  subst he7
  exact g_retv hR dX0_init_39 ⟨rfl, rfl, rfl⟩
set_option maxHeartbeats 4000000 in
set_option maxRecDepth 100000 in
theorem c_X3_init (l : Launch) (X : gX) (b0 : Nat) (lo : gL) (en : gE) (k kn a : Nat) (ha : a = lo k) (he : en k = some (.inr (3, zX3))) (hkn : k ≠ kn) (hn : en kn = none) : Ct l X b0 lo en yX3_init cX3_init 1 none (rN 1 1 10 40) [.ref a] (fun v lo' en' => v = none ∧ ∃ q, lo' = lup lo kn q ∧ en' = eup (eup en kn (.inl (X.2 0, 10, .inl (fun _ => 0)))) k (.inr (3, [.ref q, .int 0, .int 0, .int (-1), .int 0, .int 0]))) := by
  refine gMet (by decide) (Nat.le_of_ble_eq_true rfl) rfl ?_
  intro Z hC hI hR
  rw [← eup_id he]
  refine g_aload_n hC dX3_init_0 rfl ?_
  refine g_objInit hC km_X3_3 (by rw [hC.2.2.1]; decide) (by rw [hC.2.2.1]; exact Nat.le_of_ble_eq_true rfl) dX3_init_1 ?_
  refine g_aload_n hC dX3_init_4 rfl ?_
  refine g_bipush (v := 10) hC dX3_init_5 (by decide) ?_
  refine g_newI hC (kn) (by rw [eup_ne (by omega)]; exact hn) (n := 10) rfl (by decide) (by rw [hC.2.2.1]; decide) (by rw [hC.2.2.1]; decide) dX3_init_7 (fun q8 l8 e8 hl8 he8 => ?_)
  replace he8 := he8.trans (eup_comm (by omega))
  obtain ⟨B9, hB9⟩ : ∃ z : gE, z = eup en (kn) (.inl (X.2 0, 10, .inl (fun _ => 0))) := ⟨_, rfl⟩
  rw [← hB9] at he8
  subst he8
  replace ha : a = l8 (k) := by rw [hl8, lup_ne (by omega)]; exact ha
  refine g_putF (ty := .array .int) hC ha eup_eq rfl kl_X3 0 (by decide) kf_X3_9 rfl tyX3 tyX3_ok nmX3 rfl (hI rfl) rfl (by decide +kernel) rfl rfl (Nat.le_of_ble_eq_true rfl) dX3_init_9 (fun e10 he10 => ?_)
  replace he10 : e10 = eup B9 k (.inr (3, [.ref q8, .int 0, .int 0, .int 0, .int 0, .int 0])) := he10.trans eup_eup
  subst he10
  refine g_aload_n hC dX3_init_12 rfl ?_
  refine g_iconst (v := 0) hC dX3_init_13 (by decide) ?_
  refine g_put (ty := .int) hC ha eup_eq rfl kl_X3 1 (by decide) kf_X3_15 rfl tyX3 tyX3_ok nmX3 rfl (by decide +kernel) rfl rfl (Nat.le_of_ble_eq_true rfl) dX3_init_14 (fun e11 he11 => ?_)
  replace he11 : e11 = eup B9 k (.inr (3, [.ref q8, .int 0, .int 0, .int 0, .int 0, .int 0])) := he11.trans eup_eup
  subst he11
  refine g_aload_n hC dX3_init_17 rfl ?_
  refine g_iconst (v := 0) hC dX3_init_18 (by decide) ?_
  refine g_put (ty := .int) hC ha eup_eq rfl kl_X3 2 (by decide) kf_X3_19 rfl tyX3 tyX3_ok nmX3 rfl (by decide +kernel) rfl rfl (Nat.le_of_ble_eq_true rfl) dX3_init_19 (fun e12 he12 => ?_)
  replace he12 : e12 = eup B9 k (.inr (3, [.ref q8, .int 0, .int 0, .int 0, .int 0, .int 0])) := he12.trans eup_eup
  subst he12
  refine g_aload_n hC dX3_init_22 rfl ?_
  refine g_iconst (v := (-1)) hC dX3_init_23 (by decide) ?_
  refine g_put (ty := .int) hC ha eup_eq rfl kl_X3 3 (by decide) kf_X3_22 rfl tyX3 tyX3_ok nmX3 rfl (by decide +kernel) rfl rfl (Nat.le_of_ble_eq_true rfl) dX3_init_24 (fun e13 he13 => ?_)
  replace he13 : e13 = eup B9 k (.inr (3, [.ref q8, .int 0, .int 0, .int (-1), .int 0, .int 0])) := he13.trans eup_eup
  subst he13
  refine g_aload_n hC dX3_init_27 rfl ?_
  refine g_iconst (v := 0) hC dX3_init_28 (by decide) ?_
  refine g_put (ty := .int) hC ha eup_eq rfl kl_X3 4 (by decide) kf_X3_25 rfl tyX3 tyX3_ok nmX3 rfl (by decide +kernel) rfl rfl (Nat.le_of_ble_eq_true rfl) dX3_init_29 (fun e14 he14 => ?_)
  replace he14 : e14 = eup B9 k (.inr (3, [.ref q8, .int 0, .int 0, .int (-1), .int 0, .int 0])) := he14.trans eup_eup
  subst he14
  refine g_aload_n hC dX3_init_32 rfl ?_
  refine g_iconst (v := 0) hC dX3_init_33 (by decide) ?_
  refine g_put (ty := .int) hC ha eup_eq rfl kl_X3 5 (by decide) kf_X3_28 rfl tyX3 tyX3_ok nmX3 rfl (by decide +kernel) rfl rfl (Nat.le_of_ble_eq_true rfl) dX3_init_34 (fun e15 he15 => ?_)
  replace he15 : e15 = eup B9 k (.inr (3, [.ref q8, .int 0, .int 0, .int (-1), .int 0, .int 0])) := he15.trans eup_eup
  subst he15
  exact g_retv hR dX3_init_37 ⟨rfl, q8, hl8, by rw [hB9]⟩
set_option maxHeartbeats 4000000 in
set_option maxRecDepth 100000 in
theorem c_X1_init (l : Launch) (X : gX) (b0 : Nat) (lo : gL) (en : gE) (k kx ky a b : Nat) (iv wd : Int32) (ha : a = lo k) (he : en k = some (.inr (1, zX1))) (hkx : k ≠ kx) (hky : k ≠ ky) (hxy : kx ≠ ky) (hnx : en kx = none) (hny : en ky = none) : Ct l X b0 lo en yX1_init cX1_init 4 none (rN 1 2 12 40) [.ref a, .ref b, .int iv, .int wd] (fun v lo' en' => v = none ∧ ∃ q1 q2, lo' = lup (lup lo kx q1) ky q2 ∧ en' = eup (eup (eup en kx (.inl (X.2 0, 6, .inl (fun _ => 0)))) ky (.inl (X.2 0, 6, .inl (fun _ => 0)))) k (.inr (1, [.ref b, .int iv, .int wd, .ref q1, .ref q2, .int 0]))) := by
  refine gMet (by decide) (Nat.le_of_ble_eq_true rfl) rfl ?_
  intro Z hC hI hR
  rw [← eup_id he]
  refine g_aload_n hC dX1_init_0 rfl ?_
  refine g_objInit hC km_X1_3 (by rw [hC.2.2.1]; decide) (by rw [hC.2.2.1]; exact Nat.le_of_ble_eq_true rfl) dX1_init_1 ?_
  refine g_aload_n hC dX1_init_4 rfl ?_
  refine g_bipush (v := 6) hC dX1_init_5 (by decide) ?_
  refine g_newI hC (kx) (by rw [eup_ne (by omega)]; exact hnx) (n := 6) rfl (by decide) (by rw [hC.2.2.1]; decide) (by rw [hC.2.2.1]; decide) dX1_init_7 (fun q16 l16 e16 hl16 he16 => ?_)
  replace he16 := he16.trans (eup_comm (by omega))
  obtain ⟨B17, hB17⟩ : ∃ z : gE, z = eup en (kx) (.inl (X.2 0, 6, .inl (fun _ => 0))) := ⟨_, rfl⟩
  rw [← hB17] at he16
  subst he16
  replace ha : a = l16 (k) := by rw [hl16, lup_ne (by omega)]; exact ha
  refine g_putF (ty := .array .int) hC ha eup_eq rfl kl_X1 3 (by decide) kf_X1_9 rfl tyX1 tyX1_ok nmX1 rfl (hI rfl) rfl (by decide +kernel) rfl rfl (Nat.le_of_ble_eq_true rfl) dX1_init_9 (fun e18 he18 => ?_)
  replace he18 : e18 = eup B17 k (.inr (1, [.null, .int 0, .int 0, .ref q16, .null, .int 0])) := he18.trans eup_eup
  subst he18
  refine g_aload_n hC dX1_init_12 rfl ?_
  refine g_bipush (v := 6) hC dX1_init_13 (by decide) ?_
  have hny1 : B17 ky = none := by rw [hB17, eup_ne (by omega)]; exact hny
  refine g_newI hC (ky) (by rw [eup_ne (by omega)]; exact hny1) (n := 6) rfl (by decide) (by rw [hC.2.2.1]; decide) (by rw [hC.2.2.1]; decide) dX1_init_15 (fun q19 l19 e19 hl19 he19 => ?_)
  replace he19 := he19.trans (eup_comm (by omega))
  obtain ⟨B20, hB20⟩ : ∃ z : gE, z = eup B17 (ky) (.inl (X.2 0, 6, .inl (fun _ => 0))) := ⟨_, rfl⟩
  rw [← hB20] at he19
  subst he19
  replace ha : a = l19 (k) := by rw [hl19, lup_ne (by omega)]; exact ha
  refine g_putF (ty := .array .int) hC ha eup_eq rfl kl_X1 4 (by decide) kf_X1_15 rfl tyX1 tyX1_ok nmX1 rfl (hI rfl) rfl (by decide +kernel) rfl rfl (Nat.le_of_ble_eq_true rfl) dX1_init_17 (fun e21 he21 => ?_)
  replace he21 : e21 = eup B20 k (.inr (1, [.null, .int 0, .int 0, .ref q16, .ref q19, .int 0])) := he21.trans eup_eup
  subst he21
  refine g_aload_n hC dX1_init_20 rfl ?_
  refine g_iconst (v := 0) hC dX1_init_21 (by decide) ?_
  refine g_put (ty := .int) hC ha eup_eq rfl kl_X1 5 (by decide) kf_X1_18 rfl tyX1 tyX1_ok nmX1 rfl (by decide +kernel) rfl rfl (Nat.le_of_ble_eq_true rfl) dX1_init_22 (fun e22 he22 => ?_)
  replace he22 : e22 = eup B20 k (.inr (1, [.null, .int 0, .int 0, .ref q16, .ref q19, .int 0])) := he22.trans eup_eup
  subst he22
  refine g_aload_n hC dX1_init_25 rfl ?_
  refine g_aload_n hC dX1_init_26 rfl ?_
  refine g_putF (ty := .array .int) hC ha eup_eq rfl kl_X1 0 (by decide) kf_X1_22 rfl tyX1 tyX1_ok nmX1 rfl (hI rfl) rfl (by decide +kernel) rfl rfl (Nat.le_of_ble_eq_true rfl) dX1_init_27 (fun e23 he23 => ?_)
  replace he23 : e23 = eup B20 k (.inr (1, [.ref b, .int 0, .int 0, .ref q16, .ref q19, .int 0])) := he23.trans eup_eup
  subst he23
  refine g_aload_n hC dX1_init_30 rfl ?_
  refine g_iload_n hC dX1_init_31 rfl ?_
  refine g_putF (ty := .int) hC ha eup_eq rfl kl_X1 1 (by decide) kf_X1_25 rfl tyX1 tyX1_ok nmX1 rfl (hI rfl) rfl (by decide +kernel) rfl rfl (Nat.le_of_ble_eq_true rfl) dX1_init_32 (fun e24 he24 => ?_)
  replace he24 : e24 = eup B20 k (.inr (1, [.ref b, .int iv, .int 0, .ref q16, .ref q19, .int 0])) := he24.trans eup_eup
  subst he24
  refine g_aload_n hC dX1_init_35 rfl ?_
  refine g_iload_n hC dX1_init_36 rfl ?_
  refine g_putF (ty := .int) hC ha eup_eq rfl kl_X1 2 (by decide) kf_X1_28 rfl tyX1 tyX1_ok nmX1 rfl (hI rfl) rfl (by decide +kernel) rfl rfl (Nat.le_of_ble_eq_true rfl) dX1_init_37 (fun e25 he25 => ?_)
  replace he25 : e25 = eup B20 k (.inr (1, [.ref b, .int iv, .int wd, .ref q16, .ref q19, .int 0])) := he25.trans eup_eup
  subst he25
  exact g_retv hR dX1_init_40 ⟨rfl, q16, q19, by rw [hl19, hl16], by rw [hB20, hB17]⟩
