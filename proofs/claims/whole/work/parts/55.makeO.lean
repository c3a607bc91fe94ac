/-! ===== the two objects as they are made ===== -/
theorem enR_all {P : Nat → va_E → Prop} {X : gX} {lo : gL} {M T : rM2} {e0 : gE} (hl : ∀ k e, k < 1000 → e0 k = some e → P k e) (hh : ∀ k e, 1017 < k → e0 k = some e → P k e) (h1000 : P 1000 (.inr (5, oR lo M T))) (h1001 : P 1001 (aI X 10 (M 0))) (h1002 : P 1002 (aI X 10 (M 1))) (h1003 : P 1003 (aI X 100 (M 2))) (h1004 : P 1004 (aI X 10 (M 3))) (h1005 : P 1005 (aI X 10 (M 4))) (h1006 : P 1006 (aI X 60 (M 5))) (h1007 : P 1007 (aI X 60 (M 6))) (h1008 : P 1008 (aI X 30 (M 7))) (h1009 : P 1009 (aI X 300 (M 8))) (h1010 : P 1010 (aI X 30 (M 9))) (h1011 : P 1011 (aI X 30 (M 10))) (h1012 : P 1012 (aI X 30 (M 11))) (h1013 : P 1013 (aI X 30 (M 12))) (h1014 : P 1014 (aI X 30 (M 13))) (h1015 : P 1015 (aI X 30 (T 0))) (h1016 : P 1016 (aI X 30 (T 1))) (h1017 : P 1017 (aI X 30 (T 2))) : ∀ k e, enR X lo M T e0 k = some e → P k e := by
  intro k e h
  by_cases h2 : k < 1000
  · rw [rLow h2] at h; exact hl k e h2 h
  · by_cases h3 : 1018 ≤ k
    · refine hh k e (by omega) ?_
      rw [← h]
      unfold enR
      rw [if_neg h2]
      split <;> first | omega | rfl
    · have h4 : k = 1000 ∨ ∃ a, a < 17 ∧ k = 1001 + a := by
        rcases Nat.lt_or_ge 1000 k with h | h
        · exact Or.inr ⟨k - 1001, by omega, by omega⟩
        · exact Or.inl (by omega)
      rcases h4 with rfl | ⟨a, ha, rfl⟩
      · rw [rO] at h; cases h; exact h1000
      · rcases (show a = 0 ∨ a = 1 ∨ a = 2 ∨ a = 3 ∨ a = 4 ∨ a = 5 ∨ a = 6 ∨ a = 7 ∨ a = 8 ∨ a = 9 ∨ a = 10 ∨ a = 11 ∨ a = 12 ∨ a = 13 ∨ a = 14 ∨ a = 15 ∨ a = 16 by omega) with rfl | rfl | rfl | rfl | rfl | rfl | rfl | rfl | rfl | rfl | rfl | rfl | rfl | rfl | rfl | rfl | rfl
        · rw [show 1001 + 0 = 1001 from rfl] at h ⊢; rw [rA1001] at h; cases h; exact h1001
        · rw [show 1001 + 1 = 1002 from rfl] at h ⊢; rw [rA1002] at h; cases h; exact h1002
        · rw [show 1001 + 2 = 1003 from rfl] at h ⊢; rw [rA1003] at h; cases h; exact h1003
        · rw [show 1001 + 3 = 1004 from rfl] at h ⊢; rw [rA1004] at h; cases h; exact h1004
        · rw [show 1001 + 4 = 1005 from rfl] at h ⊢; rw [rA1005] at h; cases h; exact h1005
        · rw [show 1001 + 5 = 1006 from rfl] at h ⊢; rw [rA1006] at h; cases h; exact h1006
        · rw [show 1001 + 6 = 1007 from rfl] at h ⊢; rw [rA1007] at h; cases h; exact h1007
        · rw [show 1001 + 7 = 1008 from rfl] at h ⊢; rw [rA1008] at h; cases h; exact h1008
        · rw [show 1001 + 8 = 1009 from rfl] at h ⊢; rw [rA1009] at h; cases h; exact h1009
        · rw [show 1001 + 9 = 1010 from rfl] at h ⊢; rw [rA1010] at h; cases h; exact h1010
        · rw [show 1001 + 10 = 1011 from rfl] at h ⊢; rw [rA1011] at h; cases h; exact h1011
        · rw [show 1001 + 11 = 1012 from rfl] at h ⊢; rw [rA1012] at h; cases h; exact h1012
        · rw [show 1001 + 12 = 1013 from rfl] at h ⊢; rw [rA1013] at h; cases h; exact h1013
        · rw [show 1001 + 13 = 1014 from rfl] at h ⊢; rw [rA1014] at h; cases h; exact h1014
        · rw [show 1001 + 14 = 1015 from rfl] at h ⊢; rw [rA1015] at h; cases h; exact h1015
        · rw [show 1001 + 15 = 1016 from rfl] at h ⊢; rw [rA1016] at h; cases h; exact h1016
        · rw [show 1001 + 16 = 1017 from rfl] at h ⊢; rw [rA1017] at h; cases h; exact h1017
theorem enC_all {P : Nat → va_E → Prop} {X : gX} {lo : gL} {L : Nat → Nat → Nat} {K C : rM3} {e0 : gE} (hh : ∀ k e, 1000 ≤ k → e0 k = some e → P k e) (h0 : P 0 (.inr (4, oC lo L K))) (h1 : P 1 (aI X 10 (K 1 0))) (h2 : P 2 (aQ (X.2 1) 10 (qM lo (L 2 0)))) (h3 : P 3 (aQ (X.2 2) 30 (qS lo (L 2 1)))) (h4 : P 4 (.inr (3, oV lo C))) (h5 : P 5 (aI X 10 (C 10 0))) (h6 : P 6 (aI X 30 (C 11 0))) (h7 : P 7 (aI X 30 (C 12 0)))
    (hm : ∀ i, i < L 2 0 → i < 25 → P (100 + 4 * i) (.inr (1, oM lo K i)) ∧ P (101 + 4 * i) (aI X (L 0 i) (K 3 i)) ∧ P (102 + 4 * i) (aI X 6 (K 4 i)) ∧ P (103 + 4 * i) (aI X 6 (K 5 i)))
    (hs : ∀ j, j < L 2 1 → j < 50 → P (200 + 16 * j) (.inr (2, oS lo K j)) ∧ P (201 + 16 * j) (aI X (L 1 j) (K 7 j)) ∧ P (202 + 16 * j) (aQ (X.2 3) 10 (qT lo j)) ∧ ∀ r, r < 10 → P (203 + (16 * j + r)) (.inr (0, oT C (16 * j + r)))) : ∀ k e, enC X lo L K C e0 k = some e → P k e := by
  intro k e h
  unfold enC at h
  by_cases c1 : 1000 ≤ k
  · rw [if_pos c1] at h; exact hh k e c1 h
  rw [if_neg c1] at h
  by_cases c2 : k < 100
  · rw [if_pos c2] at h
    unfold enC0 at h
    split at h
    · cases h; exact h0
    · cases h; exact h1
    · cases h; exact h2
    · cases h; exact h3
    · cases h; exact h4
    · cases h; exact h5
    · cases h; exact h6
    · cases h; exact h7
    · cases h
  rw [if_neg c2] at h
  by_cases c3 : k < 200
  · rw [if_pos c3] at h
    by_cases c4 : (k - 100) / 4 < L 2 0
    · rw [if_pos c4] at h
      obtain ⟨m0, m1, m2, m3⟩ := hm ((k - 100) / 4) c4 (by omega)
      rcases (show (k - 100) % 4 = 0 ∨ (k - 100) % 4 = 1 ∨ (k - 100) % 4 = 2 ∨ (k - 100) % 4 = 3 by omega) with hr | hr | hr | hr
      · rw [hr] at h; cases h; rw [show k = 100 + 4 * ((k - 100) / 4) by omega]
        rw [show 100 + 4 * ((k - 100) / 4) = k by omega] at m0 ⊢; exact m0
      · rw [hr] at h; cases h
        rw [show 101 + 4 * ((k - 100) / 4) = k by omega] at m1; exact m1
      · rw [hr] at h; cases h
        rw [show 102 + 4 * ((k - 100) / 4) = k by omega] at m2; exact m2
      · rw [hr] at h; cases h
        rw [show 103 + 4 * ((k - 100) / 4) = k by omega] at m3; exact m3
    · rw [if_neg c4] at h; cases h
  rw [if_neg c3] at h
  by_cases c4 : (k - 200) / 16 < L 2 1
  · rw [if_pos c4] at h
    obtain ⟨m0, m1, m2, m3⟩ := hs ((k - 200) / 16) c4 (by omega)
    by_cases d0 : (k - 200) % 16 = 0
    · rw [d0] at h; cases h
      rw [show 200 + 16 * ((k - 200) / 16) = k by omega] at m0; exact m0
    by_cases d1 : (k - 200) % 16 = 1
    · rw [d1] at h; cases h
      rw [show 201 + 16 * ((k - 200) / 16) = k by omega] at m1; exact m1
    by_cases d2 : (k - 200) % 16 = 2
    · rw [d2] at h; cases h
      rw [show 202 + 16 * ((k - 200) / 16) = k by omega] at m2; exact m2
    obtain ⟨r, hr⟩ : ∃ r, (k - 200) % 16 = r + 3 := ⟨(k - 200) % 16 - 3, by omega⟩
    rw [hr] at h
    have h : (if r < 10 then some (.inr (0, oT C (16 * ((k - 200) / 16) + r))) else none) = some e := h
    by_cases d4 : r < 10
    · rw [if_pos d4] at h; cases h
      have m4 := m3 r d4
      rw [show 203 + (16 * ((k - 200) / 16) + r) = k by omega] at m4; exact m4
    · rw [if_neg d4] at h; cases h
  · rw [if_neg c4] at h; cases h
def M0 : rM2 := fun a i => if a = 20 ∧ i = 2 then 5 else if a = 20 ∧ i = 3 then 20 else 0
def T0 : rM2 := fun _ _ => 0
def K0 : rM3 := fun a i j => if a = 0 ∧ i = 2 ∧ j = 0 then 5 else if a = 0 ∧ i = 3 ∧ j = 0 then 20 else 0
def C0 : rM3 := fun a _ j => if a = 9 ∧ j = 3 then -1 else 0
def L0 : Nat → Nat → Nat := fun _ _ => 0
theorem M0_row {a : Nat} (h : a ≠ 20) : M0 a = fun _ => 0 := by funext i; simp [M0, h]
theorem K0_row {a i : Nat} (h : a ≠ 0) : K0 a i = fun _ => 0 := by funext j; simp [K0, h]
theorem C0_row {a i : Nat} (h : a ≠ 9) : C0 a i = fun _ => 0 := by funext j; simp [C0, h]

set_option maxHeartbeats 4000000 in
set_option maxRecDepth 100000 in
theorem c_X5_init (l : Launch) (X : gX) (b0 : Nat) (lo : gL) (en : gE) (a : Nat) (ha : a = lo 1000) (he : en 1000 = some (.inr (5, zX5))) (hn : ∀ j, 1000 < j → en j = none) : Ct l X b0 lo en yX5_init cX5_init 1 none (rN 1 17 830 40) [.ref a] (fun v lo' en' => v = none ∧ (∀ j, j ≤ 1000 → lo' j = lo j) ∧ en' = enR X lo' M0 T0 en) := by
  refine gMet (by decide) (Nat.le_of_ble_eq_true rfl) rfl ?_
  intro Z hC hI hR
  rw [← eup_id he]
  have hf : ∀ j, 1000 < j → en j = none := hn
  have hlw : ∀ j, j ≤ 1000 → lo j = lo j := fun _ _ => rfl
  have hel : ∀ j, j < 1000 → en j = en j := fun _ _ => rfl
  refine g_aload_n hC dX5_init_0 rfl ?_
  refine g_objInit hC km_X5_1 (by rw [hC.2.2.1]; decide) (by rw [hC.2.2.1]; exact Nat.le_of_ble_eq_true rfl) dX5_init_1 ?_
  refine g_aload_n hC dX5_init_4 rfl ?_
  refine g_bipush (v := 10) hC dX5_init_5 (by decide) ?_
  refine g_newI hC (1001) (by rw [eup_ne (by omega)]; exact hf 1001 (by decide)) (n := 10) rfl (by decide) (by rw [hC.2.2.1]; decide) (by rw [hC.2.2.1]; decide) dX5_init_7 (fun q35 l35 e35 hl35 he35 => ?_)
  replace he35 := he35.trans (eup_comm (by omega))
  obtain ⟨B36, hB36⟩ : ∃ z : gE, z = eup en (1001) (.inl (X.2 0, 10, .inl (fun _ => 0))) := ⟨_, rfl⟩
  rw [← hB36] at he35
  subst he35
  replace ha : a = l35 (1000) := by rw [hl35, lup_ne (by omega)]; exact ha
  replace hf : ∀ j, 1001 < j → B36 j = none := fun j hj => by rw [hB36, eup_ne (by omega)]; exact hf j (by omega)
  replace hlw : ∀ j, j ≤ 1000 → l35 j = lo j := fun j hj => (congrFun hl35 j).trans ((lup_ne (by omega)).trans (hlw j hj))
  replace hel : ∀ j, j < 1000 → B36 j = en j := fun j hj => (congrFun hB36 j).trans ((eup_ne (by omega)).trans (hel j hj))
  have hb1001 : B36 1001 = some (.inl (X.2 0, 10, .inl (fun _ => 0))) := by rw [hB36, eup_eq]
  have hq1001 : l35 1001 = q35 := by rw [hl35, lup_eq]
  refine g_putF (ty := .array .int) hC ha eup_eq rfl kl_X5 0 (by decide) kf_X5_7 rfl tyX5 tyX5_ok nmX5 rfl (hI rfl) rfl (by decide +kernel) rfl rfl (Nat.le_of_ble_eq_true rfl) dX5_init_9 (fun e37 he37 => ?_)
  replace he37 : e37 = eup B36 1000 (.inr (5, [.ref q35, .int 0, .int 0, .int 0, .int 0, .null, .null, .null, .null, .null, .null, .int 0, .null, .null, .null, .null, .null, .null, .null, .int 0, .int 0, .int 0, .int 0, .int 0, .int 0, .null, .null, .null])) := he37.trans eup_eup
  subst he37
  refine g_aload_n hC dX5_init_12 rfl ?_
  refine g_iconst (v := 5) hC dX5_init_13 (by decide) ?_
  refine g_put (ty := .int) hC ha eup_eq rfl kl_X5 2 (by decide) kf_X5_13 rfl tyX5 tyX5_ok nmX5 rfl (by decide +kernel) rfl rfl (Nat.le_of_ble_eq_true rfl) dX5_init_14 (fun e38 he38 => ?_)
  replace he38 : e38 = eup B36 1000 (.inr (5, [.ref q35, .int 0, .int 5, .int 0, .int 0, .null, .null, .null, .null, .null, .null, .int 0, .null, .null, .null, .null, .null, .null, .null, .int 0, .int 0, .int 0, .int 0, .int 0, .int 0, .null, .null, .null])) := he38.trans eup_eup
  subst he38
  refine g_aload_n hC dX5_init_17 rfl ?_
  refine g_bipush (v := 20) hC dX5_init_18 (by decide) ?_
  refine g_put (ty := .int) hC ha eup_eq rfl kl_X5 3 (by decide) kf_X5_17 rfl tyX5 tyX5_ok nmX5 rfl (by decide +kernel) rfl rfl (Nat.le_of_ble_eq_true rfl) dX5_init_20 (fun e39 he39 => ?_)
  replace he39 : e39 = eup B36 1000 (.inr (5, [.ref q35, .int 0, .int 5, .int 20, .int 0, .null, .null, .null, .null, .null, .null, .int 0, .null, .null, .null, .null, .null, .null, .null, .int 0, .int 0, .int 0, .int 0, .int 0, .int 0, .null, .null, .null])) := he39.trans eup_eup
  subst he39
  refine g_aload_n hC dX5_init_23 rfl ?_
  refine g_bipush (v := 10) hC dX5_init_24 (by decide) ?_
  refine g_newI hC (1002) (by rw [eup_ne (by omega)]; exact hf 1002 (by decide)) (n := 10) rfl (by decide) (by rw [hC.2.2.1]; decide) (by rw [hC.2.2.1]; decide) dX5_init_26 (fun q40 l40 e40 hl40 he40 => ?_)
  replace he40 := he40.trans (eup_comm (by omega))
  obtain ⟨B41, hB41⟩ : ∃ z : gE, z = eup B36 (1002) (.inl (X.2 0, 10, .inl (fun _ => 0))) := ⟨_, rfl⟩
  rw [← hB41] at he40
  subst he40
  replace ha : a = l40 (1000) := by rw [hl40, lup_ne (by omega)]; exact ha
  replace hf : ∀ j, 1002 < j → B41 j = none := fun j hj => by rw [hB41, eup_ne (by omega)]; exact hf j (by omega)
  replace hlw : ∀ j, j ≤ 1000 → l40 j = lo j := fun j hj => (congrFun hl40 j).trans ((lup_ne (by omega)).trans (hlw j hj))
  replace hel : ∀ j, j < 1000 → B41 j = en j := fun j hj => (congrFun hB41 j).trans ((eup_ne (by omega)).trans (hel j hj))
  replace hb1001 := (by rw [hB41, eup_ne (by decide)]; exact hb1001 : B41 1001 = some (.inl (X.2 0, 10, .inl (fun _ => 0))))
  replace hq1001 := (by rw [hl40, lup_ne (by decide)]; exact hq1001 : l40 1001 = q35)
  have hb1002 : B41 1002 = some (.inl (X.2 0, 10, .inl (fun _ => 0))) := by rw [hB41, eup_eq]
  have hq1002 : l40 1002 = q40 := by rw [hl40, lup_eq]
  refine g_putF (ty := .array .int) hC ha eup_eq rfl kl_X5 5 (by decide) kf_X5_20 rfl tyX5 tyX5_ok nmX5 rfl (hI rfl) rfl (by decide +kernel) rfl rfl (Nat.le_of_ble_eq_true rfl) dX5_init_28 (fun e42 he42 => ?_)
  replace he42 : e42 = eup B41 1000 (.inr (5, [.ref q35, .int 0, .int 5, .int 20, .int 0, .ref q40, .null, .null, .null, .null, .null, .int 0, .null, .null, .null, .null, .null, .null, .null, .int 0, .int 0, .int 0, .int 0, .int 0, .int 0, .null, .null, .null])) := he42.trans eup_eup
  subst he42
  refine g_aload_n hC dX5_init_31 rfl ?_
  refine g_bipush (v := 100) hC dX5_init_32 (by decide) ?_
  refine g_newI hC (1003) (by rw [eup_ne (by omega)]; exact hf 1003 (by decide)) (n := 100) rfl (by decide) (by rw [hC.2.2.1]; decide) (by rw [hC.2.2.1]; decide) dX5_init_34 (fun q43 l43 e43 hl43 he43 => ?_)
  replace he43 := he43.trans (eup_comm (by omega))
  obtain ⟨B44, hB44⟩ : ∃ z : gE, z = eup B41 (1003) (.inl (X.2 0, 100, .inl (fun _ => 0))) := ⟨_, rfl⟩
  rw [← hB44] at he43
  subst he43
  replace ha : a = l43 (1000) := by rw [hl43, lup_ne (by omega)]; exact ha
  replace hf : ∀ j, 1003 < j → B44 j = none := fun j hj => by rw [hB44, eup_ne (by omega)]; exact hf j (by omega)
  replace hlw : ∀ j, j ≤ 1000 → l43 j = lo j := fun j hj => (congrFun hl43 j).trans ((lup_ne (by omega)).trans (hlw j hj))
  replace hel : ∀ j, j < 1000 → B44 j = en j := fun j hj => (congrFun hB44 j).trans ((eup_ne (by omega)).trans (hel j hj))
  replace hb1001 := (by rw [hB44, eup_ne (by decide)]; exact hb1001 : B44 1001 = some (.inl (X.2 0, 10, .inl (fun _ => 0))))
  replace hq1001 := (by rw [hl43, lup_ne (by decide)]; exact hq1001 : l43 1001 = q35)
  replace hb1002 := (by rw [hB44, eup_ne (by decide)]; exact hb1002 : B44 1002 = some (.inl (X.2 0, 10, .inl (fun _ => 0))))
  replace hq1002 := (by rw [hl43, lup_ne (by decide)]; exact hq1002 : l43 1002 = q40)
  have hb1003 : B44 1003 = some (.inl (X.2 0, 100, .inl (fun _ => 0))) := by rw [hB44, eup_eq]
  have hq1003 : l43 1003 = q43 := by rw [hl43, lup_eq]
  refine g_putF (ty := .array .int) hC ha eup_eq rfl kl_X5 6 (by decide) kf_X5_23 rfl tyX5 tyX5_ok nmX5 rfl (hI rfl) rfl (by decide +kernel) rfl rfl (Nat.le_of_ble_eq_true rfl) dX5_init_36 (fun e45 he45 => ?_)
  replace he45 : e45 = eup B44 1000 (.inr (5, [.ref q35, .int 0, .int 5, .int 20, .int 0, .ref q40, .ref q43, .null, .null, .null, .null, .int 0, .null, .null, .null, .null, .null, .null, .null, .int 0, .int 0, .int 0, .int 0, .int 0, .int 0, .null, .null, .null])) := he45.trans eup_eup
  subst he45
  refine g_aload_n hC dX5_init_39 rfl ?_
  refine g_bipush (v := 10) hC dX5_init_40 (by decide) ?_
  refine g_newI hC (1004) (by rw [eup_ne (by omega)]; exact hf 1004 (by decide)) (n := 10) rfl (by decide) (by rw [hC.2.2.1]; decide) (by rw [hC.2.2.1]; decide) dX5_init_42 (fun q46 l46 e46 hl46 he46 => ?_)
  replace he46 := he46.trans (eup_comm (by omega))
  obtain ⟨B47, hB47⟩ : ∃ z : gE, z = eup B44 (1004) (.inl (X.2 0, 10, .inl (fun _ => 0))) := ⟨_, rfl⟩
  rw [← hB47] at he46
  subst he46
  replace ha : a = l46 (1000) := by rw [hl46, lup_ne (by omega)]; exact ha
  replace hf : ∀ j, 1004 < j → B47 j = none := fun j hj => by rw [hB47, eup_ne (by omega)]; exact hf j (by omega)
  replace hlw : ∀ j, j ≤ 1000 → l46 j = lo j := fun j hj => (congrFun hl46 j).trans ((lup_ne (by omega)).trans (hlw j hj))
  replace hel : ∀ j, j < 1000 → B47 j = en j := fun j hj => (congrFun hB47 j).trans ((eup_ne (by omega)).trans (hel j hj))
  replace hb1001 := (by rw [hB47, eup_ne (by decide)]; exact hb1001 : B47 1001 = some (.inl (X.2 0, 10, .inl (fun _ => 0))))
  replace hq1001 := (by rw [hl46, lup_ne (by decide)]; exact hq1001 : l46 1001 = q35)
  replace hb1002 := (by rw [hB47, eup_ne (by decide)]; exact hb1002 : B47 1002 = some (.inl (X.2 0, 10, .inl (fun _ => 0))))
  replace hq1002 := (by rw [hl46, lup_ne (by decide)]; exact hq1002 : l46 1002 = q40)
  replace hb1003 := (by rw [hB47, eup_ne (by decide)]; exact hb1003 : B47 1003 = some (.inl (X.2 0, 100, .inl (fun _ => 0))))
  replace hq1003 := (by rw [hl46, lup_ne (by decide)]; exact hq1003 : l46 1003 = q43)
  have hb1004 : B47 1004 = some (.inl (X.2 0, 10, .inl (fun _ => 0))) := by rw [hB47, eup_eq]
  have hq1004 : l46 1004 = q46 := by rw [hl46, lup_eq]
  refine g_putF (ty := .array .int) hC ha eup_eq rfl kl_X5 7 (by decide) kf_X5_26 rfl tyX5 tyX5_ok nmX5 rfl (hI rfl) rfl (by decide +kernel) rfl rfl (Nat.le_of_ble_eq_true rfl) dX5_init_44 (fun e48 he48 => ?_)
  replace he48 : e48 = eup B47 1000 (.inr (5, [.ref q35, .int 0, .int 5, .int 20, .int 0, .ref q40, .ref q43, .ref q46, .null, .null, .null, .int 0, .null, .null, .null, .null, .null, .null, .null, .int 0, .int 0, .int 0, .int 0, .int 0, .int 0, .null, .null, .null])) := he48.trans eup_eup
  subst he48
  refine g_aload_n hC dX5_init_47 rfl ?_
  refine g_bipush (v := 10) hC dX5_init_48 (by decide) ?_
  refine g_newI hC (1005) (by rw [eup_ne (by omega)]; exact hf 1005 (by decide)) (n := 10) rfl (by decide) (by rw [hC.2.2.1]; decide) (by rw [hC.2.2.1]; decide) dX5_init_50 (fun q49 l49 e49 hl49 he49 => ?_)
  replace he49 := he49.trans (eup_comm (by omega))
  obtain ⟨B50, hB50⟩ : ∃ z : gE, z = eup B47 (1005) (.inl (X.2 0, 10, .inl (fun _ => 0))) := ⟨_, rfl⟩
  rw [← hB50] at he49
  subst he49
  replace ha : a = l49 (1000) := by rw [hl49, lup_ne (by omega)]; exact ha
  replace hf : ∀ j, 1005 < j → B50 j = none := fun j hj => by rw [hB50, eup_ne (by omega)]; exact hf j (by omega)
  replace hlw : ∀ j, j ≤ 1000 → l49 j = lo j := fun j hj => (congrFun hl49 j).trans ((lup_ne (by omega)).trans (hlw j hj))
  replace hel : ∀ j, j < 1000 → B50 j = en j := fun j hj => (congrFun hB50 j).trans ((eup_ne (by omega)).trans (hel j hj))
  replace hb1001 := (by rw [hB50, eup_ne (by decide)]; exact hb1001 : B50 1001 = some (.inl (X.2 0, 10, .inl (fun _ => 0))))
  replace hq1001 := (by rw [hl49, lup_ne (by decide)]; exact hq1001 : l49 1001 = q35)
  replace hb1002 := (by rw [hB50, eup_ne (by decide)]; exact hb1002 : B50 1002 = some (.inl (X.2 0, 10, .inl (fun _ => 0))))
  replace hq1002 := (by rw [hl49, lup_ne (by decide)]; exact hq1002 : l49 1002 = q40)
  replace hb1003 := (by rw [hB50, eup_ne (by decide)]; exact hb1003 : B50 1003 = some (.inl (X.2 0, 100, .inl (fun _ => 0))))
  replace hq1003 := (by rw [hl49, lup_ne (by decide)]; exact hq1003 : l49 1003 = q43)
  replace hb1004 := (by rw [hB50, eup_ne (by decide)]; exact hb1004 : B50 1004 = some (.inl (X.2 0, 10, .inl (fun _ => 0))))
  replace hq1004 := (by rw [hl49, lup_ne (by decide)]; exact hq1004 : l49 1004 = q46)
  have hb1005 : B50 1005 = some (.inl (X.2 0, 10, .inl (fun _ => 0))) := by rw [hB50, eup_eq]
  have hq1005 : l49 1005 = q49 := by rw [hl49, lup_eq]
  refine g_putF (ty := .array .int) hC ha eup_eq rfl kl_X5 8 (by decide) kf_X5_29 rfl tyX5 tyX5_ok nmX5 rfl (hI rfl) rfl (by decide +kernel) rfl rfl (Nat.le_of_ble_eq_true rfl) dX5_init_52 (fun e51 he51 => ?_)
  replace he51 : e51 = eup B50 1000 (.inr (5, [.ref q35, .int 0, .int 5, .int 20, .int 0, .ref q40, .ref q43, .ref q46, .ref q49, .null, .null, .int 0, .null, .null, .null, .null, .null, .null, .null, .int 0, .int 0, .int 0, .int 0, .int 0, .int 0, .null, .null, .null])) := he51.trans eup_eup
  subst he51
  refine g_aload_n hC dX5_init_55 rfl ?_
  refine g_bipush (v := 60) hC dX5_init_56 (by decide) ?_
  refine g_newI hC (1006) (by rw [eup_ne (by omega)]; exact hf 1006 (by decide)) (n := 60) rfl (by decide) (by rw [hC.2.2.1]; decide) (by rw [hC.2.2.1]; decide) dX5_init_58 (fun q52 l52 e52 hl52 he52 => ?_)
  replace he52 := he52.trans (eup_comm (by omega))
  obtain ⟨B53, hB53⟩ : ∃ z : gE, z = eup B50 (1006) (.inl (X.2 0, 60, .inl (fun _ => 0))) := ⟨_, rfl⟩
  rw [← hB53] at he52
  subst he52
  replace ha : a = l52 (1000) := by rw [hl52, lup_ne (by omega)]; exact ha
  replace hf : ∀ j, 1006 < j → B53 j = none := fun j hj => by rw [hB53, eup_ne (by omega)]; exact hf j (by omega)
  replace hlw : ∀ j, j ≤ 1000 → l52 j = lo j := fun j hj => (congrFun hl52 j).trans ((lup_ne (by omega)).trans (hlw j hj))
  replace hel : ∀ j, j < 1000 → B53 j = en j := fun j hj => (congrFun hB53 j).trans ((eup_ne (by omega)).trans (hel j hj))
  replace hb1001 := (by rw [hB53, eup_ne (by decide)]; exact hb1001 : B53 1001 = some (.inl (X.2 0, 10, .inl (fun _ => 0))))
  replace hq1001 := (by rw [hl52, lup_ne (by decide)]; exact hq1001 : l52 1001 = q35)
  replace hb1002 := (by rw [hB53, eup_ne (by decide)]; exact hb1002 : B53 1002 = some (.inl (X.2 0, 10, .inl (fun _ => 0))))
  replace hq1002 := (by rw [hl52, lup_ne (by decide)]; exact hq1002 : l52 1002 = q40)
  replace hb1003 := (by rw [hB53, eup_ne (by decide)]; exact hb1003 : B53 1003 = some (.inl (X.2 0, 100, .inl (fun _ => 0))))
  replace hq1003 := (by rw [hl52, lup_ne (by decide)]; exact hq1003 : l52 1003 = q43)
  replace hb1004 := (by rw [hB53, eup_ne (by decide)]; exact hb1004 : B53 1004 = some (.inl (X.2 0, 10, .inl (fun _ => 0))))
  replace hq1004 := (by rw [hl52, lup_ne (by decide)]; exact hq1004 : l52 1004 = q46)
  replace hb1005 := (by rw [hB53, eup_ne (by decide)]; exact hb1005 : B53 1005 = some (.inl (X.2 0, 10, .inl (fun _ => 0))))
  replace hq1005 := (by rw [hl52, lup_ne (by decide)]; exact hq1005 : l52 1005 = q49)
  have hb1006 : B53 1006 = some (.inl (X.2 0, 60, .inl (fun _ => 0))) := by rw [hB53, eup_eq]
  have hq1006 : l52 1006 = q52 := by rw [hl52, lup_eq]
  refine g_putF (ty := .array .int) hC ha eup_eq rfl kl_X5 9 (by decide) kf_X5_32 rfl tyX5 tyX5_ok nmX5 rfl (hI rfl) rfl (by decide +kernel) rfl rfl (Nat.le_of_ble_eq_true rfl) dX5_init_60 (fun e54 he54 => ?_)
  replace he54 : e54 = eup B53 1000 (.inr (5, [.ref q35, .int 0, .int 5, .int 20, .int 0, .ref q40, .ref q43, .ref q46, .ref q49, .ref q52, .null, .int 0, .null, .null, .null, .null, .null, .null, .null, .int 0, .int 0, .int 0, .int 0, .int 0, .int 0, .null, .null, .null])) := he54.trans eup_eup
  subst he54
  refine g_aload_n hC dX5_init_63 rfl ?_
  refine g_bipush (v := 60) hC dX5_init_64 (by decide) ?_
  refine g_newI hC (1007) (by rw [eup_ne (by omega)]; exact hf 1007 (by decide)) (n := 60) rfl (by decide) (by rw [hC.2.2.1]; decide) (by rw [hC.2.2.1]; decide) dX5_init_66 (fun q55 l55 e55 hl55 he55 => ?_)
  replace he55 := he55.trans (eup_comm (by omega))
  obtain ⟨B56, hB56⟩ : ∃ z : gE, z = eup B53 (1007) (.inl (X.2 0, 60, .inl (fun _ => 0))) := ⟨_, rfl⟩
  rw [← hB56] at he55
  subst he55
  replace ha : a = l55 (1000) := by rw [hl55, lup_ne (by omega)]; exact ha
  replace hf : ∀ j, 1007 < j → B56 j = none := fun j hj => by rw [hB56, eup_ne (by omega)]; exact hf j (by omega)
  replace hlw : ∀ j, j ≤ 1000 → l55 j = lo j := fun j hj => (congrFun hl55 j).trans ((lup_ne (by omega)).trans (hlw j hj))
  replace hel : ∀ j, j < 1000 → B56 j = en j := fun j hj => (congrFun hB56 j).trans ((eup_ne (by omega)).trans (hel j hj))
  replace hb1001 := (by rw [hB56, eup_ne (by decide)]; exact hb1001 : B56 1001 = some (.inl (X.2 0, 10, .inl (fun _ => 0))))
  replace hq1001 := (by rw [hl55, lup_ne (by decide)]; exact hq1001 : l55 1001 = q35)
  replace hb1002 := (by rw [hB56, eup_ne (by decide)]; exact hb1002 : B56 1002 = some (.inl (X.2 0, 10, .inl (fun _ => 0))))
  replace hq1002 := (by rw [hl55, lup_ne (by decide)]; exact hq1002 : l55 1002 = q40)
  replace hb1003 := (by rw [hB56, eup_ne (by decide)]; exact hb1003 : B56 1003 = some (.inl (X.2 0, 100, .inl (fun _ => 0))))
  replace hq1003 := (by rw [hl55, lup_ne (by decide)]; exact hq1003 : l55 1003 = q43)
  replace hb1004 := (by rw [hB56, eup_ne (by decide)]; exact hb1004 : B56 1004 = some (.inl (X.2 0, 10, .inl (fun _ => 0))))
  replace hq1004 := (by rw [hl55, lup_ne (by decide)]; exact hq1004 : l55 1004 = q46)
  replace hb1005 := (by rw [hB56, eup_ne (by decide)]; exact hb1005 : B56 1005 = some (.inl (X.2 0, 10, .inl (fun _ => 0))))
  replace hq1005 := (by rw [hl55, lup_ne (by decide)]; exact hq1005 : l55 1005 = q49)
  replace hb1006 := (by rw [hB56, eup_ne (by decide)]; exact hb1006 : B56 1006 = some (.inl (X.2 0, 60, .inl (fun _ => 0))))
  replace hq1006 := (by rw [hl55, lup_ne (by decide)]; exact hq1006 : l55 1006 = q52)
  have hb1007 : B56 1007 = some (.inl (X.2 0, 60, .inl (fun _ => 0))) := by rw [hB56, eup_eq]
  have hq1007 : l55 1007 = q55 := by rw [hl55, lup_eq]
  refine g_putF (ty := .array .int) hC ha eup_eq rfl kl_X5 10 (by decide) kf_X5_35 rfl tyX5 tyX5_ok nmX5 rfl (hI rfl) rfl (by decide +kernel) rfl rfl (Nat.le_of_ble_eq_true rfl) dX5_init_68 (fun e57 he57 => ?_)
  replace he57 : e57 = eup B56 1000 (.inr (5, [.ref q35, .int 0, .int 5, .int 20, .int 0, .ref q40, .ref q43, .ref q46, .ref q49, .ref q52, .ref q55, .int 0, .null, .null, .null, .null, .null, .null, .null, .int 0, .int 0, .int 0, .int 0, .int 0, .int 0, .null, .null, .null])) := he57.trans eup_eup
  subst he57
  refine g_aload_n hC dX5_init_71 rfl ?_
  refine g_bipush (v := 30) hC dX5_init_72 (by decide) ?_
  refine g_newI hC (1008) (by rw [eup_ne (by omega)]; exact hf 1008 (by decide)) (n := 30) rfl (by decide) (by rw [hC.2.2.1]; decide) (by rw [hC.2.2.1]; decide) dX5_init_74 (fun q58 l58 e58 hl58 he58 => ?_)
  replace he58 := he58.trans (eup_comm (by omega))
  obtain ⟨B59, hB59⟩ : ∃ z : gE, z = eup B56 (1008) (.inl (X.2 0, 30, .inl (fun _ => 0))) := ⟨_, rfl⟩
  rw [← hB59] at he58
  subst he58
  replace ha : a = l58 (1000) := by rw [hl58, lup_ne (by omega)]; exact ha
  replace hf : ∀ j, 1008 < j → B59 j = none := fun j hj => by rw [hB59, eup_ne (by omega)]; exact hf j (by omega)
  replace hlw : ∀ j, j ≤ 1000 → l58 j = lo j := fun j hj => (congrFun hl58 j).trans ((lup_ne (by omega)).trans (hlw j hj))
  replace hel : ∀ j, j < 1000 → B59 j = en j := fun j hj => (congrFun hB59 j).trans ((eup_ne (by omega)).trans (hel j hj))
  replace hb1001 := (by rw [hB59, eup_ne (by decide)]; exact hb1001 : B59 1001 = some (.inl (X.2 0, 10, .inl (fun _ => 0))))
  replace hq1001 := (by rw [hl58, lup_ne (by decide)]; exact hq1001 : l58 1001 = q35)
  replace hb1002 := (by rw [hB59, eup_ne (by decide)]; exact hb1002 : B59 1002 = some (.inl (X.2 0, 10, .inl (fun _ => 0))))
  replace hq1002 := (by rw [hl58, lup_ne (by decide)]; exact hq1002 : l58 1002 = q40)
  replace hb1003 := (by rw [hB59, eup_ne (by decide)]; exact hb1003 : B59 1003 = some (.inl (X.2 0, 100, .inl (fun _ => 0))))
  replace hq1003 := (by rw [hl58, lup_ne (by decide)]; exact hq1003 : l58 1003 = q43)
  replace hb1004 := (by rw [hB59, eup_ne (by decide)]; exact hb1004 : B59 1004 = some (.inl (X.2 0, 10, .inl (fun _ => 0))))
  replace hq1004 := (by rw [hl58, lup_ne (by decide)]; exact hq1004 : l58 1004 = q46)
  replace hb1005 := (by rw [hB59, eup_ne (by decide)]; exact hb1005 : B59 1005 = some (.inl (X.2 0, 10, .inl (fun _ => 0))))
  replace hq1005 := (by rw [hl58, lup_ne (by decide)]; exact hq1005 : l58 1005 = q49)
  replace hb1006 := (by rw [hB59, eup_ne (by decide)]; exact hb1006 : B59 1006 = some (.inl (X.2 0, 60, .inl (fun _ => 0))))
  replace hq1006 := (by rw [hl58, lup_ne (by decide)]; exact hq1006 : l58 1006 = q52)
  replace hb1007 := (by rw [hB59, eup_ne (by decide)]; exact hb1007 : B59 1007 = some (.inl (X.2 0, 60, .inl (fun _ => 0))))
  replace hq1007 := (by rw [hl58, lup_ne (by decide)]; exact hq1007 : l58 1007 = q55)
  have hb1008 : B59 1008 = some (.inl (X.2 0, 30, .inl (fun _ => 0))) := by rw [hB59, eup_eq]
  have hq1008 : l58 1008 = q58 := by rw [hl58, lup_eq]
  refine g_putF (ty := .array .int) hC ha eup_eq rfl kl_X5 12 (by decide) kf_X5_38 rfl tyX5 tyX5_ok nmX5 rfl (hI rfl) rfl (by decide +kernel) rfl rfl (Nat.le_of_ble_eq_true rfl) dX5_init_76 (fun e60 he60 => ?_)
  replace he60 : e60 = eup B59 1000 (.inr (5, [.ref q35, .int 0, .int 5, .int 20, .int 0, .ref q40, .ref q43, .ref q46, .ref q49, .ref q52, .ref q55, .int 0, .ref q58, .null, .null, .null, .null, .null, .null, .int 0, .int 0, .int 0, .int 0, .int 0, .int 0, .null, .null, .null])) := he60.trans eup_eup
  subst he60
  refine g_aload_n hC dX5_init_79 rfl ?_
  refine g_sipush (v := 300) hC dX5_init_80 (by decide) ?_
  refine g_newI hC (1009) (by rw [eup_ne (by omega)]; exact hf 1009 (by decide)) (n := 300) rfl (by decide) (by rw [hC.2.2.1]; decide) (by rw [hC.2.2.1]; decide) dX5_init_83 (fun q61 l61 e61 hl61 he61 => ?_)
  replace he61 := he61.trans (eup_comm (by omega))
  obtain ⟨B62, hB62⟩ : ∃ z : gE, z = eup B59 (1009) (.inl (X.2 0, 300, .inl (fun _ => 0))) := ⟨_, rfl⟩
  rw [← hB62] at he61
  subst he61
  replace ha : a = l61 (1000) := by rw [hl61, lup_ne (by omega)]; exact ha
  replace hf : ∀ j, 1009 < j → B62 j = none := fun j hj => by rw [hB62, eup_ne (by omega)]; exact hf j (by omega)
  replace hlw : ∀ j, j ≤ 1000 → l61 j = lo j := fun j hj => (congrFun hl61 j).trans ((lup_ne (by omega)).trans (hlw j hj))
  replace hel : ∀ j, j < 1000 → B62 j = en j := fun j hj => (congrFun hB62 j).trans ((eup_ne (by omega)).trans (hel j hj))
  replace hb1001 := (by rw [hB62, eup_ne (by decide)]; exact hb1001 : B62 1001 = some (.inl (X.2 0, 10, .inl (fun _ => 0))))
  replace hq1001 := (by rw [hl61, lup_ne (by decide)]; exact hq1001 : l61 1001 = q35)
  replace hb1002 := (by rw [hB62, eup_ne (by decide)]; exact hb1002 : B62 1002 = some (.inl (X.2 0, 10, .inl (fun _ => 0))))
  replace hq1002 := (by rw [hl61, lup_ne (by decide)]; exact hq1002 : l61 1002 = q40)
  replace hb1003 := (by rw [hB62, eup_ne (by decide)]; exact hb1003 : B62 1003 = some (.inl (X.2 0, 100, .inl (fun _ => 0))))
  replace hq1003 := (by rw [hl61, lup_ne (by decide)]; exact hq1003 : l61 1003 = q43)
  replace hb1004 := (by rw [hB62, eup_ne (by decide)]; exact hb1004 : B62 1004 = some (.inl (X.2 0, 10, .inl (fun _ => 0))))
  replace hq1004 := (by rw [hl61, lup_ne (by decide)]; exact hq1004 : l61 1004 = q46)
  replace hb1005 := (by rw [hB62, eup_ne (by decide)]; exact hb1005 : B62 1005 = some (.inl (X.2 0, 10, .inl (fun _ => 0))))
  replace hq1005 := (by rw [hl61, lup_ne (by decide)]; exact hq1005 : l61 1005 = q49)
  replace hb1006 := (by rw [hB62, eup_ne (by decide)]; exact hb1006 : B62 1006 = some (.inl (X.2 0, 60, .inl (fun _ => 0))))
  replace hq1006 := (by rw [hl61, lup_ne (by decide)]; exact hq1006 : l61 1006 = q52)
  replace hb1007 := (by rw [hB62, eup_ne (by decide)]; exact hb1007 : B62 1007 = some (.inl (X.2 0, 60, .inl (fun _ => 0))))
  replace hq1007 := (by rw [hl61, lup_ne (by decide)]; exact hq1007 : l61 1007 = q55)
  replace hb1008 := (by rw [hB62, eup_ne (by decide)]; exact hb1008 : B62 1008 = some (.inl (X.2 0, 30, .inl (fun _ => 0))))
  replace hq1008 := (by rw [hl61, lup_ne (by decide)]; exact hq1008 : l61 1008 = q58)
  have hb1009 : B62 1009 = some (.inl (X.2 0, 300, .inl (fun _ => 0))) := by rw [hB62, eup_eq]
  have hq1009 : l61 1009 = q61 := by rw [hl61, lup_eq]
  refine g_putF (ty := .array .int) hC ha eup_eq rfl kl_X5 13 (by decide) kf_X5_41 rfl tyX5 tyX5_ok nmX5 rfl (hI rfl) rfl (by decide +kernel) rfl rfl (Nat.le_of_ble_eq_true rfl) dX5_init_85 (fun e63 he63 => ?_)
  replace he63 : e63 = eup B62 1000 (.inr (5, [.ref q35, .int 0, .int 5, .int 20, .int 0, .ref q40, .ref q43, .ref q46, .ref q49, .ref q52, .ref q55, .int 0, .ref q58, .ref q61, .null, .null, .null, .null, .null, .int 0, .int 0, .int 0, .int 0, .int 0, .int 0, .null, .null, .null])) := he63.trans eup_eup
  subst he63
  refine g_aload_n hC dX5_init_88 rfl ?_
  refine g_bipush (v := 30) hC dX5_init_89 (by decide) ?_
  refine g_newI hC (1010) (by rw [eup_ne (by omega)]; exact hf 1010 (by decide)) (n := 30) rfl (by decide) (by rw [hC.2.2.1]; decide) (by rw [hC.2.2.1]; decide) dX5_init_91 (fun q64 l64 e64 hl64 he64 => ?_)
  replace he64 := he64.trans (eup_comm (by omega))
  obtain ⟨B65, hB65⟩ : ∃ z : gE, z = eup B62 (1010) (.inl (X.2 0, 30, .inl (fun _ => 0))) := ⟨_, rfl⟩
  rw [← hB65] at he64
  subst he64
  replace ha : a = l64 (1000) := by rw [hl64, lup_ne (by omega)]; exact ha
  replace hf : ∀ j, 1010 < j → B65 j = none := fun j hj => by rw [hB65, eup_ne (by omega)]; exact hf j (by omega)
  replace hlw : ∀ j, j ≤ 1000 → l64 j = lo j := fun j hj => (congrFun hl64 j).trans ((lup_ne (by omega)).trans (hlw j hj))
  replace hel : ∀ j, j < 1000 → B65 j = en j := fun j hj => (congrFun hB65 j).trans ((eup_ne (by omega)).trans (hel j hj))
  replace hb1001 := (by rw [hB65, eup_ne (by decide)]; exact hb1001 : B65 1001 = some (.inl (X.2 0, 10, .inl (fun _ => 0))))
  replace hq1001 := (by rw [hl64, lup_ne (by decide)]; exact hq1001 : l64 1001 = q35)
  replace hb1002 := (by rw [hB65, eup_ne (by decide)]; exact hb1002 : B65 1002 = some (.inl (X.2 0, 10, .inl (fun _ => 0))))
  replace hq1002 := (by rw [hl64, lup_ne (by decide)]; exact hq1002 : l64 1002 = q40)
  replace hb1003 := (by rw [hB65, eup_ne (by decide)]; exact hb1003 : B65 1003 = some (.inl (X.2 0, 100, .inl (fun _ => 0))))
  replace hq1003 := (by rw [hl64, lup_ne (by decide)]; exact hq1003 : l64 1003 = q43)
  replace hb1004 := (by rw [hB65, eup_ne (by decide)]; exact hb1004 : B65 1004 = some (.inl (X.2 0, 10, .inl (fun _ => 0))))
  replace hq1004 := (by rw [hl64, lup_ne (by decide)]; exact hq1004 : l64 1004 = q46)
  replace hb1005 := (by rw [hB65, eup_ne (by decide)]; exact hb1005 : B65 1005 = some (.inl (X.2 0, 10, .inl (fun _ => 0))))
  replace hq1005 := (by rw [hl64, lup_ne (by decide)]; exact hq1005 : l64 1005 = q49)
  replace hb1006 := (by rw [hB65, eup_ne (by decide)]; exact hb1006 : B65 1006 = some (.inl (X.2 0, 60, .inl (fun _ => 0))))
  replace hq1006 := (by rw [hl64, lup_ne (by decide)]; exact hq1006 : l64 1006 = q52)
  replace hb1007 := (by rw [hB65, eup_ne (by decide)]; exact hb1007 : B65 1007 = some (.inl (X.2 0, 60, .inl (fun _ => 0))))
  replace hq1007 := (by rw [hl64, lup_ne (by decide)]; exact hq1007 : l64 1007 = q55)
  replace hb1008 := (by rw [hB65, eup_ne (by decide)]; exact hb1008 : B65 1008 = some (.inl (X.2 0, 30, .inl (fun _ => 0))))
  replace hq1008 := (by rw [hl64, lup_ne (by decide)]; exact hq1008 : l64 1008 = q58)
  replace hb1009 := (by rw [hB65, eup_ne (by decide)]; exact hb1009 : B65 1009 = some (.inl (X.2 0, 300, .inl (fun _ => 0))))
  replace hq1009 := (by rw [hl64, lup_ne (by decide)]; exact hq1009 : l64 1009 = q61)
  have hb1010 : B65 1010 = some (.inl (X.2 0, 30, .inl (fun _ => 0))) := by rw [hB65, eup_eq]
  have hq1010 : l64 1010 = q64 := by rw [hl64, lup_eq]
  refine g_putF (ty := .array .int) hC ha eup_eq rfl kl_X5 14 (by decide) kf_X5_44 rfl tyX5 tyX5_ok nmX5 rfl (hI rfl) rfl (by decide +kernel) rfl rfl (Nat.le_of_ble_eq_true rfl) dX5_init_93 (fun e66 he66 => ?_)
  replace he66 : e66 = eup B65 1000 (.inr (5, [.ref q35, .int 0, .int 5, .int 20, .int 0, .ref q40, .ref q43, .ref q46, .ref q49, .ref q52, .ref q55, .int 0, .ref q58, .ref q61, .ref q64, .null, .null, .null, .null, .int 0, .int 0, .int 0, .int 0, .int 0, .int 0, .null, .null, .null])) := he66.trans eup_eup
  subst he66
  refine g_aload_n hC dX5_init_96 rfl ?_
  refine g_bipush (v := 30) hC dX5_init_97 (by decide) ?_
  refine g_newI hC (1011) (by rw [eup_ne (by omega)]; exact hf 1011 (by decide)) (n := 30) rfl (by decide) (by rw [hC.2.2.1]; decide) (by rw [hC.2.2.1]; decide) dX5_init_99 (fun q67 l67 e67 hl67 he67 => ?_)
  replace he67 := he67.trans (eup_comm (by omega))
  obtain ⟨B68, hB68⟩ : ∃ z : gE, z = eup B65 (1011) (.inl (X.2 0, 30, .inl (fun _ => 0))) := ⟨_, rfl⟩
  rw [← hB68] at he67
  subst he67
  replace ha : a = l67 (1000) := by rw [hl67, lup_ne (by omega)]; exact ha
  replace hf : ∀ j, 1011 < j → B68 j = none := fun j hj => by rw [hB68, eup_ne (by omega)]; exact hf j (by omega)
  replace hlw : ∀ j, j ≤ 1000 → l67 j = lo j := fun j hj => (congrFun hl67 j).trans ((lup_ne (by omega)).trans (hlw j hj))
  replace hel : ∀ j, j < 1000 → B68 j = en j := fun j hj => (congrFun hB68 j).trans ((eup_ne (by omega)).trans (hel j hj))
  replace hb1001 := (by rw [hB68, eup_ne (by decide)]; exact hb1001 : B68 1001 = some (.inl (X.2 0, 10, .inl (fun _ => 0))))
  replace hq1001 := (by rw [hl67, lup_ne (by decide)]; exact hq1001 : l67 1001 = q35)
  replace hb1002 := (by rw [hB68, eup_ne (by decide)]; exact hb1002 : B68 1002 = some (.inl (X.2 0, 10, .inl (fun _ => 0))))
  replace hq1002 := (by rw [hl67, lup_ne (by decide)]; exact hq1002 : l67 1002 = q40)
  replace hb1003 := (by rw [hB68, eup_ne (by decide)]; exact hb1003 : B68 1003 = some (.inl (X.2 0, 100, .inl (fun _ => 0))))
  replace hq1003 := (by rw [hl67, lup_ne (by decide)]; exact hq1003 : l67 1003 = q43)
  replace hb1004 := (by rw [hB68, eup_ne (by decide)]; exact hb1004 : B68 1004 = some (.inl (X.2 0, 10, .inl (fun _ => 0))))
  replace hq1004 := (by rw [hl67, lup_ne (by decide)]; exact hq1004 : l67 1004 = q46)
  replace hb1005 := (by rw [hB68, eup_ne (by decide)]; exact hb1005 : B68 1005 = some (.inl (X.2 0, 10, .inl (fun _ => 0))))
  replace hq1005 := (by rw [hl67, lup_ne (by decide)]; exact hq1005 : l67 1005 = q49)
  replace hb1006 := (by rw [hB68, eup_ne (by decide)]; exact hb1006 : B68 1006 = some (.inl (X.2 0, 60, .inl (fun _ => 0))))
  replace hq1006 := (by rw [hl67, lup_ne (by decide)]; exact hq1006 : l67 1006 = q52)
  replace hb1007 := (by rw [hB68, eup_ne (by decide)]; exact hb1007 : B68 1007 = some (.inl (X.2 0, 60, .inl (fun _ => 0))))
  replace hq1007 := (by rw [hl67, lup_ne (by decide)]; exact hq1007 : l67 1007 = q55)
  replace hb1008 := (by rw [hB68, eup_ne (by decide)]; exact hb1008 : B68 1008 = some (.inl (X.2 0, 30, .inl (fun _ => 0))))
  replace hq1008 := (by rw [hl67, lup_ne (by decide)]; exact hq1008 : l67 1008 = q58)
  replace hb1009 := (by rw [hB68, eup_ne (by decide)]; exact hb1009 : B68 1009 = some (.inl (X.2 0, 300, .inl (fun _ => 0))))
  replace hq1009 := (by rw [hl67, lup_ne (by decide)]; exact hq1009 : l67 1009 = q61)
  replace hb1010 := (by rw [hB68, eup_ne (by decide)]; exact hb1010 : B68 1010 = some (.inl (X.2 0, 30, .inl (fun _ => 0))))
  replace hq1010 := (by rw [hl67, lup_ne (by decide)]; exact hq1010 : l67 1010 = q64)
  have hb1011 : B68 1011 = some (.inl (X.2 0, 30, .inl (fun _ => 0))) := by rw [hB68, eup_eq]
  have hq1011 : l67 1011 = q67 := by rw [hl67, lup_eq]
  refine g_putF (ty := .array .int) hC ha eup_eq rfl kl_X5 15 (by decide) kf_X5_47 rfl tyX5 tyX5_ok nmX5 rfl (hI rfl) rfl (by decide +kernel) rfl rfl (Nat.le_of_ble_eq_true rfl) dX5_init_101 (fun e69 he69 => ?_)
  replace he69 : e69 = eup B68 1000 (.inr (5, [.ref q35, .int 0, .int 5, .int 20, .int 0, .ref q40, .ref q43, .ref q46, .ref q49, .ref q52, .ref q55, .int 0, .ref q58, .ref q61, .ref q64, .ref q67, .null, .null, .null, .int 0, .int 0, .int 0, .int 0, .int 0, .int 0, .null, .null, .null])) := he69.trans eup_eup
  subst he69
  refine g_aload_n hC dX5_init_104 rfl ?_
  refine g_bipush (v := 30) hC dX5_init_105 (by decide) ?_
  refine g_newI hC (1012) (by rw [eup_ne (by omega)]; exact hf 1012 (by decide)) (n := 30) rfl (by decide) (by rw [hC.2.2.1]; decide) (by rw [hC.2.2.1]; decide) dX5_init_107 (fun q70 l70 e70 hl70 he70 => ?_)
  replace he70 := he70.trans (eup_comm (by omega))
  obtain ⟨B71, hB71⟩ : ∃ z : gE, z = eup B68 (1012) (.inl (X.2 0, 30, .inl (fun _ => 0))) := ⟨_, rfl⟩
  rw [← hB71] at he70
  subst he70
  replace ha : a = l70 (1000) := by rw [hl70, lup_ne (by omega)]; exact ha
  replace hf : ∀ j, 1012 < j → B71 j = none := fun j hj => by rw [hB71, eup_ne (by omega)]; exact hf j (by omega)
  replace hlw : ∀ j, j ≤ 1000 → l70 j = lo j := fun j hj => (congrFun hl70 j).trans ((lup_ne (by omega)).trans (hlw j hj))
  replace hel : ∀ j, j < 1000 → B71 j = en j := fun j hj => (congrFun hB71 j).trans ((eup_ne (by omega)).trans (hel j hj))
  replace hb1001 := (by rw [hB71, eup_ne (by decide)]; exact hb1001 : B71 1001 = some (.inl (X.2 0, 10, .inl (fun _ => 0))))
  replace hq1001 := (by rw [hl70, lup_ne (by decide)]; exact hq1001 : l70 1001 = q35)
  replace hb1002 := (by rw [hB71, eup_ne (by decide)]; exact hb1002 : B71 1002 = some (.inl (X.2 0, 10, .inl (fun _ => 0))))
  replace hq1002 := (by rw [hl70, lup_ne (by decide)]; exact hq1002 : l70 1002 = q40)
  replace hb1003 := (by rw [hB71, eup_ne (by decide)]; exact hb1003 : B71 1003 = some (.inl (X.2 0, 100, .inl (fun _ => 0))))
  replace hq1003 := (by rw [hl70, lup_ne (by decide)]; exact hq1003 : l70 1003 = q43)
  replace hb1004 := (by rw [hB71, eup_ne (by decide)]; exact hb1004 : B71 1004 = some (.inl (X.2 0, 10, .inl (fun _ => 0))))
  replace hq1004 := (by rw [hl70, lup_ne (by decide)]; exact hq1004 : l70 1004 = q46)
  replace hb1005 := (by rw [hB71, eup_ne (by decide)]; exact hb1005 : B71 1005 = some (.inl (X.2 0, 10, .inl (fun _ => 0))))
  replace hq1005 := (by rw [hl70, lup_ne (by decide)]; exact hq1005 : l70 1005 = q49)
  replace hb1006 := (by rw [hB71, eup_ne (by decide)]; exact hb1006 : B71 1006 = some (.inl (X.2 0, 60, .inl (fun _ => 0))))
  replace hq1006 := (by rw [hl70, lup_ne (by decide)]; exact hq1006 : l70 1006 = q52)
  replace hb1007 := (by rw [hB71, eup_ne (by decide)]; exact hb1007 : B71 1007 = some (.inl (X.2 0, 60, .inl (fun _ => 0))))
  replace hq1007 := (by rw [hl70, lup_ne (by decide)]; exact hq1007 : l70 1007 = q55)
  replace hb1008 := (by rw [hB71, eup_ne (by decide)]; exact hb1008 : B71 1008 = some (.inl (X.2 0, 30, .inl (fun _ => 0))))
  replace hq1008 := (by rw [hl70, lup_ne (by decide)]; exact hq1008 : l70 1008 = q58)
  replace hb1009 := (by rw [hB71, eup_ne (by decide)]; exact hb1009 : B71 1009 = some (.inl (X.2 0, 300, .inl (fun _ => 0))))
  replace hq1009 := (by rw [hl70, lup_ne (by decide)]; exact hq1009 : l70 1009 = q61)
  replace hb1010 := (by rw [hB71, eup_ne (by decide)]; exact hb1010 : B71 1010 = some (.inl (X.2 0, 30, .inl (fun _ => 0))))
  replace hq1010 := (by rw [hl70, lup_ne (by decide)]; exact hq1010 : l70 1010 = q64)
  replace hb1011 := (by rw [hB71, eup_ne (by decide)]; exact hb1011 : B71 1011 = some (.inl (X.2 0, 30, .inl (fun _ => 0))))
  replace hq1011 := (by rw [hl70, lup_ne (by decide)]; exact hq1011 : l70 1011 = q67)
  have hb1012 : B71 1012 = some (.inl (X.2 0, 30, .inl (fun _ => 0))) := by rw [hB71, eup_eq]
  have hq1012 : l70 1012 = q70 := by rw [hl70, lup_eq]
  refine g_putF (ty := .array .int) hC ha eup_eq rfl kl_X5 16 (by decide) kf_X5_50 rfl tyX5 tyX5_ok nmX5 rfl (hI rfl) rfl (by decide +kernel) rfl rfl (Nat.le_of_ble_eq_true rfl) dX5_init_109 (fun e72 he72 => ?_)
  replace he72 : e72 = eup B71 1000 (.inr (5, [.ref q35, .int 0, .int 5, .int 20, .int 0, .ref q40, .ref q43, .ref q46, .ref q49, .ref q52, .ref q55, .int 0, .ref q58, .ref q61, .ref q64, .ref q67, .ref q70, .null, .null, .int 0, .int 0, .int 0, .int 0, .int 0, .int 0, .null, .null, .null])) := he72.trans eup_eup
  subst he72
  refine g_aload_n hC dX5_init_112 rfl ?_
  refine g_bipush (v := 30) hC dX5_init_113 (by decide) ?_
  refine g_newI hC (1013) (by rw [eup_ne (by omega)]; exact hf 1013 (by decide)) (n := 30) rfl (by decide) (by rw [hC.2.2.1]; decide) (by rw [hC.2.2.1]; decide) dX5_init_115 (fun q73 l73 e73 hl73 he73 => ?_)
  replace he73 := he73.trans (eup_comm (by omega))
  obtain ⟨B74, hB74⟩ : ∃ z : gE, z = eup B71 (1013) (.inl (X.2 0, 30, .inl (fun _ => 0))) := ⟨_, rfl⟩
  rw [← hB74] at he73
  subst he73
  replace ha : a = l73 (1000) := by rw [hl73, lup_ne (by omega)]; exact ha
  replace hf : ∀ j, 1013 < j → B74 j = none := fun j hj => by rw [hB74, eup_ne (by omega)]; exact hf j (by omega)
  replace hlw : ∀ j, j ≤ 1000 → l73 j = lo j := fun j hj => (congrFun hl73 j).trans ((lup_ne (by omega)).trans (hlw j hj))
  replace hel : ∀ j, j < 1000 → B74 j = en j := fun j hj => (congrFun hB74 j).trans ((eup_ne (by omega)).trans (hel j hj))
  replace hb1001 := (by rw [hB74, eup_ne (by decide)]; exact hb1001 : B74 1001 = some (.inl (X.2 0, 10, .inl (fun _ => 0))))
  replace hq1001 := (by rw [hl73, lup_ne (by decide)]; exact hq1001 : l73 1001 = q35)
  replace hb1002 := (by rw [hB74, eup_ne (by decide)]; exact hb1002 : B74 1002 = some (.inl (X.2 0, 10, .inl (fun _ => 0))))
  replace hq1002 := (by rw [hl73, lup_ne (by decide)]; exact hq1002 : l73 1002 = q40)
  replace hb1003 := (by rw [hB74, eup_ne (by decide)]; exact hb1003 : B74 1003 = some (.inl (X.2 0, 100, .inl (fun _ => 0))))
  replace hq1003 := (by rw [hl73, lup_ne (by decide)]; exact hq1003 : l73 1003 = q43)
  replace hb1004 := (by rw [hB74, eup_ne (by decide)]; exact hb1004 : B74 1004 = some (.inl (X.2 0, 10, .inl (fun _ => 0))))
  replace hq1004 := (by rw [hl73, lup_ne (by decide)]; exact hq1004 : l73 1004 = q46)
  replace hb1005 := (by rw [hB74, eup_ne (by decide)]; exact hb1005 : B74 1005 = some (.inl (X.2 0, 10, .inl (fun _ => 0))))
  replace hq1005 := (by rw [hl73, lup_ne (by decide)]; exact hq1005 : l73 1005 = q49)
  replace hb1006 := (by rw [hB74, eup_ne (by decide)]; exact hb1006 : B74 1006 = some (.inl (X.2 0, 60, .inl (fun _ => 0))))
  replace hq1006 := (by rw [hl73, lup_ne (by decide)]; exact hq1006 : l73 1006 = q52)
  replace hb1007 := (by rw [hB74, eup_ne (by decide)]; exact hb1007 : B74 1007 = some (.inl (X.2 0, 60, .inl (fun _ => 0))))
  replace hq1007 := (by rw [hl73, lup_ne (by decide)]; exact hq1007 : l73 1007 = q55)
  replace hb1008 := (by rw [hB74, eup_ne (by decide)]; exact hb1008 : B74 1008 = some (.inl (X.2 0, 30, .inl (fun _ => 0))))
  replace hq1008 := (by rw [hl73, lup_ne (by decide)]; exact hq1008 : l73 1008 = q58)
  replace hb1009 := (by rw [hB74, eup_ne (by decide)]; exact hb1009 : B74 1009 = some (.inl (X.2 0, 300, .inl (fun _ => 0))))
  replace hq1009 := (by rw [hl73, lup_ne (by decide)]; exact hq1009 : l73 1009 = q61)
  replace hb1010 := (by rw [hB74, eup_ne (by decide)]; exact hb1010 : B74 1010 = some (.inl (X.2 0, 30, .inl (fun _ => 0))))
  replace hq1010 := (by rw [hl73, lup_ne (by decide)]; exact hq1010 : l73 1010 = q64)
  replace hb1011 := (by rw [hB74, eup_ne (by decide)]; exact hb1011 : B74 1011 = some (.inl (X.2 0, 30, .inl (fun _ => 0))))
  replace hq1011 := (by rw [hl73, lup_ne (by decide)]; exact hq1011 : l73 1011 = q67)
  replace hb1012 := (by rw [hB74, eup_ne (by decide)]; exact hb1012 : B74 1012 = some (.inl (X.2 0, 30, .inl (fun _ => 0))))
  replace hq1012 := (by rw [hl73, lup_ne (by decide)]; exact hq1012 : l73 1012 = q70)
  have hb1013 : B74 1013 = some (.inl (X.2 0, 30, .inl (fun _ => 0))) := by rw [hB74, eup_eq]
  have hq1013 : l73 1013 = q73 := by rw [hl73, lup_eq]
  refine g_putF (ty := .array .int) hC ha eup_eq rfl kl_X5 17 (by decide) kf_X5_53 rfl tyX5 tyX5_ok nmX5 rfl (hI rfl) rfl (by decide +kernel) rfl rfl (Nat.le_of_ble_eq_true rfl) dX5_init_117 (fun e75 he75 => ?_)
  replace he75 : e75 = eup B74 1000 (.inr (5, [.ref q35, .int 0, .int 5, .int 20, .int 0, .ref q40, .ref q43, .ref q46, .ref q49, .ref q52, .ref q55, .int 0, .ref q58, .ref q61, .ref q64, .ref q67, .ref q70, .ref q73, .null, .int 0, .int 0, .int 0, .int 0, .int 0, .int 0, .null, .null, .null])) := he75.trans eup_eup
  subst he75
  refine g_aload_n hC dX5_init_120 rfl ?_
  refine g_bipush (v := 30) hC dX5_init_121 (by decide) ?_
  refine g_newI hC (1014) (by rw [eup_ne (by omega)]; exact hf 1014 (by decide)) (n := 30) rfl (by decide) (by rw [hC.2.2.1]; decide) (by rw [hC.2.2.1]; decide) dX5_init_123 (fun q76 l76 e76 hl76 he76 => ?_)
  replace he76 := he76.trans (eup_comm (by omega))
  obtain ⟨B77, hB77⟩ : ∃ z : gE, z = eup B74 (1014) (.inl (X.2 0, 30, .inl (fun _ => 0))) := ⟨_, rfl⟩
  rw [← hB77] at he76
  subst he76
  replace ha : a = l76 (1000) := by rw [hl76, lup_ne (by omega)]; exact ha
  replace hf : ∀ j, 1014 < j → B77 j = none := fun j hj => by rw [hB77, eup_ne (by omega)]; exact hf j (by omega)
  replace hlw : ∀ j, j ≤ 1000 → l76 j = lo j := fun j hj => (congrFun hl76 j).trans ((lup_ne (by omega)).trans (hlw j hj))
  replace hel : ∀ j, j < 1000 → B77 j = en j := fun j hj => (congrFun hB77 j).trans ((eup_ne (by omega)).trans (hel j hj))
  replace hb1001 := (by rw [hB77, eup_ne (by decide)]; exact hb1001 : B77 1001 = some (.inl (X.2 0, 10, .inl (fun _ => 0))))
  replace hq1001 := (by rw [hl76, lup_ne (by decide)]; exact hq1001 : l76 1001 = q35)
  replace hb1002 := (by rw [hB77, eup_ne (by decide)]; exact hb1002 : B77 1002 = some (.inl (X.2 0, 10, .inl (fun _ => 0))))
  replace hq1002 := (by rw [hl76, lup_ne (by decide)]; exact hq1002 : l76 1002 = q40)
  replace hb1003 := (by rw [hB77, eup_ne (by decide)]; exact hb1003 : B77 1003 = some (.inl (X.2 0, 100, .inl (fun _ => 0))))
  replace hq1003 := (by rw [hl76, lup_ne (by decide)]; exact hq1003 : l76 1003 = q43)
  replace hb1004 := (by rw [hB77, eup_ne (by decide)]; exact hb1004 : B77 1004 = some (.inl (X.2 0, 10, .inl (fun _ => 0))))
  replace hq1004 := (by rw [hl76, lup_ne (by decide)]; exact hq1004 : l76 1004 = q46)
  replace hb1005 := (by rw [hB77, eup_ne (by decide)]; exact hb1005 : B77 1005 = some (.inl (X.2 0, 10, .inl (fun _ => 0))))
  replace hq1005 := (by rw [hl76, lup_ne (by decide)]; exact hq1005 : l76 1005 = q49)
  replace hb1006 := (by rw [hB77, eup_ne (by decide)]; exact hb1006 : B77 1006 = some (.inl (X.2 0, 60, .inl (fun _ => 0))))
  replace hq1006 := (by rw [hl76, lup_ne (by decide)]; exact hq1006 : l76 1006 = q52)
  replace hb1007 := (by rw [hB77, eup_ne (by decide)]; exact hb1007 : B77 1007 = some (.inl (X.2 0, 60, .inl (fun _ => 0))))
  replace hq1007 := (by rw [hl76, lup_ne (by decide)]; exact hq1007 : l76 1007 = q55)
  replace hb1008 := (by rw [hB77, eup_ne (by decide)]; exact hb1008 : B77 1008 = some (.inl (X.2 0, 30, .inl (fun _ => 0))))
  replace hq1008 := (by rw [hl76, lup_ne (by decide)]; exact hq1008 : l76 1008 = q58)
  replace hb1009 := (by rw [hB77, eup_ne (by decide)]; exact hb1009 : B77 1009 = some (.inl (X.2 0, 300, .inl (fun _ => 0))))
  replace hq1009 := (by rw [hl76, lup_ne (by decide)]; exact hq1009 : l76 1009 = q61)
  replace hb1010 := (by rw [hB77, eup_ne (by decide)]; exact hb1010 : B77 1010 = some (.inl (X.2 0, 30, .inl (fun _ => 0))))
  replace hq1010 := (by rw [hl76, lup_ne (by decide)]; exact hq1010 : l76 1010 = q64)
  replace hb1011 := (by rw [hB77, eup_ne (by decide)]; exact hb1011 : B77 1011 = some (.inl (X.2 0, 30, .inl (fun _ => 0))))
  replace hq1011 := (by rw [hl76, lup_ne (by decide)]; exact hq1011 : l76 1011 = q67)
  replace hb1012 := (by rw [hB77, eup_ne (by decide)]; exact hb1012 : B77 1012 = some (.inl (X.2 0, 30, .inl (fun _ => 0))))
  replace hq1012 := (by rw [hl76, lup_ne (by decide)]; exact hq1012 : l76 1012 = q70)
  replace hb1013 := (by rw [hB77, eup_ne (by decide)]; exact hb1013 : B77 1013 = some (.inl (X.2 0, 30, .inl (fun _ => 0))))
  replace hq1013 := (by rw [hl76, lup_ne (by decide)]; exact hq1013 : l76 1013 = q73)
  have hb1014 : B77 1014 = some (.inl (X.2 0, 30, .inl (fun _ => 0))) := by rw [hB77, eup_eq]
  have hq1014 : l76 1014 = q76 := by rw [hl76, lup_eq]
  refine g_putF (ty := .array .int) hC ha eup_eq rfl kl_X5 18 (by decide) kf_X5_56 rfl tyX5 tyX5_ok nmX5 rfl (hI rfl) rfl (by decide +kernel) rfl rfl (Nat.le_of_ble_eq_true rfl) dX5_init_125 (fun e78 he78 => ?_)
  replace he78 : e78 = eup B77 1000 (.inr (5, [.ref q35, .int 0, .int 5, .int 20, .int 0, .ref q40, .ref q43, .ref q46, .ref q49, .ref q52, .ref q55, .int 0, .ref q58, .ref q61, .ref q64, .ref q67, .ref q70, .ref q73, .ref q76, .int 0, .int 0, .int 0, .int 0, .int 0, .int 0, .null, .null, .null])) := he78.trans eup_eup
  subst he78
  refine g_aload_n hC dX5_init_128 rfl ?_
  refine g_bipush (v := 30) hC dX5_init_129 (by decide) ?_
  refine g_newI hC (1015) (by rw [eup_ne (by omega)]; exact hf 1015 (by decide)) (n := 30) rfl (by decide) (by rw [hC.2.2.1]; decide) (by rw [hC.2.2.1]; decide) dX5_init_131 (fun q79 l79 e79 hl79 he79 => ?_)
  replace he79 := he79.trans (eup_comm (by omega))
  obtain ⟨B80, hB80⟩ : ∃ z : gE, z = eup B77 (1015) (.inl (X.2 0, 30, .inl (fun _ => 0))) := ⟨_, rfl⟩
  rw [← hB80] at he79
  subst he79
  replace ha : a = l79 (1000) := by rw [hl79, lup_ne (by omega)]; exact ha
  replace hf : ∀ j, 1015 < j → B80 j = none := fun j hj => by rw [hB80, eup_ne (by omega)]; exact hf j (by omega)
  replace hlw : ∀ j, j ≤ 1000 → l79 j = lo j := fun j hj => (congrFun hl79 j).trans ((lup_ne (by omega)).trans (hlw j hj))
  replace hel : ∀ j, j < 1000 → B80 j = en j := fun j hj => (congrFun hB80 j).trans ((eup_ne (by omega)).trans (hel j hj))
  replace hb1001 := (by rw [hB80, eup_ne (by decide)]; exact hb1001 : B80 1001 = some (.inl (X.2 0, 10, .inl (fun _ => 0))))
  replace hq1001 := (by rw [hl79, lup_ne (by decide)]; exact hq1001 : l79 1001 = q35)
  replace hb1002 := (by rw [hB80, eup_ne (by decide)]; exact hb1002 : B80 1002 = some (.inl (X.2 0, 10, .inl (fun _ => 0))))
  replace hq1002 := (by rw [hl79, lup_ne (by decide)]; exact hq1002 : l79 1002 = q40)
  replace hb1003 := (by rw [hB80, eup_ne (by decide)]; exact hb1003 : B80 1003 = some (.inl (X.2 0, 100, .inl (fun _ => 0))))
  replace hq1003 := (by rw [hl79, lup_ne (by decide)]; exact hq1003 : l79 1003 = q43)
  replace hb1004 := (by rw [hB80, eup_ne (by decide)]; exact hb1004 : B80 1004 = some (.inl (X.2 0, 10, .inl (fun _ => 0))))
  replace hq1004 := (by rw [hl79, lup_ne (by decide)]; exact hq1004 : l79 1004 = q46)
  replace hb1005 := (by rw [hB80, eup_ne (by decide)]; exact hb1005 : B80 1005 = some (.inl (X.2 0, 10, .inl (fun _ => 0))))
  replace hq1005 := (by rw [hl79, lup_ne (by decide)]; exact hq1005 : l79 1005 = q49)
  replace hb1006 := (by rw [hB80, eup_ne (by decide)]; exact hb1006 : B80 1006 = some (.inl (X.2 0, 60, .inl (fun _ => 0))))
  replace hq1006 := (by rw [hl79, lup_ne (by decide)]; exact hq1006 : l79 1006 = q52)
  replace hb1007 := (by rw [hB80, eup_ne (by decide)]; exact hb1007 : B80 1007 = some (.inl (X.2 0, 60, .inl (fun _ => 0))))
  replace hq1007 := (by rw [hl79, lup_ne (by decide)]; exact hq1007 : l79 1007 = q55)
  replace hb1008 := (by rw [hB80, eup_ne (by decide)]; exact hb1008 : B80 1008 = some (.inl (X.2 0, 30, .inl (fun _ => 0))))
  replace hq1008 := (by rw [hl79, lup_ne (by decide)]; exact hq1008 : l79 1008 = q58)
  replace hb1009 := (by rw [hB80, eup_ne (by decide)]; exact hb1009 : B80 1009 = some (.inl (X.2 0, 300, .inl (fun _ => 0))))
  replace hq1009 := (by rw [hl79, lup_ne (by decide)]; exact hq1009 : l79 1009 = q61)
  replace hb1010 := (by rw [hB80, eup_ne (by decide)]; exact hb1010 : B80 1010 = some (.inl (X.2 0, 30, .inl (fun _ => 0))))
  replace hq1010 := (by rw [hl79, lup_ne (by decide)]; exact hq1010 : l79 1010 = q64)
  replace hb1011 := (by rw [hB80, eup_ne (by decide)]; exact hb1011 : B80 1011 = some (.inl (X.2 0, 30, .inl (fun _ => 0))))
  replace hq1011 := (by rw [hl79, lup_ne (by decide)]; exact hq1011 : l79 1011 = q67)
  replace hb1012 := (by rw [hB80, eup_ne (by decide)]; exact hb1012 : B80 1012 = some (.inl (X.2 0, 30, .inl (fun _ => 0))))
  replace hq1012 := (by rw [hl79, lup_ne (by decide)]; exact hq1012 : l79 1012 = q70)
  replace hb1013 := (by rw [hB80, eup_ne (by decide)]; exact hb1013 : B80 1013 = some (.inl (X.2 0, 30, .inl (fun _ => 0))))
  replace hq1013 := (by rw [hl79, lup_ne (by decide)]; exact hq1013 : l79 1013 = q73)
  replace hb1014 := (by rw [hB80, eup_ne (by decide)]; exact hb1014 : B80 1014 = some (.inl (X.2 0, 30, .inl (fun _ => 0))))
  replace hq1014 := (by rw [hl79, lup_ne (by decide)]; exact hq1014 : l79 1014 = q76)
  have hb1015 : B80 1015 = some (.inl (X.2 0, 30, .inl (fun _ => 0))) := by rw [hB80, eup_eq]
  have hq1015 : l79 1015 = q79 := by rw [hl79, lup_eq]
  refine g_putF (ty := .array .int) hC ha eup_eq rfl kl_X5 25 (by decide) kf_X5_59 rfl tyX5 tyX5_ok nmX5 rfl (hI rfl) rfl (by decide +kernel) rfl rfl (Nat.le_of_ble_eq_true rfl) dX5_init_133 (fun e81 he81 => ?_)
  replace he81 : e81 = eup B80 1000 (.inr (5, [.ref q35, .int 0, .int 5, .int 20, .int 0, .ref q40, .ref q43, .ref q46, .ref q49, .ref q52, .ref q55, .int 0, .ref q58, .ref q61, .ref q64, .ref q67, .ref q70, .ref q73, .ref q76, .int 0, .int 0, .int 0, .int 0, .int 0, .int 0, .ref q79, .null, .null])) := he81.trans eup_eup
  subst he81
  refine g_aload_n hC dX5_init_136 rfl ?_
  refine g_bipush (v := 30) hC dX5_init_137 (by decide) ?_
  refine g_newI hC (1016) (by rw [eup_ne (by omega)]; exact hf 1016 (by decide)) (n := 30) rfl (by decide) (by rw [hC.2.2.1]; decide) (by rw [hC.2.2.1]; decide) dX5_init_139 (fun q82 l82 e82 hl82 he82 => ?_)
  replace he82 := he82.trans (eup_comm (by omega))
  obtain ⟨B83, hB83⟩ : ∃ z : gE, z = eup B80 (1016) (.inl (X.2 0, 30, .inl (fun _ => 0))) := ⟨_, rfl⟩
  rw [← hB83] at he82
  subst he82
  replace ha : a = l82 (1000) := by rw [hl82, lup_ne (by omega)]; exact ha
  replace hf : ∀ j, 1016 < j → B83 j = none := fun j hj => by rw [hB83, eup_ne (by omega)]; exact hf j (by omega)
  replace hlw : ∀ j, j ≤ 1000 → l82 j = lo j := fun j hj => (congrFun hl82 j).trans ((lup_ne (by omega)).trans (hlw j hj))
  replace hel : ∀ j, j < 1000 → B83 j = en j := fun j hj => (congrFun hB83 j).trans ((eup_ne (by omega)).trans (hel j hj))
  replace hb1001 := (by rw [hB83, eup_ne (by decide)]; exact hb1001 : B83 1001 = some (.inl (X.2 0, 10, .inl (fun _ => 0))))
  replace hq1001 := (by rw [hl82, lup_ne (by decide)]; exact hq1001 : l82 1001 = q35)
  replace hb1002 := (by rw [hB83, eup_ne (by decide)]; exact hb1002 : B83 1002 = some (.inl (X.2 0, 10, .inl (fun _ => 0))))
  replace hq1002 := (by rw [hl82, lup_ne (by decide)]; exact hq1002 : l82 1002 = q40)
  replace hb1003 := (by rw [hB83, eup_ne (by decide)]; exact hb1003 : B83 1003 = some (.inl (X.2 0, 100, .inl (fun _ => 0))))
  replace hq1003 := (by rw [hl82, lup_ne (by decide)]; exact hq1003 : l82 1003 = q43)
  replace hb1004 := (by rw [hB83, eup_ne (by decide)]; exact hb1004 : B83 1004 = some (.inl (X.2 0, 10, .inl (fun _ => 0))))
  replace hq1004 := (by rw [hl82, lup_ne (by decide)]; exact hq1004 : l82 1004 = q46)
  replace hb1005 := (by rw [hB83, eup_ne (by decide)]; exact hb1005 : B83 1005 = some (.inl (X.2 0, 10, .inl (fun _ => 0))))
  replace hq1005 := (by rw [hl82, lup_ne (by decide)]; exact hq1005 : l82 1005 = q49)
  replace hb1006 := (by rw [hB83, eup_ne (by decide)]; exact hb1006 : B83 1006 = some (.inl (X.2 0, 60, .inl (fun _ => 0))))
  replace hq1006 := (by rw [hl82, lup_ne (by decide)]; exact hq1006 : l82 1006 = q52)
  replace hb1007 := (by rw [hB83, eup_ne (by decide)]; exact hb1007 : B83 1007 = some (.inl (X.2 0, 60, .inl (fun _ => 0))))
  replace hq1007 := (by rw [hl82, lup_ne (by decide)]; exact hq1007 : l82 1007 = q55)
  replace hb1008 := (by rw [hB83, eup_ne (by decide)]; exact hb1008 : B83 1008 = some (.inl (X.2 0, 30, .inl (fun _ => 0))))
  replace hq1008 := (by rw [hl82, lup_ne (by decide)]; exact hq1008 : l82 1008 = q58)
  replace hb1009 := (by rw [hB83, eup_ne (by decide)]; exact hb1009 : B83 1009 = some (.inl (X.2 0, 300, .inl (fun _ => 0))))
  replace hq1009 := (by rw [hl82, lup_ne (by decide)]; exact hq1009 : l82 1009 = q61)
  replace hb1010 := (by rw [hB83, eup_ne (by decide)]; exact hb1010 : B83 1010 = some (.inl (X.2 0, 30, .inl (fun _ => 0))))
  replace hq1010 := (by rw [hl82, lup_ne (by decide)]; exact hq1010 : l82 1010 = q64)
  replace hb1011 := (by rw [hB83, eup_ne (by decide)]; exact hb1011 : B83 1011 = some (.inl (X.2 0, 30, .inl (fun _ => 0))))
  replace hq1011 := (by rw [hl82, lup_ne (by decide)]; exact hq1011 : l82 1011 = q67)
  replace hb1012 := (by rw [hB83, eup_ne (by decide)]; exact hb1012 : B83 1012 = some (.inl (X.2 0, 30, .inl (fun _ => 0))))
  replace hq1012 := (by rw [hl82, lup_ne (by decide)]; exact hq1012 : l82 1012 = q70)
  replace hb1013 := (by rw [hB83, eup_ne (by decide)]; exact hb1013 : B83 1013 = some (.inl (X.2 0, 30, .inl (fun _ => 0))))
  replace hq1013 := (by rw [hl82, lup_ne (by decide)]; exact hq1013 : l82 1013 = q73)
  replace hb1014 := (by rw [hB83, eup_ne (by decide)]; exact hb1014 : B83 1014 = some (.inl (X.2 0, 30, .inl (fun _ => 0))))
  replace hq1014 := (by rw [hl82, lup_ne (by decide)]; exact hq1014 : l82 1014 = q76)
  replace hb1015 := (by rw [hB83, eup_ne (by decide)]; exact hb1015 : B83 1015 = some (.inl (X.2 0, 30, .inl (fun _ => 0))))
  replace hq1015 := (by rw [hl82, lup_ne (by decide)]; exact hq1015 : l82 1015 = q79)
  have hb1016 : B83 1016 = some (.inl (X.2 0, 30, .inl (fun _ => 0))) := by rw [hB83, eup_eq]
  have hq1016 : l82 1016 = q82 := by rw [hl82, lup_eq]
  refine g_putF (ty := .array .int) hC ha eup_eq rfl kl_X5 26 (by decide) kf_X5_62 rfl tyX5 tyX5_ok nmX5 rfl (hI rfl) rfl (by decide +kernel) rfl rfl (Nat.le_of_ble_eq_true rfl) dX5_init_141 (fun e84 he84 => ?_)
  replace he84 : e84 = eup B83 1000 (.inr (5, [.ref q35, .int 0, .int 5, .int 20, .int 0, .ref q40, .ref q43, .ref q46, .ref q49, .ref q52, .ref q55, .int 0, .ref q58, .ref q61, .ref q64, .ref q67, .ref q70, .ref q73, .ref q76, .int 0, .int 0, .int 0, .int 0, .int 0, .int 0, .ref q79, .ref q82, .null])) := he84.trans eup_eup
  subst he84
  refine g_aload_n hC dX5_init_144 rfl ?_
  refine g_bipush (v := 30) hC dX5_init_145 (by decide) ?_
  refine g_newI hC (1017) (by rw [eup_ne (by omega)]; exact hf 1017 (by decide)) (n := 30) rfl (by decide) (by rw [hC.2.2.1]; decide) (by rw [hC.2.2.1]; decide) dX5_init_147 (fun q85 l85 e85 hl85 he85 => ?_)
  replace he85 := he85.trans (eup_comm (by omega))
  obtain ⟨B86, hB86⟩ : ∃ z : gE, z = eup B83 (1017) (.inl (X.2 0, 30, .inl (fun _ => 0))) := ⟨_, rfl⟩
  rw [← hB86] at he85
  subst he85
  replace ha : a = l85 (1000) := by rw [hl85, lup_ne (by omega)]; exact ha
  replace hf : ∀ j, 1017 < j → B86 j = none := fun j hj => by rw [hB86, eup_ne (by omega)]; exact hf j (by omega)
  replace hlw : ∀ j, j ≤ 1000 → l85 j = lo j := fun j hj => (congrFun hl85 j).trans ((lup_ne (by omega)).trans (hlw j hj))
  replace hel : ∀ j, j < 1000 → B86 j = en j := fun j hj => (congrFun hB86 j).trans ((eup_ne (by omega)).trans (hel j hj))
  replace hb1001 := (by rw [hB86, eup_ne (by decide)]; exact hb1001 : B86 1001 = some (.inl (X.2 0, 10, .inl (fun _ => 0))))
  replace hq1001 := (by rw [hl85, lup_ne (by decide)]; exact hq1001 : l85 1001 = q35)
  replace hb1002 := (by rw [hB86, eup_ne (by decide)]; exact hb1002 : B86 1002 = some (.inl (X.2 0, 10, .inl (fun _ => 0))))
  replace hq1002 := (by rw [hl85, lup_ne (by decide)]; exact hq1002 : l85 1002 = q40)
  replace hb1003 := (by rw [hB86, eup_ne (by decide)]; exact hb1003 : B86 1003 = some (.inl (X.2 0, 100, .inl (fun _ => 0))))
  replace hq1003 := (by rw [hl85, lup_ne (by decide)]; exact hq1003 : l85 1003 = q43)
  replace hb1004 := (by rw [hB86, eup_ne (by decide)]; exact hb1004 : B86 1004 = some (.inl (X.2 0, 10, .inl (fun _ => 0))))
  replace hq1004 := (by rw [hl85, lup_ne (by decide)]; exact hq1004 : l85 1004 = q46)
  replace hb1005 := (by rw [hB86, eup_ne (by decide)]; exact hb1005 : B86 1005 = some (.inl (X.2 0, 10, .inl (fun _ => 0))))
  replace hq1005 := (by rw [hl85, lup_ne (by decide)]; exact hq1005 : l85 1005 = q49)
  replace hb1006 := (by rw [hB86, eup_ne (by decide)]; exact hb1006 : B86 1006 = some (.inl (X.2 0, 60, .inl (fun _ => 0))))
  replace hq1006 := (by rw [hl85, lup_ne (by decide)]; exact hq1006 : l85 1006 = q52)
  replace hb1007 := (by rw [hB86, eup_ne (by decide)]; exact hb1007 : B86 1007 = some (.inl (X.2 0, 60, .inl (fun _ => 0))))
  replace hq1007 := (by rw [hl85, lup_ne (by decide)]; exact hq1007 : l85 1007 = q55)
  replace hb1008 := (by rw [hB86, eup_ne (by decide)]; exact hb1008 : B86 1008 = some (.inl (X.2 0, 30, .inl (fun _ => 0))))
  replace hq1008 := (by rw [hl85, lup_ne (by decide)]; exact hq1008 : l85 1008 = q58)
  replace hb1009 := (by rw [hB86, eup_ne (by decide)]; exact hb1009 : B86 1009 = some (.inl (X.2 0, 300, .inl (fun _ => 0))))
  replace hq1009 := (by rw [hl85, lup_ne (by decide)]; exact hq1009 : l85 1009 = q61)
  replace hb1010 := (by rw [hB86, eup_ne (by decide)]; exact hb1010 : B86 1010 = some (.inl (X.2 0, 30, .inl (fun _ => 0))))
  replace hq1010 := (by rw [hl85, lup_ne (by decide)]; exact hq1010 : l85 1010 = q64)
  replace hb1011 := (by rw [hB86, eup_ne (by decide)]; exact hb1011 : B86 1011 = some (.inl (X.2 0, 30, .inl (fun _ => 0))))
  replace hq1011 := (by rw [hl85, lup_ne (by decide)]; exact hq1011 : l85 1011 = q67)
  replace hb1012 := (by rw [hB86, eup_ne (by decide)]; exact hb1012 : B86 1012 = some (.inl (X.2 0, 30, .inl (fun _ => 0))))
  replace hq1012 := (by rw [hl85, lup_ne (by decide)]; exact hq1012 : l85 1012 = q70)
  replace hb1013 := (by rw [hB86, eup_ne (by decide)]; exact hb1013 : B86 1013 = some (.inl (X.2 0, 30, .inl (fun _ => 0))))
  replace hq1013 := (by rw [hl85, lup_ne (by decide)]; exact hq1013 : l85 1013 = q73)
  replace hb1014 := (by rw [hB86, eup_ne (by decide)]; exact hb1014 : B86 1014 = some (.inl (X.2 0, 30, .inl (fun _ => 0))))
  replace hq1014 := (by rw [hl85, lup_ne (by decide)]; exact hq1014 : l85 1014 = q76)
  replace hb1015 := (by rw [hB86, eup_ne (by decide)]; exact hb1015 : B86 1015 = some (.inl (X.2 0, 30, .inl (fun _ => 0))))
  replace hq1015 := (by rw [hl85, lup_ne (by decide)]; exact hq1015 : l85 1015 = q79)
  replace hb1016 := (by rw [hB86, eup_ne (by decide)]; exact hb1016 : B86 1016 = some (.inl (X.2 0, 30, .inl (fun _ => 0))))
  replace hq1016 := (by rw [hl85, lup_ne (by decide)]; exact hq1016 : l85 1016 = q82)
  have hb1017 : B86 1017 = some (.inl (X.2 0, 30, .inl (fun _ => 0))) := by rw [hB86, eup_eq]
  have hq1017 : l85 1017 = q85 := by rw [hl85, lup_eq]
  refine g_putF (ty := .array .int) hC ha eup_eq rfl kl_X5 27 (by decide) kf_X5_65 rfl tyX5 tyX5_ok nmX5 rfl (hI rfl) rfl (by decide +kernel) rfl rfl (Nat.le_of_ble_eq_true rfl) dX5_init_149 (fun e87 he87 => ?_)
  replace he87 : e87 = eup B86 1000 (.inr (5, [.ref q35, .int 0, .int 5, .int 20, .int 0, .ref q40, .ref q43, .ref q46, .ref q49, .ref q52, .ref q55, .int 0, .ref q58, .ref q61, .ref q64, .ref q67, .ref q70, .ref q73, .ref q76, .int 0, .int 0, .int 0, .int 0, .int 0, .int 0, .ref q79, .ref q82, .ref q85])) := he87.trans eup_eup
  subst he87
  refine g_less (lo1 := l85) (en1 := enR X l85 M0 T0 en) ?_ (g_retv hR dX5_init_152 ⟨rfl, hlw, rfl⟩)
  refine enR_all (fun j e hj h => ⟨by rw [eup_ne (by omega), hel j hj]; exact h, rfl⟩) (fun j e hj h => absurd (hn j (by omega)) (by rw [h]; exact fun z => by cases z)) ⟨?_, rfl⟩ ⟨?_, rfl⟩ ⟨?_, rfl⟩ ⟨?_, rfl⟩ ⟨?_, rfl⟩ ⟨?_, rfl⟩ ⟨?_, rfl⟩ ⟨?_, rfl⟩ ⟨?_, rfl⟩ ⟨?_, rfl⟩ ⟨?_, rfl⟩ ⟨?_, rfl⟩ ⟨?_, rfl⟩ ⟨?_, rfl⟩ ⟨?_, rfl⟩ ⟨?_, rfl⟩ ⟨?_, rfl⟩ ⟨?_, rfl⟩
  · rw [eup_eq]; unfold oR; rw [hq1001, hq1002, hq1003, hq1004, hq1005, hq1006, hq1007, hq1008, hq1009, hq1010, hq1011, hq1012, hq1013, hq1014, hq1015, hq1016, hq1017]; rfl
  · rw [eup_ne (by decide), hb1001, M0_row (by decide)]
  · rw [eup_ne (by decide), hb1002, M0_row (by decide)]
  · rw [eup_ne (by decide), hb1003, M0_row (by decide)]
  · rw [eup_ne (by decide), hb1004, M0_row (by decide)]
  · rw [eup_ne (by decide), hb1005, M0_row (by decide)]
  · rw [eup_ne (by decide), hb1006, M0_row (by decide)]
  · rw [eup_ne (by decide), hb1007, M0_row (by decide)]
  · rw [eup_ne (by decide), hb1008, M0_row (by decide)]
  · rw [eup_ne (by decide), hb1009, M0_row (by decide)]
  · rw [eup_ne (by decide), hb1010, M0_row (by decide)]
  · rw [eup_ne (by decide), hb1011, M0_row (by decide)]
  · rw [eup_ne (by decide), hb1012, M0_row (by decide)]
  · rw [eup_ne (by decide), hb1013, M0_row (by decide)]
  · rw [eup_ne (by decide), hb1014, M0_row (by decide)]
  · rw [eup_ne (by decide), hb1015]; rfl
  · rw [eup_ne (by decide), hb1016]; rfl
  · rw [eup_ne (by decide), hb1017]; rfl
set_option maxHeartbeats 4000000 in
set_option maxRecDepth 100000 in
theorem c_X4_init (l : Launch) (X : gX) (b0 : Nat) (lo : gL) (en : gE) (a : Nat) (ha : a = lo 0) (he : en 0 = some (.inr (4, zX4))) (hn : ∀ j, 0 < j → en j = none) : Ct l X b0 lo en yX4_init cX4_init 1 none (rN 2 7 126 100) [.ref a] (fun v lo' en' => v = none ∧ lo' 0 = lo 0 ∧ (∀ j, 1000 ≤ j → lo' j = lo j) ∧ en' = enC X lo' L0 K0 C0 en) := by
  refine gMet (by decide) (Nat.le_of_ble_eq_true rfl) rfl ?_
  intro Z hC hI hR
  rw [← eup_id he]
  have hf : ∀ j, 0 < j → en j = none := hn
  have hlw : ∀ j, j = 0 ∨ 8 ≤ j → lo j = lo j := fun _ _ => rfl
  refine g_aload_n hC dX4_init_0 rfl ?_
  refine g_objInit hC km_X4_1 (by rw [hC.2.2.1]; decide) (by rw [hC.2.2.1]; exact Nat.le_of_ble_eq_true rfl) dX4_init_1 ?_
  refine g_aload_n hC dX4_init_4 rfl ?_
  refine g_bipush (v := 10) hC dX4_init_5 (by decide) ?_
  refine g_newI hC (1) (by rw [eup_ne (by omega)]; exact hf 1 (by decide)) (n := 10) rfl (by decide) (by rw [hC.2.2.1]; decide) (by rw [hC.2.2.1]; decide) dX4_init_7 (fun q88 l88 e88 hl88 he88 => ?_)
  replace he88 := he88.trans (eup_comm (by omega))
  obtain ⟨B89, hB89⟩ : ∃ z : gE, z = eup en (1) (.inl (X.2 0, 10, .inl (fun _ => 0))) := ⟨_, rfl⟩
  rw [← hB89] at he88
  subst he88
  replace ha : a = l88 (0) := by rw [hl88, lup_ne (by omega)]; exact ha
  replace hf : ∀ j, 1 < j → B89 j = none := fun j hj => by rw [hB89, eup_ne (by omega)]; exact hf j (by omega)
  replace hlw : ∀ j, j = 0 ∨ 8 ≤ j → l88 j = lo j := fun j hj => (congrFun hl88 j).trans ((lup_ne (by omega)).trans (hlw j hj))
  have hb1 : B89 1 = some (.inl (X.2 0, 10, .inl (fun _ => 0))) := by rw [hB89, eup_eq]
  have hq1 : l88 1 = q88 := by rw [hl88, lup_eq]
  refine g_putF (ty := .array .int) hC ha eup_eq rfl kl_X4 0 (by decide) kf_X4_9 rfl tyX4 tyX4_ok nmX4 rfl (hI rfl) rfl (by decide +kernel) rfl rfl (Nat.le_of_ble_eq_true rfl) dX4_init_9 (fun e90 he90 => ?_)
  replace he90 : e90 = eup B89 0 (.inr (4, [.ref q88, .int 0, .int 0, .int 0, .null, .int 0, .null, .int 0, .null, .null, .null])) := he90.trans eup_eup
  subst he90
  refine g_aload_n hC dX4_init_12 rfl ?_
  refine g_iconst (v := 0) hC dX4_init_13 (by decide) ?_
  refine g_put (ty := .int) hC ha eup_eq rfl kl_X4 1 (by decide) kf_X4_13 rfl tyX4 tyX4_ok nmX4 rfl (by decide +kernel) rfl rfl (Nat.le_of_ble_eq_true rfl) dX4_init_14 (fun e91 he91 => ?_)
  replace he91 : e91 = eup B89 0 (.inr (4, [.ref q88, .int 0, .int 0, .int 0, .null, .int 0, .null, .int 0, .null, .null, .null])) := he91.trans eup_eup
  subst he91
  refine g_aload_n hC dX4_init_17 rfl ?_
  refine g_iconst (v := 5) hC dX4_init_18 (by decide) ?_
  refine g_put (ty := .int) hC ha eup_eq rfl kl_X4 2 (by decide) kf_X4_17 rfl tyX4 tyX4_ok nmX4 rfl (by decide +kernel) rfl rfl (Nat.le_of_ble_eq_true rfl) dX4_init_19 (fun e92 he92 => ?_)
  replace he92 : e92 = eup B89 0 (.inr (4, [.ref q88, .int 0, .int 5, .int 0, .null, .int 0, .null, .int 0, .null, .null, .null])) := he92.trans eup_eup
  subst he92
  refine g_aload_n hC dX4_init_22 rfl ?_
  refine g_bipush (v := 20) hC dX4_init_23 (by decide) ?_
  refine g_put (ty := .int) hC ha eup_eq rfl kl_X4 3 (by decide) kf_X4_20 rfl tyX4 tyX4_ok nmX4 rfl (by decide +kernel) rfl rfl (Nat.le_of_ble_eq_true rfl) dX4_init_25 (fun e93 he93 => ?_)
  replace he93 : e93 = eup B89 0 (.inr (4, [.ref q88, .int 0, .int 5, .int 20, .null, .int 0, .null, .int 0, .null, .null, .null])) := he93.trans eup_eup
  subst he93
  refine g_aload_n hC dX4_init_28 rfl ?_
  refine g_bipush (v := 10) hC dX4_init_29 (by decide) ?_
  refine g_newQ (t0 := 1) hC (2) (by rw [eup_ne (by omega)]; exact hf 2 (by decide)) kk_X4_23 hC.2.1.2.2.2.2.1 rfl (n := 10) rfl (by decide) (by rw [hC.2.2.1]; decide) (by rw [hC.2.2.1]; decide) dX4_init_31 (fun q94 l94 e94 hl94 he94 => ?_)
  replace he94 := he94.trans (eup_comm (by omega))
  obtain ⟨B95, hB95⟩ : ∃ z : gE, z = eup B89 (2) (.inl (X.2 1, 10, .inr (.inr (.inr (.inr (fun _ => none)))))) := ⟨_, rfl⟩
  rw [← hB95] at he94
  subst he94
  replace ha : a = l94 (0) := by rw [hl94, lup_ne (by omega)]; exact ha
  replace hf : ∀ j, 2 < j → B95 j = none := fun j hj => by rw [hB95, eup_ne (by omega)]; exact hf j (by omega)
  replace hlw : ∀ j, j = 0 ∨ 8 ≤ j → l94 j = lo j := fun j hj => (congrFun hl94 j).trans ((lup_ne (by omega)).trans (hlw j hj))
  replace hb1 := (by rw [hB95, eup_ne (by decide)]; exact hb1 : B95 1 = some (.inl (X.2 0, 10, .inl (fun _ => 0))))
  replace hq1 := (by rw [hl94, lup_ne (by decide)]; exact hq1 : l94 1 = q88)
  have hb2 : B95 2 = some (.inl (X.2 1, 10, .inr (.inr (.inr (.inr (fun _ => none)))))) := by rw [hB95, eup_eq]
  have hq2 : l94 2 = q94 := by rw [hl94, lup_eq]
  refine g_putF (ty := .array (.object "MouldMatcher$Mould")) hC ha eup_eq rfl kl_X4 4 (by decide) kf_X4_25 rfl tyX4 tyX4_ok nmX4 rfl (hI rfl) rfl (by decide +kernel) rfl rfl (Nat.le_of_ble_eq_true rfl) dX4_init_34 (fun e96 he96 => ?_)
  replace he96 : e96 = eup B95 0 (.inr (4, [.ref q88, .int 0, .int 5, .int 20, .ref q94, .int 0, .null, .int 0, .null, .null, .null])) := he96.trans eup_eup
  subst he96
  refine g_aload_n hC dX4_init_37 rfl ?_
  refine g_iconst (v := 0) hC dX4_init_38 (by decide) ?_
  refine g_put (ty := .int) hC ha eup_eq rfl kl_X4 5 (by decide) kf_X4_29 rfl tyX4 tyX4_ok nmX4 rfl (by decide +kernel) rfl rfl (Nat.le_of_ble_eq_true rfl) dX4_init_39 (fun e97 he97 => ?_)
  replace he97 : e97 = eup B95 0 (.inr (4, [.ref q88, .int 0, .int 5, .int 20, .ref q94, .int 0, .null, .int 0, .null, .null, .null])) := he97.trans eup_eup
  subst he97
  refine g_aload_n hC dX4_init_42 rfl ?_
  refine g_bipush (v := 30) hC dX4_init_43 (by decide) ?_
  refine g_newQ (t0 := 2) hC (3) (by rw [eup_ne (by omega)]; exact hf 3 (by decide)) kk_X4_32 hC.2.1.2.2.2.2.2.1 rfl (n := 30) rfl (by decide) (by rw [hC.2.2.1]; decide) (by rw [hC.2.2.1]; decide) dX4_init_45 (fun q98 l98 e98 hl98 he98 => ?_)
  replace he98 := he98.trans (eup_comm (by omega))
  obtain ⟨B99, hB99⟩ : ∃ z : gE, z = eup B95 (3) (.inl (X.2 2, 30, .inr (.inr (.inr (.inr (fun _ => none)))))) := ⟨_, rfl⟩
  rw [← hB99] at he98
  subst he98
  replace ha : a = l98 (0) := by rw [hl98, lup_ne (by omega)]; exact ha
  replace hf : ∀ j, 3 < j → B99 j = none := fun j hj => by rw [hB99, eup_ne (by omega)]; exact hf j (by omega)
  replace hlw : ∀ j, j = 0 ∨ 8 ≤ j → l98 j = lo j := fun j hj => (congrFun hl98 j).trans ((lup_ne (by omega)).trans (hlw j hj))
  replace hb1 := (by rw [hB99, eup_ne (by decide)]; exact hb1 : B99 1 = some (.inl (X.2 0, 10, .inl (fun _ => 0))))
  replace hq1 := (by rw [hl98, lup_ne (by decide)]; exact hq1 : l98 1 = q88)
  replace hb2 := (by rw [hB99, eup_ne (by decide)]; exact hb2 : B99 2 = some (.inl (X.2 1, 10, .inr (.inr (.inr (.inr (fun _ => none)))))))
  replace hq2 := (by rw [hl98, lup_ne (by decide)]; exact hq2 : l98 2 = q94)
  have hb3 : B99 3 = some (.inl (X.2 2, 30, .inr (.inr (.inr (.inr (fun _ => none)))))) := by rw [hB99, eup_eq]
  have hq3 : l98 3 = q98 := by rw [hl98, lup_eq]
  refine g_putF (ty := .array (.object "MouldMatcher$Sheet")) hC ha eup_eq rfl kl_X4 6 (by decide) kf_X4_34 rfl tyX4 tyX4_ok nmX4 rfl (hI rfl) rfl (by decide +kernel) rfl rfl (Nat.le_of_ble_eq_true rfl) dX4_init_48 (fun e100 he100 => ?_)
  replace he100 : e100 = eup B99 0 (.inr (4, [.ref q88, .int 0, .int 5, .int 20, .ref q94, .int 0, .ref q98, .int 0, .null, .null, .null])) := he100.trans eup_eup
  subst he100
  refine g_aload_n hC dX4_init_51 rfl ?_
  refine g_iconst (v := 0) hC dX4_init_52 (by decide) ?_
  refine g_put (ty := .int) hC ha eup_eq rfl kl_X4 7 (by decide) kf_X4_38 rfl tyX4 tyX4_ok nmX4 rfl (by decide +kernel) rfl rfl (Nat.le_of_ble_eq_true rfl) dX4_init_53 (fun e101 he101 => ?_)
  replace he101 : e101 = eup B99 0 (.inr (4, [.ref q88, .int 0, .int 5, .int 20, .ref q94, .int 0, .ref q98, .int 0, .null, .null, .null])) := he101.trans eup_eup
  subst he101
  refine g_aload_n hC dX4_init_56 rfl ?_
  refine g_new (ci := 3) hC 4 (by rw [eup_ne (by decide)]; exact hf 4 (by decide)) rfl kl_X3 tyX3 tyX3_ok kk_X4_41 kn_X3 kz_X3 zX3 dfX3 (by rw [hC.2.2.1]; decide) (by rw [hC.2.2.1]; decide) dX4_init_57 (fun qv lv1 ev1 hlv1 hev1 => ?_)
  refine g_dup hC dX4_init_60 rfl ?_
  refine g_callIN hC v_X3_init hC.2.1.2.1 (c_X3_init l X b0 lv1 ev1 4 5 qv (by rw [hlv1, lup_eq]) (by rw [hev1, eup_eq]) (by decide) (by rw [hev1, eup_ne (by decide), eup_ne (by decide)]; exact hf 5 (by decide))) rfl rfl (Nat.le_of_ble_eq_true rfl) ⟨by decide, by decide⟩ ⟨by decide, by decide⟩ dX4_init_61 (fun v lv2 ev2 hp => ?_)
  obtain ⟨hv, qs, hlv2, hev2⟩ := hp
  subst hv
  rw [hlv1] at hlv2
  obtain ⟨BV, hBV⟩ : ∃ z : gE, z = eup (eup B99 5 (.inl (X.2 0, 10, .inl (fun _ => 0)))) 4 (.inr (3, [.ref qs, .int 0, .int 0, .int (-1), .int 0, .int 0])) := ⟨_, rfl⟩
  replace hev2 : ev2 = eup BV 0 (.inr (4, [.ref q88, .int 0, .int 5, .int 20, .ref q94, .int 0, .ref q98, .int 0, .null, .null, .null])) := by rw [hev2, hev1, eup_comm (a := 4) (b := 5) (by decide), eup_eup, eup_comm (a := 0) (b := 5) (by decide), eup_comm (a := 0) (b := 4) (by decide), hBV]
  subst hev2
  replace ha : a = lv2 0 := by rw [hlv2, lup_ne (by decide), lup_ne (by decide)]; exact ha
  replace hf : ∀ j, 5 < j → BV j = none := fun j hj => by rw [hBV, eup_ne (by omega), eup_ne (by omega)]; exact hf j (by omega)
  replace hlw : ∀ j, j = 0 ∨ 8 ≤ j → lv2 j = lo j := fun j hj => (congrFun hlv2 j).trans ((lup_ne (by omega)).trans ((lup_ne (by omega)).trans (hlw j hj)))
  replace hb1 := (by rw [hBV, eup_ne (by decide), eup_ne (by decide)]; exact hb1 : BV 1 = some (.inl (X.2 0, 10, .inl (fun _ => 0))))
  replace hq1 := (by rw [hlv2, lup_ne (by decide), lup_ne (by decide)]; exact hq1 : lv2 1 = q88)
  replace hb2 := (by rw [hBV, eup_ne (by decide), eup_ne (by decide)]; exact hb2 : BV 2 = some (.inl (X.2 1, 10, .inr (.inr (.inr (.inr (fun _ => none)))))))
  replace hq2 := (by rw [hlv2, lup_ne (by decide), lup_ne (by decide)]; exact hq2 : lv2 2 = q94)
  replace hb3 := (by rw [hBV, eup_ne (by decide), eup_ne (by decide)]; exact hb3 : BV 3 = some (.inl (X.2 2, 30, .inr (.inr (.inr (.inr (fun _ => none)))))))
  replace hq3 := (by rw [hlv2, lup_ne (by decide), lup_ne (by decide)]; exact hq3 : lv2 3 = q98)
  have hb4 : BV 4 = some (.inr (3, [.ref qs, .int 0, .int 0, .int (-1), .int 0, .int 0])) := by rw [hBV, eup_eq]
  have hb5 : BV 5 = some (.inl (X.2 0, 10, .inl (fun _ => 0))) := by rw [hBV, eup_ne (by decide), eup_eq]
  have hq4 : lv2 4 = qv := by rw [hlv2, lup_ne (by decide), lup_eq]
  have hq5 : lv2 5 = qs := by rw [hlv2, lup_eq]
  refine g_putF (ty := .object "MouldMatcher$View") hC ha eup_eq rfl kl_X4 8 (by decide) kf_X4_44 rfl tyX4 tyX4_ok nmX4 rfl (hI rfl) rfl (by decide +kernel) rfl rfl (Nat.le_of_ble_eq_true rfl) dX4_init_64 (fun e102 he102 => ?_)
  replace he102 : e102 = eup BV 0 (.inr (4, [.ref q88, .int 0, .int 5, .int 20, .ref q94, .int 0, .ref q98, .int 0, .ref qv, .null, .null])) := he102.trans eup_eup
  subst he102
  refine g_aload_n hC dX4_init_67 rfl ?_
  refine g_bipush (v := 30) hC dX4_init_68 (by decide) ?_
  refine g_newI hC (6) (by rw [eup_ne (by omega)]; exact hf 6 (by decide)) (n := 30) rfl (by decide) (by rw [hC.2.2.1]; decide) (by rw [hC.2.2.1]; decide) dX4_init_70 (fun q103 l103 e103 hl103 he103 => ?_)
  replace he103 := he103.trans (eup_comm (by omega))
  obtain ⟨B104, hB104⟩ : ∃ z : gE, z = eup BV (6) (.inl (X.2 0, 30, .inl (fun _ => 0))) := ⟨_, rfl⟩
  rw [← hB104] at he103
  subst he103
  replace ha : a = l103 (0) := by rw [hl103, lup_ne (by omega)]; exact ha
  replace hf : ∀ j, 6 < j → B104 j = none := fun j hj => by rw [hB104, eup_ne (by omega)]; exact hf j (by omega)
  replace hlw : ∀ j, j = 0 ∨ 8 ≤ j → l103 j = lo j := fun j hj => (congrFun hl103 j).trans ((lup_ne (by omega)).trans (hlw j hj))
  replace hb1 := (by rw [hB104, eup_ne (by decide)]; exact hb1 : B104 1 = some (.inl (X.2 0, 10, .inl (fun _ => 0))))
  replace hq1 := (by rw [hl103, lup_ne (by decide)]; exact hq1 : l103 1 = q88)
  replace hb2 := (by rw [hB104, eup_ne (by decide)]; exact hb2 : B104 2 = some (.inl (X.2 1, 10, .inr (.inr (.inr (.inr (fun _ => none)))))))
  replace hq2 := (by rw [hl103, lup_ne (by decide)]; exact hq2 : l103 2 = q94)
  replace hb3 := (by rw [hB104, eup_ne (by decide)]; exact hb3 : B104 3 = some (.inl (X.2 2, 30, .inr (.inr (.inr (.inr (fun _ => none)))))))
  replace hq3 := (by rw [hl103, lup_ne (by decide)]; exact hq3 : l103 3 = q98)
  replace hb4 := (by rw [hB104, eup_ne (by decide)]; exact hb4 : B104 4 = some (.inr (3, [.ref qs, .int 0, .int 0, .int (-1), .int 0, .int 0])))
  replace hq4 := (by rw [hl103, lup_ne (by decide)]; exact hq4 : l103 4 = qv)
  replace hb5 := (by rw [hB104, eup_ne (by decide)]; exact hb5 : B104 5 = some (.inl (X.2 0, 10, .inl (fun _ => 0))))
  replace hq5 := (by rw [hl103, lup_ne (by decide)]; exact hq5 : l103 5 = qs)
  have hb6 : B104 6 = some (.inl (X.2 0, 30, .inl (fun _ => 0))) := by rw [hB104, eup_eq]
  have hq6 : l103 6 = q103 := by rw [hl103, lup_eq]
  refine g_putF (ty := .array .int) hC ha eup_eq rfl kl_X4 9 (by decide) kf_X4_48 rfl tyX4 tyX4_ok nmX4 rfl (hI rfl) rfl (by decide +kernel) rfl rfl (Nat.le_of_ble_eq_true rfl) dX4_init_72 (fun e105 he105 => ?_)
  replace he105 : e105 = eup B104 0 (.inr (4, [.ref q88, .int 0, .int 5, .int 20, .ref q94, .int 0, .ref q98, .int 0, .ref qv, .ref q103, .null])) := he105.trans eup_eup
  subst he105
  refine g_aload_n hC dX4_init_75 rfl ?_
  refine g_bipush (v := 30) hC dX4_init_76 (by decide) ?_
  refine g_newI hC (7) (by rw [eup_ne (by omega)]; exact hf 7 (by decide)) (n := 30) rfl (by decide) (by rw [hC.2.2.1]; decide) (by rw [hC.2.2.1]; decide) dX4_init_78 (fun q106 l106 e106 hl106 he106 => ?_)
  replace he106 := he106.trans (eup_comm (by omega))
  obtain ⟨B107, hB107⟩ : ∃ z : gE, z = eup B104 (7) (.inl (X.2 0, 30, .inl (fun _ => 0))) := ⟨_, rfl⟩
  rw [← hB107] at he106
  subst he106
  replace ha : a = l106 (0) := by rw [hl106, lup_ne (by omega)]; exact ha
  replace hf : ∀ j, 7 < j → B107 j = none := fun j hj => by rw [hB107, eup_ne (by omega)]; exact hf j (by omega)
  replace hlw : ∀ j, j = 0 ∨ 8 ≤ j → l106 j = lo j := fun j hj => (congrFun hl106 j).trans ((lup_ne (by omega)).trans (hlw j hj))
  replace hb1 := (by rw [hB107, eup_ne (by decide)]; exact hb1 : B107 1 = some (.inl (X.2 0, 10, .inl (fun _ => 0))))
  replace hq1 := (by rw [hl106, lup_ne (by decide)]; exact hq1 : l106 1 = q88)
  replace hb2 := (by rw [hB107, eup_ne (by decide)]; exact hb2 : B107 2 = some (.inl (X.2 1, 10, .inr (.inr (.inr (.inr (fun _ => none)))))))
  replace hq2 := (by rw [hl106, lup_ne (by decide)]; exact hq2 : l106 2 = q94)
  replace hb3 := (by rw [hB107, eup_ne (by decide)]; exact hb3 : B107 3 = some (.inl (X.2 2, 30, .inr (.inr (.inr (.inr (fun _ => none)))))))
  replace hq3 := (by rw [hl106, lup_ne (by decide)]; exact hq3 : l106 3 = q98)
  replace hb4 := (by rw [hB107, eup_ne (by decide)]; exact hb4 : B107 4 = some (.inr (3, [.ref qs, .int 0, .int 0, .int (-1), .int 0, .int 0])))
  replace hq4 := (by rw [hl106, lup_ne (by decide)]; exact hq4 : l106 4 = qv)
  replace hb5 := (by rw [hB107, eup_ne (by decide)]; exact hb5 : B107 5 = some (.inl (X.2 0, 10, .inl (fun _ => 0))))
  replace hq5 := (by rw [hl106, lup_ne (by decide)]; exact hq5 : l106 5 = qs)
  replace hb6 := (by rw [hB107, eup_ne (by decide)]; exact hb6 : B107 6 = some (.inl (X.2 0, 30, .inl (fun _ => 0))))
  replace hq6 := (by rw [hl106, lup_ne (by decide)]; exact hq6 : l106 6 = q103)
  have hb7 : B107 7 = some (.inl (X.2 0, 30, .inl (fun _ => 0))) := by rw [hB107, eup_eq]
  have hq7 : l106 7 = q106 := by rw [hl106, lup_eq]
  refine g_putF (ty := .array .int) hC ha eup_eq rfl kl_X4 10 (by decide) kf_X4_51 rfl tyX4 tyX4_ok nmX4 rfl (hI rfl) rfl (by decide +kernel) rfl rfl (Nat.le_of_ble_eq_true rfl) dX4_init_80 (fun e108 he108 => ?_)
  replace he108 : e108 = eup B107 0 (.inr (4, [.ref q88, .int 0, .int 5, .int 20, .ref q94, .int 0, .ref q98, .int 0, .ref qv, .ref q103, .ref q106])) := he108.trans eup_eup
  subst he108
  refine g_less (lo1 := l106) (en1 := enC X l106 L0 K0 C0 en) ?_ (g_retv hR dX4_init_83 ⟨rfl, hlw 0 (Or.inl rfl), fun j hj => hlw j (Or.inr (by omega)), rfl⟩)
  refine enC_all (fun j e hj h => absurd (hn j (by omega)) (by rw [h]; exact fun z => by cases z)) ⟨?_, rfl⟩ ⟨?_, rfl⟩ ⟨?_, rfl⟩ ⟨?_, rfl⟩ ⟨?_, rfl⟩ ⟨?_, rfl⟩ ⟨?_, rfl⟩ ⟨?_, rfl⟩ (fun i hi => absurd hi (Nat.not_lt_zero _)) (fun i hi => absurd hi (Nat.not_lt_zero _))
  · rw [eup_eq]; unfold oC; rw [hq1, hq2, hq3, hq4, hq6, hq7]; rfl
  · rw [eup_ne (by decide), hb1, K0_row (by decide)]
  · rw [eup_ne (by decide), hb2]; rfl
  · rw [eup_ne (by decide), hb3]; rfl
  · rw [eup_ne (by decide), hb4]; unfold oV; rw [hq5]; rfl
  · rw [eup_ne (by decide), hb5, C0_row (by decide)]
  · rw [eup_ne (by decide), hb6, C0_row (by decide)]
  · rw [eup_ne (by decide), hb7, C0_row (by decide)]
