/-! ===== leaves ===== -/

set_option maxHeartbeats 4000000 in
set_option maxRecDepth 100000 in
theorem c_X4_isWithin (l : Launch) (X : gX) (b0 : Nat) (lo : gL) (en : gE) (v a b : Int32) : Ct l X b0 lo (en) yX4_isWithin cX4_isWithin 3 (some FieldType.boolean) (rM 0 0) [.int v, .int a, .int b] (pX (.int (wi v a b)) lo en) := by
  refine gMet (by decide) (Nat.le_of_ble_eq_true rfl) rfl ?_
  intro Z hC hI hR
  refine g_iload_n hC dX4_isWithin_0 rfl ?_
  refine g_iload_n hC dX4_isWithin_1 rfl ?_
  refine g_icmp_lt (tgt := 14) hC dX4_isWithin_2 (by decide) (fun c2 => ?_) (fun c2 => ?_)
  · refine g_iconst (v := 0) hC dX4_isWithin_14 (by decide) ?_
    refine g_ireti hR dX4_isWithin_15 (by decide) ?_
    clear hR hC hI
    refine pXi ?_
    grind [wi, ap]
  · refine g_iload_n hC dX4_isWithin_5 rfl ?_
    refine g_iload_n hC dX4_isWithin_6 rfl ?_
    refine g_icmp_gt (tgt := 14) hC dX4_isWithin_7 (by decide) (fun c7 => ?_) (fun c7 => ?_)
    · refine g_iconst (v := 0) hC dX4_isWithin_14 (by decide) ?_
      refine g_ireti hR dX4_isWithin_15 (by decide) ?_
      clear hR hC hI
      refine pXi ?_
      grind [wi, ap]
    · refine g_iconst (v := 1) hC dX4_isWithin_10 (by decide) ?_
      refine g_goto (tgt := 15) hC dX4_isWithin_11 (by decide) ?_
      refine g_ireti hR dX4_isWithin_15 (by decide) ?_
      clear hR hC hI
      refine pXi ?_
      grind [wi, ap]

set_option maxHeartbeats 4000000 in
set_option maxRecDepth 100000 in
theorem c_X5_within (l : Launch) (X : gX) (b0 : Nat) (lo : gL) (en : gE) (v a b : Int32) : Ct l X b0 lo (en) yX5_within cX5_within 3 (some FieldType.boolean) (rM 0 0) [.int v, .int a, .int b] (pX (.int (wi v a b)) lo en) := by
  refine gMet (by decide) (Nat.le_of_ble_eq_true rfl) rfl ?_
  intro Z hC hI hR
  refine g_iload_n hC dX5_within_0 rfl ?_
  refine g_iload_n hC dX5_within_1 rfl ?_
  refine g_icmp_lt (tgt := 14) hC dX5_within_2 (by decide) (fun c2 => ?_) (fun c2 => ?_)
  · refine g_iconst (v := 0) hC dX5_within_14 (by decide) ?_
    refine g_ireti hR dX5_within_15 (by decide) ?_
    clear hR hC hI
    refine pXi ?_
    grind [wi, ap]
  · refine g_iload_n hC dX5_within_5 rfl ?_
    refine g_iload_n hC dX5_within_6 rfl ?_
    refine g_icmp_gt (tgt := 14) hC dX5_within_7 (by decide) (fun c7 => ?_) (fun c7 => ?_)
    · refine g_iconst (v := 0) hC dX5_within_14 (by decide) ?_
      refine g_ireti hR dX5_within_15 (by decide) ?_
      clear hR hC hI
      refine pXi ?_
      grind [wi, ap]
    · refine g_iconst (v := 1) hC dX5_within_10 (by decide) ?_
      refine g_goto (tgt := 15) hC dX5_within_11 (by decide) ?_
      refine g_ireti hR dX5_within_15 (by decide) ?_
      clear hR hC hI
      refine pXi ?_
      grind [wi, ap]

set_option maxHeartbeats 4000000 in
set_option maxRecDepth 100000 in
theorem c_X5_apart (l : Launch) (X : gX) (b0 : Nat) (lo : gL) (en : gE) (a b : Int32) : Ct l X b0 lo (en) yX5_apart cX5_apart 2 (some FieldType.int) (rM 0 0) [.int a, .int b] (pX (.int (ap a b)) lo en) := by
  refine gMet (by decide) (Nat.le_of_ble_eq_true rfl) rfl ?_
  intro Z hC hI hR
  refine g_iload_n hC dX5_apart_0 rfl ?_
  refine g_iload_n hC dX5_apart_1 rfl ?_
  refine g_icmp_le (tgt := 11) hC dX5_apart_2 (by decide) (fun c2 => ?_) (fun c2 => ?_)
  · refine g_iload_n hC dX5_apart_11 rfl ?_
    refine g_iload_n hC dX5_apart_12 rfl ?_
    refine g_isub hC dX5_apart_13 ?_
    refine g_ireti hR dX5_apart_14 rfl ?_
    clear hR hC hI
    refine pXi ?_
    grind [wi, ap]
  · refine g_iload_n hC dX5_apart_5 rfl ?_
    refine g_iload_n hC dX5_apart_6 rfl ?_
    refine g_isub hC dX5_apart_7 ?_
    refine g_goto (tgt := 14) hC dX5_apart_8 (by decide) ?_
    refine g_ireti hR dX5_apart_14 rfl ?_
    clear hR hC hI
    refine pXi ?_
    grind [wi, ap]

set_option maxHeartbeats 4000000 in
set_option maxRecDepth 100000 in
theorem c_X4_isPosition (l : Launch) (X : gX) (b0 : Nat) (lo : gL) (en : gE) (w x y : Int32) : Ct l X b0 lo (en) yX4_isPosition cX4_isPosition 3 (some FieldType.boolean) (rM 1 22) [.int w, .int x, .int y] (pX (.int (if wi x 0 w = 1 ∧ wi y 0 300 = 1 then 1 else 0)) lo en) := by
  refine gMet (by decide) (Nat.le_of_ble_eq_true rfl) rfl ?_
  intro Z hC hI hR
  refine g_iload_n hC dX4_isPosition_0 rfl ?_
  refine g_iconst (v := 0) hC dX4_isPosition_1 (by decide) ?_
  refine g_iload_n hC dX4_isPosition_2 rfl ?_
  refine g_callS hC v_X4_isWithin km_X4_54 (c_X4_isWithin l X b0 lo _ _ _ _) rfl rfl (Nat.le_of_ble_eq_true rfl) ⟨by decide, by decide⟩ ⟨by decide, by decide⟩ dX4_isPosition_3 (kX ?_)
  refine g_if_eq (tgt := 24) hC dX4_isPosition_6 (by decide) (fun c6 => ?_) (fun c6 => ?_)
  · refine g_iconst (v := 0) hC dX4_isPosition_24 (by decide) ?_
    refine g_ireti hR dX4_isPosition_25 (by decide) ?_
    clear hR hC hI
    refine pXi ?_
    grind [wi, ap]
  · refine g_iload_n hC dX4_isPosition_9 rfl ?_
    refine g_iconst (v := 0) hC dX4_isPosition_10 (by decide) ?_
    refine g_sipush (v := 300) hC dX4_isPosition_11 (by decide) ?_
    refine g_callS hC v_X4_isWithin km_X4_54 (c_X4_isWithin l X b0 lo _ _ _ _) rfl rfl (Nat.le_of_ble_eq_true rfl) ⟨by decide, by decide⟩ ⟨by decide, by decide⟩ dX4_isPosition_14 (kX ?_)
    refine g_if_eq (tgt := 24) hC dX4_isPosition_17 (by decide) (fun c17 => ?_) (fun c17 => ?_)
    · refine g_iconst (v := 0) hC dX4_isPosition_24 (by decide) ?_
      refine g_ireti hR dX4_isPosition_25 (by decide) ?_
      clear hR hC hI
      refine pXi ?_
      grind [wi, ap]
    · refine g_iconst (v := 1) hC dX4_isPosition_20 (by decide) ?_
      refine g_goto (tgt := 25) hC dX4_isPosition_21 (by decide) ?_
      refine g_ireti hR dX4_isPosition_25 (by decide) ?_
      clear hR hC hI
      refine pXi ?_
      grind [wi, ap]
