/-! ===== the law: what the tables say, rows over the script, the two worlds side by side ===== -/
theorem lIn {w : Cond} (i : Nat) (h : lw_tbl[i]? = some w) : w ∈ lw_tbl := List.mem_of_getElem? h
theorem lw_m54 : Cond.arrayOver (.object RX1) ∈ lw_tbl := lIn 54 (by decide +kernel)
theorem lw_m56 : Cond.arrayOver (.object RX2) ∈ lw_tbl := lIn 56 (by decide +kernel)
theorem lw_m251 : Cond.arrayOver (.object RX0) ∈ lw_tbl := lIn 251 (by decide +kernel)
theorem lw_m59 : Cond.methodLinkNest RX4 43 yX3_init RX4 ∈ lw_tbl := lIn 59 (by decide +kernel)
theorem lw_m253 : Cond.methodLinkNest RX2 37 yX0_init RX4 ∈ lw_tbl := lIn 253 (by decide +kernel)
theorem lw_m162 : Cond.castable "[I" "java/lang/Cloneable" ∈ lw_tbl := lIn 162 (by decide +kernel)
theorem ao_start {C : String} {U : State} (h : va_AO C U) : ∃ cA : ClassId, ArrOfT U cA (.object C) ∧ va_RA U cA (.object C) := by
  obtain ⟨comp, c, k, h1, h2, h3, h4, h5⟩ := Cond.arrayOver_spec h
  exact ⟨c, fun n z => ⟨fun k h => (by cases h), k, h3, comp, h4⟩, k, comp, h3, h4, h1, h5⟩
theorem ai_start {A : Array Value} {U : State} (h : (Cond.arrayClass .int).before A U = true) : ∃ cA : ClassId, ArrOfT U cA .int ∧ va_RA U cA .int := by
  obtain ⟨c, k, comp, h1, h2, h3⟩ := Cond.arrayClass_spec h
  exact ⟨c, fun n z => ⟨fun k h => (by cases h), k, h2, comp, h3⟩, h1⟩
theorem gK_start {s : State} {A : Array Value} (hts : ∀ w ∈ lw_tbl, w.before A s = true) : ∃ X : gX, gK X s := by
  have htg : ∀ w ∈ gAll, w.before A s = true := fun w h => hts w (List.mem_filter.mp h).1
  obtain ⟨c0, i0, h0⟩ := u_known (C := RX0) (T := TX0) (N := 7) (n := 7) htg kl_X0 (htg _ kn_X0)
  obtain ⟨c1, i1, h1⟩ := u_known (C := RX1) (T := TX1) (N := 6) (n := 6) htg kl_X1 (htg _ kn_X1)
  obtain ⟨c2, i2, h2⟩ := u_known (C := RX2) (T := TX2) (N := 7) (n := 7) htg kl_X2 (htg _ kn_X2)
  obtain ⟨c3, i3, h3⟩ := u_known (C := RX3) (T := TX3) (N := 6) (n := 6) htg kl_X3 (htg _ kn_X3)
  obtain ⟨c4, i4, h4⟩ := u_known (C := RX4) (T := TX4) (N := 11) (n := 11) htg kl_X4 (htg _ kn_X4)
  obtain ⟨c5, i5, h5⟩ := u_known (C := RX5) (T := TX5) (N := 28) (n := 28) htg kl_X5 (htg _ kn_X5)
  have a1 : va_AO RX1 s := va_AO.of (hts _ lw_m54)
  have a2 : va_AO RX2 s := va_AO.of (hts _ lw_m56)
  have a3 : va_AO RX0 s := va_AO.of (hts _ lw_m251)
  obtain ⟨y0, hy0⟩ := ai_start (htg _ ka_int)
  obtain ⟨y1, hy1⟩ := ao_start a1
  obtain ⟨y2, hy2⟩ := ao_start a2
  obtain ⟨y3, hy3⟩ := ao_start a3
  obtain ⟨dC, dI, hKc⟩ : ∃ (dC : Nat → ClassId) (dI : Nat → Nat → Nat), ∀ (k : Nat) (q : vw_C), vwCl[k]? = some q → u_Kn s q.1 q.2.1 q.2.2 (dC k) (dI k) := by
    refine ⟨fun k => match k with | 0 => c0 | 1 => c1 | 2 => c2 | 3 => c3 | 4 => c4 | _ => c5, fun k => match k with | 0 => i0 | 1 => i1 | 2 => i2 | 3 => i3 | 4 => i4 | _ => i5, ?_⟩
    intro k q hq
    match k, hq with
    | 0, hq => cases hq; exact h0
    | 1, hq => cases hq; exact h1
    | 2, hq => cases hq; exact h2
    | 3, hq => cases hq; exact h3
    | 4, hq => cases hq; exact h4
    | 5, hq => cases hq; exact h5
    | k + 6, hq => simp [vwCl] at hq
  obtain ⟨Y, e0, e1, e2, e3⟩ : ∃ Y : Nat → ClassId, Y 0 = y0 ∧ Y 1 = y1 ∧ Y 2 = y2 ∧ Y 3 = y3 := ⟨fun k => match k with | 0 => y0 | 1 => y1 | 2 => y2 | _ => y3, rfl, rfl, rfl, rfl⟩
  refine ⟨((dC, dI), Y), ⟨hKc, ?_⟩, va_Nw.of rfl (hts _ lw_m59), va_Nw.of rfl (hts _ lw_m253), va_Nw.of rfl (hts _ lw_m162), a1, a2, a3⟩
  intro k q hq
  match k, hq with
  | 0, hq => cases hq; rw [← e0] at hy0; exact hy0
  | 1, hq => cases hq; rw [← e1] at hy1; exact hy1
  | 2, hq => cases hq; rw [← e2] at hy2; exact hy2
  | 3, hq => cases hq; rw [← e3] at hy3; exact hy3
  | k + 4, hq => simp [g_tys] at hq
section LROWS
variable {l : Launch} {X : gX} {b0 : Nat} {Z : gZ} {cells slots : Nat} {lo : gL} {en : gE} {pc : Nat} {lv : List (Nat × Value)} {rest : List Value} {rm : Room} {cc : ByteArray} {nL : Nat} {own : String} {ret : Option FieldType}
theorem g_slen (hC : MC X Z rm cc nL own ret) {b L : Nat} {xs : Nat → Int32} (hX : va_X b L xs (zs Z) (zs Z).heap) (hbl : b < (zs Z).heap.size) (hb0 : ¬ b0 ≤ b) (d : decode cc pc = .ok (.arraylength, 1)) (kk : GO l X b0 Z cells slots lo en (pc + 1) lv (.int (nI L) :: rest)) : GO l X b0 Z cells slots lo en pc lv (.ref b :: rest) := fun H locs ls hS hW hl => va_slen hC.1.1 hC.1.2.1 hX hbl hb0 hS d (kk H locs ls hS hW hl)
theorem g_sld (hC : MC X Z rm cc nL own ret) {b L : Nat} {xs : Nat → Int32} (hX : va_X b L xs (zs Z) (zs Z).heap) (hbl : b < (zs Z).heap.size) (hb0 : ¬ b0 ≤ b) (i : Nat) {x : Int32} (hi : x = nI i) (hin : i < L) (hL : L < 2 ^ 31) (d : decode cc pc = .ok (.iaload, 1)) (kk : GO l X b0 Z cells slots lo en (pc + 1) lv (.int (xs i) :: rest)) : GO l X b0 Z cells slots lo en pc lv (.int x :: .ref b :: rest) := by
  intro H locs ls hS hW hl
  subst hi
  refine va_sld hC.1.1 hC.1.2.1 hX hbl hb0 hS (vp_in_nI hin hL) d ?_
  rw [show (nI i).toNatClampNeg = i from nI_clamp (by omega)]
  exact kk H locs ls hS hW hl
end LROWS
theorem enR_e {X : gX} {lo : gL} {M T : rM2} {e0 e1 : gE} {k : Nat} (h : e0 k = e1 k) : enR X lo M T e0 k = enR X lo M T e1 k := by
  unfold enR
  rw [h]
theorem en_swap {X : gX} {lo : gL} {L : Nat → Nat → Nat} {K C : rM3} {M T : rM2} {e0 : gE} : enC X lo L K C (enR X lo M T e0) = enR X lo M T (enC X lo L K C e0) := by
  funext k
  by_cases h : k < 1000
  · rw [rLow h]
    have c : ¬ 1000 ≤ k := by omega
    unfold enC
    rw [if_neg c, if_neg c]
  · rw [cHi (by omega)]
    exact enR_e (cHi (by omega)).symm
theorem enR_lo {X : gX} {lo lo1 : gL} {M T : rM2} {e0 : gE} (h : ∀ k, 1000 ≤ k → lo1 k = lo k) : enR X lo M T e0 = enR X lo1 M T e0 := by
  have ho : oR lo M T = oR lo1 M T := by
    unfold oR
    simp +decide only [h]
  unfold enR
  rw [ho]
theorem enC_lo {X : gX} {lo lo1 : gL} {L : Nat → Nat → Nat} {K C : rM3} {e0 : gE} (h : ∀ k, k < 1000 → lo1 k = lo k) (h0 : L 2 0 = 0) (h1 : L 2 1 = 0) : enC X lo L K C e0 = enC X lo1 L K C e0 := by
  have ho : oC lo L K = oC lo1 L K := by
    unfold oC
    simp +decide only [h]
  have hv : oV lo C = oV lo1 C := by
    unfold oV
    simp +decide only [h]
  have hm : qM lo (L 2 0) = qM lo1 (L 2 0) := by
    rw [h0]; rfl
  have hq : qS lo (L 2 1) = qS lo1 (L 2 1) := by
    rw [h1]; rfl
  funext k
  unfold enC
  by_cases c1 : 1000 ≤ k
  · rw [if_pos c1, if_pos c1]
  · rw [if_neg c1, if_neg c1]
    by_cases c2 : k < 100
    · rw [if_pos c2, if_pos c2]
      unfold enC0
      rw [ho, hv, hm, hq]
    · rw [if_neg c2, if_neg c2]
      by_cases c3 : k < 200
      · rw [if_pos c3, if_pos c3, if_neg (by omega), if_neg (by omega)]
      · rw [if_neg c3, if_neg c3, if_neg (by omega), if_neg (by omega)]
theorem sw21 (x : Int32) : (∃ k, k ≤ 20 ∧ x = nI k) ∨ (x.toInt < 0 ∨ 20 < x.toInt) := by
  by_cases h : 0 ≤ x ∧ x ≤ 20
  · exact Or.inl (natOf (n := 20) h rfl (by decide))
  · right
    rw [Int32.le_iff_toInt_le, Int32.le_iff_toInt_le, show (0 : Int32).toInt = 0 from rfl, show (20 : Int32).toInt = 20 from rfl] at h
    omega

