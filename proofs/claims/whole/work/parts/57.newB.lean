/-! ===== a new mould, a new sheet: the world ===== -/
theorem cNM {X : gX} {lo : gL} {L : Nat → Nat → Nat} {K C : rM3} {e0 : gE} {i r k : Nat} (h : L 2 0 ≤ i) (h25 : i < 25) (hr : r < 4) (hk : k = 100 + 4 * i + r) : enC X lo L K C e0 k = none := by
  unfold enC
  rw [if_neg (by omega), if_neg (by omega), if_pos (by omega), if_neg (by omega)]
theorem cNS {X : gX} {lo : gL} {L : Nat → Nat → Nat} {K C : rM3} {e0 : gE} {j r k : Nat} (h : L 2 1 ≤ j) (h50 : j < 50) (hr : r < 16) (hk : k = 200 + 16 * j + r) : enC X lo L K C e0 k = none := by
  unfold enC
  rw [if_neg (by omega), if_neg (by omega), if_neg (by omega), if_neg (by omega)]
theorem qM_lo {lo lo3 : gL} {n : Nat} (hn : n ≤ 10) (h : ∀ i, i < 10 → lo3 (100 + 4 * i) = lo (100 + 4 * i)) : qM lo n = qM lo3 n := by
  funext z
  unfold qM
  by_cases hz : z < n
  · rw [if_pos hz, if_pos hz, h z (by omega)]
  · rw [if_neg hz, if_neg hz]
theorem qS_lo {lo lo3 : gL} {n : Nat} (h : ∀ j, lo3 (200 + 16 * j) = lo (200 + 16 * j)) : qS lo n = qS lo3 n := by
  funext z
  unfold qS
  rw [h z]
theorem qT_lo {lo lo3 : gL} {j : Nat} (h : ∀ r, r < 10 → lo3 (203 + (16 * j + r)) = lo (203 + (16 * j + r))) : qT lo j = qT lo3 j := by
  funext z
  unfold qT
  by_cases hz : z < 10
  · rw [if_pos hz, if_pos hz, h z hz]
  · rw [if_neg hz, if_neg hz]
theorem qM_up {lo lo3 : gL} {i : Nat} (h : ∀ z, z < i → lo3 (100 + 4 * z) = lo (100 + 4 * z)) : va_up (qM lo i) i (some (lo3 (100 + 4 * i))) = qM lo3 (i + 1) := by
  funext z
  unfold va_up qM
  by_cases hz : z = i
  · rw [if_pos hz, if_pos (by omega), hz]
  · rw [if_neg hz]
    by_cases h2 : z < i
    · rw [if_pos h2, if_pos (by omega), h z h2]
    · rw [if_neg h2, if_neg (by omega)]
theorem qS_up {lo lo3 : gL} {i : Nat} (h : ∀ z, z < i → lo3 (200 + 16 * z) = lo (200 + 16 * z)) : va_up (qS lo i) i (some (lo3 (200 + 16 * i))) = qS lo3 (i + 1) := by
  funext z
  unfold va_up qS
  by_cases hz : z = i
  · rw [if_pos hz, if_pos (by omega), hz]
  · rw [if_neg hz]
    by_cases h2 : z < i
    · rw [if_pos h2, if_pos (by omega), h z h2]
    · rw [if_neg h2, if_neg (by omega)]
theorem enC_addM {X : gX} {lo lo3 : gL} {L : Nat → Nat → Nat} {K C : rM3} {e0 en6 : gE} {i n : Nat} {g : Nat → Int32} {iv wd x y : Int32} (hi : L 2 0 = i) (h10 : i < 10)
    (hlo : ∀ j, ¬ (100 + 4 * i ≤ j ∧ j < 104 + 4 * i) → lo3 j = lo j) (hold : ∀ j, j ≠ 0 → j ≠ 2 → ¬ (100 + 4 * i ≤ j ∧ j < 104 + 4 * i) → en6 j = enC X lo L K C e0 j)
    (h0 : en6 0 = some (.inr (4, (oC lo L K).set 5 (.int (nI i + 1))))) (h2 : en6 2 = some (aQ (X.2 1) 10 (va_up (qM lo i) i (some (lo3 (100 + 4 * i))))))
    (hc : en6 (100 + 4 * i) = some (.inr (1, [.ref (lo3 (101 + 4 * i)), .int iv, .int wd, .ref (lo3 (102 + 4 * i)), .ref (lo3 (103 + 4 * i)), .int 1]))) (hc1 : en6 (101 + 4 * i) = some (aI X n g)) (hc2 : en6 (102 + 4 * i) = some (aI X 6 (upd (fun _ => 0) 0 x))) (hc3 : en6 (103 + 4 * i) = some (aI X 6 (upd (fun _ => 0) 0 y))) :
    ∀ k e, enC X lo3 (lM L i n) (kM K i g iv wd x y) C e0 k = some e → en6 k = some e := by
  refine enC_all (P := fun k e => en6 k = some e) (fun k e hk h => by rw [hold k (by omega) (by omega) (by omega), cHi hk]; exact h) ?_ ?_ ?_ ?_ ?_ ?_ ?_ ?_ ?_ ?_
  · rw [h0]
    unfold oC
    rw [hlo 1 (by omega), hlo 2 (by omega), hlo 3 (by omega), hlo 4 (by omega), hlo 6 (by omega), hlo 7 (by omega), kM_o (by omega), kM_o (by omega), kM_o (by omega), lM_20, lM_21, hi, ← nI_1]
    rfl
  · rw [hold 1 (by omega) (by omega) (by omega), cA1, kM_o (by omega)]
  · rw [h2, lM_20, hi, qM_up (fun z hz => hlo _ (by omega))]
  · rw [hold 3 (by omega) (by omega) (by omega), cA3, lM_21, qS_lo (fun z => hlo _ (by omega))]
  · rw [hold 4 (by omega) (by omega) (by omega), cV]
    unfold oV
    rw [hlo 5 (by omega)]
  · rw [hold 5 (by omega) (by omega) (by omega), cA5]
  · rw [hold 6 (by omega) (by omega) (by omega), cA6]
  · rw [hold 7 (by omega) (by omega) (by omega), cA7]
  · intro m hm h25
    rw [lM_20] at hm
    by_cases hmi : m = i
    · subst hmi
      refine ⟨?_, ?_, ?_, ?_⟩
      · rw [hc]; unfold oM; rw [kM_2]; rfl
      · rw [hc1, lM_0, kM_3]
      · rw [hc2, kM_4]
      · rw [hc3, kM_5]
    · have hm2 : m < L 2 0 := by omega
      refine ⟨?_, ?_, ?_, ?_⟩
      · rw [hold _ (by omega) (by omega) (by omega), cM hm2 h25]; unfold oM
        rw [hlo _ (by omega), hlo _ (by omega), hlo _ (by omega), kM_o (Or.inl hmi)]
      · rw [hold _ (by omega) (by omega) (by omega), cM1 hm2 h25, lM_0o hmi, kM_o (Or.inl hmi)]
      · rw [hold _ (by omega) (by omega) (by omega), cM2 hm2 h25, kM_o (Or.inl hmi)]
      · rw [hold _ (by omega) (by omega) (by omega), cM3 hm2 h25, kM_o (Or.inl hmi)]
  · intro j hj h50
    rw [lM_21] at hj
    refine ⟨?_, ?_, ?_, fun r hr => ?_⟩
    · rw [hold _ (by omega) (by omega) (by omega), cS hj h50]; unfold oS
      rw [hlo _ (by omega), hlo _ (by omega), kM_o (by omega)]
    · rw [hold _ (by omega) (by omega) (by omega), cS1 hj h50, lM_1, kM_o (by omega)]
    · rw [hold _ (by omega) (by omega) (by omega), cS2 hj h50, qT_lo (fun r _ => hlo _ (by omega))]
    · rw [hold _ (by omega) (by omega) (by omega), cT hj h50 hr]
theorem enC_addS {X : gX} {lo lo3 : gL} {L : Nat → Nat → Nat} {K C : rM3} {e0 en6 : gE} {i n : Nat} {g : Nat → Int32} {iv x y : Int32} (hi : L 2 1 = i) (h30 : i < 30) (h10 : L 2 0 ≤ 10)
    (hlo : ∀ j, ¬ (200 + 16 * i ≤ j ∧ j < 216 + 16 * i) → lo3 j = lo j) (hold : ∀ j, j ≠ 0 → j ≠ 3 → ¬ (200 + 16 * i ≤ j ∧ j < 216 + 16 * i) → en6 j = enC X lo L K C e0 j)
    (h0 : en6 0 = some (.inr (4, (oC lo L K).set 7 (.int (nI i + 1))))) (h3 : en6 3 = some (aQ (X.2 2) 30 (va_up (qS lo i) i (some (lo3 (200 + 16 * i))))))
    (hc : en6 (200 + 16 * i) = some (.inr (2, [.ref (lo3 (201 + 16 * i)), .int iv, .int x, .int y, .int 0, .int 9999, .ref (lo3 (202 + 16 * i))]))) (hc1 : en6 (201 + 16 * i) = some (aI X n g)) (hc2 : en6 (202 + 16 * i) = some (aQ (X.2 3) 10 (fun z => if z < 10 then some (lo3 (203 + 16 * i + z)) else none)))
    (hc3 : ∀ z, z < 10 → en6 (203 + 16 * i + z) = some (.inr (0, [.int 0, .int 0, .int 0, .int 0, .int 0, .int 0, .int (-1)]))) :
    ∀ k e, enC X lo3 (lS L i n) (kS K i g iv x y) (cSn C i) e0 k = some e → en6 k = some e := by
  refine enC_all (P := fun k e => en6 k = some e) (fun k e hk h => by rw [hold k (by omega) (by omega) (by omega), cHi hk]; exact h) ?_ ?_ ?_ ?_ ?_ ?_ ?_ ?_ ?_ ?_
  · rw [h0]
    unfold oC
    rw [hlo 1 (by omega), hlo 2 (by omega), hlo 3 (by omega), hlo 4 (by omega), hlo 6 (by omega), hlo 7 (by omega), kS_o (by omega), kS_o (by omega), kS_o (by omega), lS_20, lS_21, hi, ← nI_1]
    rfl
  · rw [hold 1 (by omega) (by omega) (by omega), cA1, kS_o (by omega)]
  · rw [hold 2 (by omega) (by omega) (by omega), cA2, lS_20, qM_lo h10 (fun z hz => hlo _ (by omega))]
  · rw [h3, lS_21, hi, qS_up (fun z hz => hlo _ (by omega))]
  · rw [hold 4 (by omega) (by omega) (by omega), cV]
    unfold oV
    rw [hlo 5 (by omega), cSn_o (by omega)]
  · rw [hold 5 (by omega) (by omega) (by omega), cA5, cSn_o (by omega)]
  · rw [hold 6 (by omega) (by omega) (by omega), cA6, cSn_o (by omega)]
  · rw [hold 7 (by omega) (by omega) (by omega), cA7, cSn_o (by omega)]
  · intro m hm h25
    rw [lS_20] at hm
    refine ⟨?_, ?_, ?_, ?_⟩
    · rw [hold _ (by omega) (by omega) (by omega), cM hm h25]; unfold oM
      rw [hlo _ (by omega), hlo _ (by omega), hlo _ (by omega), kS_o (by omega)]
    · rw [hold _ (by omega) (by omega) (by omega), cM1 hm h25, lS_0, kS_o (by omega)]
    · rw [hold _ (by omega) (by omega) (by omega), cM2 hm h25, kS_o (by omega)]
    · rw [hold _ (by omega) (by omega) (by omega), cM3 hm h25, kS_o (by omega)]
  · intro j hj h50
    rw [lS_21] at hj
    by_cases hji : j = i
    · subst hji
      refine ⟨?_, ?_, ?_, fun r hr => ?_⟩
      · rw [hc]; unfold oS; rw [kS_6]; rfl
      · rw [hc1, lS_1, kS_7]
      · rw [hc2]
        refine congrArg (fun f => some (aQ (X.2 3) 10 f)) ?_
        funext z
        unfold qT
        rw [show 203 + 16 * j + z = 203 + (16 * j + z) by omega]
      · rw [show 203 + (16 * j + r) = 203 + 16 * j + r by omega, hc3 r hr]; unfold oT; rw [cSn_n (by omega)]; rfl
    · have hj2 : j < L 2 1 := by omega
      refine ⟨?_, ?_, ?_, fun r hr => ?_⟩
      · rw [hold _ (by omega) (by omega) (by omega), cS hj2 h50]; unfold oS
        rw [hlo _ (by omega), hlo _ (by omega), kS_o (Or.inl hji)]
      · rw [hold _ (by omega) (by omega) (by omega), cS1 hj2 h50, lS_1o hji, kS_o (Or.inl hji)]
      · rw [hold _ (by omega) (by omega) (by omega), cS2 hj2 h50, qT_lo (fun r _ => hlo _ (by omega))]
      · rw [hold _ (by omega) (by omega) (by omega), cT hj2 h50 hr]; unfold oT; rw [cSn_o (by omega)]
