/-! ===== a new mould, a new sheet: what lasts ===== -/
section NEWM
variable {M : rM2} {i : Nat} {iv x y : Int32}
theorem adM_20 {z : Nat} : adM M i iv x y 20 z = if z = 4 then M 20 4 + 1 else M 20 z := by simp [adM, psM, up2, cp2]
theorem adM_1 {z : Nat} : adM M i iv x y 1 z = if z = i then M 20 1 else M 1 z := by simp [adM, psM, up2, cp2]
theorem adM_2 {z : Nat} : adM M i iv x y 2 z = if 10 * i ≤ z ∧ z < 10 * i + nt (M 20 1) then M 0 (z - 10 * i) else M 2 z := by simp [adM, psM, up2, cp2]
theorem adM_3 {z : Nat} : adM M i iv x y 3 z = if z = i then iv else M 3 z := by simp [adM, psM, up2, cp2]
theorem adM_4 {z : Nat} : adM M i iv x y 4 z = if z = i then 1 else M 4 z := by by_cases h : z = i <;> simp [adM, psM, up2, cp2, h]
theorem nt_0 : nt 0 = 0 := by decide
theorem nt_1 : nt 1 = 1 := by decide
theorem adM_5 {z : Nat} : adM M i iv x y 5 z = if z = 6 * i then x else M 5 z := by simp [adM, psM, up2, cp2, nt_0]
theorem adM_6 {z : Nat} : adM M i iv x y 6 z = if z = 6 * i then y else M 6 z := by simp [adM, psM, up2, cp2, nt_0]
theorem adM_o {a : Nat} (h : a = 0 ∨ (7 ≤ a ∧ a ≤ 13)) : adM M i iv x y a = M a := by
  funext z
  have h1 : a ≠ 1 := by omega
  have h2 : a ≠ 2 := by omega
  have h3 : a ≠ 3 := by omega
  have h4 : a ≠ 4 := by omega
  have h5 : a ≠ 5 := by omega
  have h6 : a ≠ 6 := by omega
  have h7 : a ≠ 20 := by omega
  simp [adM, psM, up2, cp2, h1, h2, h3, h4, h5, h6, h7]
theorem adS_20 {z : Nat} : adS M i iv x y 20 z = if z = 11 then M 20 11 + 1 else M 20 z := by simp [adS, up2, cp2]
theorem adS_7 {z : Nat} : adS M i iv x y 7 z = if z = i then M 20 1 else M 7 z := by simp [adS, up2, cp2]
theorem adS_8 {z : Nat} : adS M i iv x y 8 z = if 10 * i ≤ z ∧ z < 10 * i + nt (M 20 1) then M 0 (z - 10 * i) else M 8 z := by simp [adS, up2, cp2]
theorem adS_9 {z : Nat} : adS M i iv x y 9 z = if z = i then iv else M 9 z := by simp [adS, up2, cp2]
theorem adS_10 {z : Nat} : adS M i iv x y 10 z = if z = i then x else M 10 z := by simp [adS, up2, cp2]
theorem adS_11 {z : Nat} : adS M i iv x y 11 z = if z = i then y else M 11 z := by simp [adS, up2, cp2]
theorem adS_12 {z : Nat} : adS M i iv x y 12 z = if z = i then 0 else M 12 z := by simp [adS, up2, cp2]
theorem adS_13 {z : Nat} : adS M i iv x y 13 z = if z = i then 9999 else M 13 z := by simp [adS, up2, cp2]
theorem adS_o {a : Nat} (h : a ≤ 6) : adS M i iv x y a = M a := by
  funext z
  have h1 : a ≠ 7 := by omega
  have h2 : a ≠ 8 := by omega
  have h3 : a ≠ 9 := by omega
  have h4 : a ≠ 10 := by omega
  have h5 : a ≠ 11 := by omega
  have h6 : a ≠ 12 := by omega
  have h8 : a ≠ 13 := by omega
  have h7 : a ≠ 20 := by omega
  simp [adS, up2, cp2, h1, h2, h3, h4, h5, h6, h7, h8]
theorem adM_nM (hM : Iv M) : nMo (adM M i iv x y) = nMo M + 1 := by
  obtain ⟨h1, h2⟩ := Iv_nM hM
  show nt (adM M i iv x y 20 4) = _
  rw [adM_20, if_pos rfl, h2, nI_1, nt_nI (by omega)]
theorem adM_nS : nSh (adM M i iv x y) = nSh M := by
  show nt (adM M i iv x y 20 11) = _
  rw [adM_20, if_neg (by decide)]; rfl
theorem adS_nS (hM : Iv M) : nSh (adS M i iv x y) = nSh M + 1 := by
  obtain ⟨h1, h2⟩ := Iv_nS hM
  show nt (adS M i iv x y 20 11) = _
  rw [adS_20, if_pos rfl, h2, nI_1, nt_nI (by omega)]
theorem adS_nM : nMo (adS M i iv x y) = nMo M := by
  show nt (adS M i iv x y 20 4) = _
  rw [adS_20, if_neg (by decide)]; rfl
end NEWM
def lM (L : Nat → Nat → Nat) (i n : Nat) : Nat → Nat → Nat := fun a z => if a = 0 ∧ z = i then n else if a = 2 ∧ z = 0 then L 2 0 + 1 else L a z
def kM (K : rM3) (i : Nat) (g : Nat → Int32) (iv wd x y : Int32) : rM3 := fun a z => if z = i ∧ a = 2 then (fun k => if k = 1 then iv else if k = 2 then wd else 1) else if z = i ∧ a = 3 then g else if z = i ∧ a = 4 then upd (fun _ => 0) 0 x else if z = i ∧ a = 5 then upd (fun _ => 0) 0 y else K a z
def lS (L : Nat → Nat → Nat) (i n : Nat) : Nat → Nat → Nat := fun a z => if a = 1 ∧ z = i then n else if a = 2 ∧ z = 1 then L 2 1 + 1 else L a z
def kS (K : rM3) (i : Nat) (g : Nat → Int32) (iv x y : Int32) : rM3 := fun a z => if z = i ∧ a = 6 then (fun k => if k = 1 then iv else if k = 2 then x else if k = 3 then y else if k = 4 then 0 else 9999) else if z = i ∧ a = 7 then g else K a z
def cSn (C : rM3) (i : Nat) : rM3 := fun a r => if a = 8 ∧ 16 * i ≤ r ∧ r < 16 * i + 16 then (fun f => if f = 6 then -1 else 0) else C a r
theorem kM_o {K : rM3} {i : Nat} {g : Nat → Int32} {iv wd x y : Int32} {a z : Nat} (h : z ≠ i ∨ a < 2 ∨ 5 < a) : kM K i g iv wd x y a z = K a z := by
  unfold kM
  rw [if_neg (by omega), if_neg (by omega), if_neg (by omega), if_neg (by omega)]
theorem kM_2 {K : rM3} {i : Nat} {g : Nat → Int32} {iv wd x y : Int32} : kM K i g iv wd x y 2 i = fun k => if k = 1 then iv else if k = 2 then wd else 1 := by simp [kM]
theorem kM_3 {K : rM3} {i : Nat} {g : Nat → Int32} {iv wd x y : Int32} : kM K i g iv wd x y 3 i = g := by simp [kM]
theorem kM_4 {K : rM3} {i : Nat} {g : Nat → Int32} {iv wd x y : Int32} : kM K i g iv wd x y 4 i = upd (fun _ => 0) 0 x := by simp [kM]
theorem kM_5 {K : rM3} {i : Nat} {g : Nat → Int32} {iv wd x y : Int32} : kM K i g iv wd x y 5 i = upd (fun _ => 0) 0 y := by simp [kM]
theorem kS_o {K : rM3} {i : Nat} {g : Nat → Int32} {iv x y : Int32} {a z : Nat} (h : z ≠ i ∨ a < 6 ∨ 7 < a) : kS K i g iv x y a z = K a z := by
  unfold kS
  rw [if_neg (by omega), if_neg (by omega)]
theorem kS_6 {K : rM3} {i : Nat} {g : Nat → Int32} {iv x y : Int32} : kS K i g iv x y 6 i = fun k => if k = 1 then iv else if k = 2 then x else if k = 3 then y else if k = 4 then 0 else 9999 := by simp [kS]
theorem kS_7 {K : rM3} {i : Nat} {g : Nat → Int32} {iv x y : Int32} : kS K i g iv x y 7 i = g := by simp [kS]
theorem cSn_o {C : rM3} {i a r : Nat} (h : a ≠ 8 ∨ r < 16 * i ∨ 16 * i + 16 ≤ r) : cSn C i a r = C a r := by
  unfold cSn
  rw [if_neg (by omega)]
theorem cSn_n {C : rM3} {i r : Nat} (h : r < 16) : cSn C i 8 (16 * i + r) = fun f => if f = 6 then -1 else 0 := by
  unfold cSn
  rw [if_pos (by omega)]
theorem lM_0 {L : Nat → Nat → Nat} {i n : Nat} : lM L i n 0 i = n := by simp [lM]
theorem lM_0o {L : Nat → Nat → Nat} {i n z : Nat} (h : z ≠ i) : lM L i n 0 z = L 0 z := by simp [lM, h]
theorem lM_1 {L : Nat → Nat → Nat} {i n z : Nat} : lM L i n 1 z = L 1 z := by simp [lM]
theorem lM_20 {L : Nat → Nat → Nat} {i n : Nat} : lM L i n 2 0 = L 2 0 + 1 := by simp [lM]
theorem lM_21 {L : Nat → Nat → Nat} {i n : Nat} : lM L i n 2 1 = L 2 1 := by simp [lM]
theorem lS_1 {L : Nat → Nat → Nat} {i n : Nat} : lS L i n 1 i = n := by simp [lS]
theorem lS_1o {L : Nat → Nat → Nat} {i n z : Nat} (h : z ≠ i) : lS L i n 1 z = L 1 z := by simp [lS, h]
theorem lS_0 {L : Nat → Nat → Nat} {i n z : Nat} : lS L i n 0 z = L 0 z := by simp [lS]
theorem lS_21 {L : Nat → Nat → Nat} {i n : Nat} : lS L i n 2 1 = L 2 1 + 1 := by simp [lS]
theorem lS_20 {L : Nat → Nat → Nat} {i n : Nat} : lS L i n 2 0 = L 2 0 := by simp [lS]
theorem Sm_adM {L : Nat → Nat → Nat} {K : rM3} {M : rM2} {g : Nat → Int32} {iv wd x y : Int32} (hM : Iv M) (h : Sm L K M) (hg : ∀ k, k < nt (M 20 1) → g k = M 0 k) (hiv : nt iv < nt (M 20 1)) (hwd : wd = M 0 (nt iv)) : Sm (lM L (nMo M) (nt (M 20 1))) (kM K (nMo M) g iv wd x y) (adM M (nMo M) iv x y) := by
  obtain ⟨h1, h2, h3, h4, h5, h6, h7, h8⟩ := h
  refine ⟨?_, ?_, ?_, ?_, ?_, ?_, ?_, ?_⟩
  · rw [lM_20, h1, adM_nM hM]
  · rw [lM_21, h2, adM_nS]
  · rw [kM_o (by omega), adM_20, if_neg (by decide), h3]
  · rw [kM_o (by omega), adM_20, if_neg (by decide), h4]
  · rw [kM_o (by omega), adM_20, if_neg (by decide), h5]
  · rw [kM_o (by omega), adM_o (Or.inl rfl), h6]
  · intro i hi
    rw [adM_nM hM] at hi
    by_cases hin : i = nMo M
    · subst hin
      rw [lM_0, adM_1, if_pos rfl, kM_2, adM_3, if_pos rfl, adM_4, if_pos rfl, kM_3, kM_4, kM_5]
      refine ⟨rfl, rfl, ?_, rfl, fun k hk => ?_, fun k hk => ?_⟩
      · show wd = _
        rw [adM_2, if_pos (by omega), show 10 * nMo M + nt iv - 10 * nMo M = nt iv by omega, hwd]
      · rw [adM_2, if_pos (by omega), show 10 * nMo M + k - 10 * nMo M = k by omega, hg k hk]
      · rw [nt_1] at hk
        have hk0 : k = 0 := by omega
        subst hk0
        rw [adM_5, if_pos (by omega), adM_6, if_pos (by omega)]
        exact ⟨rfl, rfl⟩
    · have hi2 : i < nMo M := by omega
      obtain ⟨n, hn3, hn10, en, en2⟩ := Iv_mo hM hi2
      obtain ⟨q, hq1, hq6, eq, eq2⟩ := Iv_st hM hi2
      have h3i := (hM.2.2.2.2.2.2.1 i hi2).2.1
      have h3n : nt (M 3 i) < n := by
        refine nt_lt ?_ h3i.1 (by omega)
        rw [← en]
        have := h3i.2
        have h0 : (3 : Int32) ≤ M 1 i := (hM.2.2.2.2.2.2.1 i hi2).1.1
        grind
      obtain ⟨g1, g2, g3, g4, g5, g6⟩ := h7 i hi2
      rw [lM_0o hin, adM_1, if_neg hin, kM_o (Or.inl hin), adM_3, if_neg hin, adM_4, if_neg hin, kM_o (Or.inl hin), kM_o (Or.inl hin), kM_o (Or.inl hin)]
      refine ⟨g1, g2, ?_, g4, fun k hk => ?_, fun k hk => ?_⟩
      · rw [adM_2, if_neg (by omega)]; exact g3
      · rw [adM_2, if_neg (by omega)]; exact g5 k hk
      · rw [adM_5, if_neg (by omega), adM_6, if_neg (by omega)]; exact g6 k hk
  · intro j hj
    rw [adM_nS] at hj
    rw [lM_1, kM_o (by omega), kM_o (by omega), adM_o (by omega), adM_o (by omega), adM_o (by omega), adM_o (by omega), adM_o (by omega), adM_o (by omega), adM_o (by omega)]
    exact h8 j hj
theorem cg_adM {M : rM2} {iv x y : Int32} (hM : Iv M) {j i : Nat} (hi : i < nMo M) : cg M (adM M (nMo M) iv x y) j i := by
  obtain ⟨q, hq1, hq6, eq, eq2⟩ := Iv_st hM hi
  have hin : i ≠ nMo M := by omega
  unfold cg
  rw [adM_o (by omega), adM_o (by omega), adM_o (by omega), adM_o (by omega), adM_o (by omega), adM_1, if_neg hin, adM_3, if_neg hin, adM_4, if_neg hin, adM_20, adM_20]
  refine ⟨rfl, fun _ _ => rfl, rfl, rfl, rfl, rfl, fun k hk => ?_, rfl, rfl, fun k hk => ?_, rfl, rfl⟩
  · rw [adM_2, if_neg (by omega)]
  · rw [adM_5, if_neg (by omega), adM_6, if_neg (by omega)]; exact ⟨rfl, rfl⟩
theorem Sc_adM {C : rM3} {M : rM2} {iv x y : Int32} (hM : Iv M) (h : Sc C M) : Sc C (adM M (nMo M) iv x y) := by
  intro j i hj hi
  rw [adM_nS] at hj
  rcases h j i hj hi with h1 | ⟨h1, h2, h3⟩
  · exact Or.inl h1
  · refine Or.inr ⟨h1, by rw [adM_nM hM]; omega, ?_⟩
    rw [fb_cg hM hj h2 (cg_adM hM h2)]
    exact h3
theorem Sm_adS {L : Nat → Nat → Nat} {K : rM3} {M : rM2} {g : Nat → Int32} {iv x y : Int32} (hM : Iv M) (h : Sm L K M) (hg : ∀ k, k < nt (M 20 1) → g k = M 0 k) : Sm (lS L (nSh M) (nt (M 20 1))) (kS K (nSh M) g iv x y) (adS M (nSh M) iv x y) := by
  obtain ⟨h1, h2, h3, h4, h5, h6, h7, h8⟩ := h
  refine ⟨?_, ?_, ?_, ?_, ?_, ?_, ?_, ?_⟩
  · rw [lS_20, h1, adS_nM]
  · rw [lS_21, h2, adS_nS hM]
  · rw [kS_o (by omega), adS_20, if_neg (by decide), h3]
  · rw [kS_o (by omega), adS_20, if_neg (by decide), h4]
  · rw [kS_o (by omega), adS_20, if_neg (by decide), h5]
  · rw [kS_o (by omega), adS_o (by omega), h6]
  · intro i hi
    rw [adS_nM] at hi
    rw [lS_0, kS_o (by omega), kS_o (by omega), kS_o (by omega), kS_o (by omega), adS_o (by omega), adS_o (by omega), adS_o (by omega), adS_o (by omega), adS_o (by omega), adS_o (by omega)]
    exact h7 i hi
  · intro j hj
    rw [adS_nS hM] at hj
    by_cases hjn : j = nSh M
    · subst hjn
      rw [lS_1, adS_7, if_pos rfl, kS_6, kS_7, adS_9, if_pos rfl, adS_10, if_pos rfl, adS_11, if_pos rfl, adS_12, if_pos rfl, adS_13, if_pos rfl]
      refine ⟨rfl, rfl, rfl, rfl, rfl, rfl, fun k hk => ?_⟩
      rw [adS_8, if_pos (by omega), show 10 * nSh M + k - 10 * nSh M = k by omega, hg k hk]
    · have hj2 : j < nSh M := by omega
      obtain ⟨n, hn3, hn10, en, en2⟩ := Iv_sh hM hj2
      obtain ⟨g1, g2, g3, g4, g5, g6, g7⟩ := h8 j hj2
      rw [lS_1o hjn, adS_7, if_neg hjn, kS_o (Or.inl hjn), kS_o (Or.inl hjn), adS_9, if_neg hjn, adS_10, if_neg hjn, adS_11, if_neg hjn, adS_12, if_neg hjn, adS_13, if_neg hjn]
      refine ⟨g1, g2, g3, g4, g5, g6, fun k hk => ?_⟩
      rw [adS_8, if_neg (by omega)]; exact g7 k hk
theorem cg_adS {M : rM2} {iv x y : Int32} {j i : Nat} (hj : j < nSh M) : cg M (adS M (nSh M) iv x y) j i := by
  have hjn : j ≠ nSh M := by omega
  unfold cg
  rw [adS_o (a := 1) (by decide), adS_o (a := 2) (by decide), adS_o (a := 3) (by decide), adS_o (a := 4) (by decide), adS_o (a := 5) (by decide), adS_o (a := 6) (by decide), adS_7, if_neg hjn, adS_9, if_neg hjn, adS_10, if_neg hjn, adS_11, if_neg hjn, adS_20, adS_20]
  refine ⟨rfl, fun k hk => ?_, rfl, rfl, rfl, rfl, fun _ _ => rfl, rfl, rfl, fun _ _ => ⟨rfl, rfl⟩, rfl, rfl⟩
  rw [adS_8, if_neg (by omega)]
theorem Sc_adS {C : rM3} {M : rM2} {iv x y : Int32} (hM : Iv M) (h : Sc C M) : Sc (cSn C (nSh M)) (adS M (nSh M) iv x y) := by
  intro j i hj hi
  rw [adS_nS hM] at hj
  by_cases hjn : j = nSh M
  · subst hjn
    left
    rw [cSn_n (by omega)]; rfl
  · have hj2 : j < nSh M := by omega
    have e8 : cSn C (nSh M) 8 (16 * j + i) = C 8 (16 * j + i) := cSn_o (by omega)
    rcases h j i hj2 hi with h1 | ⟨h1, h2, h3⟩
    · left; rw [e8]; exact h1
    · refine Or.inr ⟨by rw [e8]; exact h1, by rw [adS_nM]; omega, ?_⟩
      rw [fb_cg hM hj2 h2 (cg_adS hj2)]
      unfold mtB at h3 ⊢
      rw [e8]
      exact h3
