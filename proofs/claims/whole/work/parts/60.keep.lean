/-! ===== what holds of the lasting numbers is kept by every call ===== -/
theorem Iv_clear {M : rM2} (h : Iv M) : Iv (up2 M 20 1 0) := by
  obtain ⟨h1, h2, h3, h4, h5, h6, h7, h8⟩ := h
  refine ⟨?_, h2, h3, h4, h5, ?_, fun i hi => ?_, fun j hj => ?_⟩
  · rw [up2_self, pk_us]; decide
  · intro k hk
    rw [up2_self, pk_us, nt_0] at hk
    omega
  · simp +decide only [up2_row]; exact h7 i hi
  · simp +decide only [up2_row]; exact h8 j hj
theorem Iv_add {M : rM2} {v : Int32} (h : Iv M) (hv : inR 100 v 450) (hne : M 20 1 ≠ 10) : Iv (up2 (up2 M 0 (nt (M 20 1)) v) 20 1 (M 20 1 + 1)) := by
  obtain ⟨h1, h2, h3, h4, h5, h6, h7, h8⟩ := h
  obtain ⟨n, hn10, en⟩ := natOf (n := 10) (x := M 20 1) h1 rfl (by decide)
  have hn : n < 10 := by
    rcases Nat.lt_or_ge n 10 with z | z
    · exact z
    · exact absurd (by rw [en, show n = 10 by omega]; rfl) hne
  have en2 : nt (M 20 1) = n := by rw [en]; exact nt_nI (by omega)
  refine ⟨?_, h2, h3, h4, h5, ?_, fun i hi => ?_, fun j hj => ?_⟩
  · rw [up2_self, pk_us, en, nI_1]; exact nI_inR (a := 0) (b := 10) (by omega) (by omega) (by decide)
  · intro k hk
    rw [up2_self, pk_us, en, nI_1, nt_nI (by omega)] at hk
    rw [up2_row (by decide), up2_self, en2]
    by_cases hkn : k = n
    · rw [hkn, pk_us]; exact hv
    · unfold upd
      rw [if_neg hkn]
      exact h6 k (by omega)
  · simp +decide only [up2_row]; exact h7 i hi
  · simp +decide only [up2_row]; exact h8 j hj
theorem Iv_tol {M : rM2} {a b : Int32} (h : Iv M) (ha : inR 0 a 50) (hb : inR 0 b 100) : Iv (up2 (up2 M 20 2 a) 20 3 b) := by
  obtain ⟨h1, h2, h3, h4, h5, h6, h7, h8⟩ := h
  refine ⟨h1, ?_, ?_, h4, h5, ?_, fun i hi => ?_, fun j hj => ?_⟩
  · show inR 0 a 50; exact ha
  · show inR 0 b 100; exact hb
  · intro k hk
    simp +decide only [up2_row]; exact h6 k hk
  · simp +decide only [up2_row]; exact h7 i hi
  · simp +decide only [up2_row]; exact h8 j hj
theorem Iv_dt {M : rM2} {a b : Int32} {i : Nat} (h : Iv M) : Iv (up2 (up2 M 12 i a) 13 i b) := by
  obtain ⟨h1, h2, h3, h4, h5, h6, h7, h8⟩ := h
  have e : ∀ c, c ≠ 12 → c ≠ 13 → up2 (up2 M 12 i a) 13 i b c = M c := fun c h1 h2 => by rw [up2_row h2, up2_row h1]
  have e20 := e 20 (by decide) (by decide)
  unfold Iv nMo nSh
  rw [e20, e 0 (by decide) (by decide), e 1 (by decide) (by decide), e 2 (by decide) (by decide), e 3 (by decide) (by decide), e 4 (by decide) (by decide), e 5 (by decide) (by decide), e 6 (by decide) (by decide), e 7 (by decide) (by decide), e 8 (by decide) (by decide), e 9 (by decide) (by decide), e 10 (by decide) (by decide), e 11 (by decide) (by decide)]
  exact ⟨h1, h2, h3, h4, h5, h6, h7, h8⟩
theorem Iv_ps {M : rM2} {x y : Int32} {i : Nat} (h : Iv M) (hi : i < nMo M) (h6 : M 4 i ≠ 6) (hx : inR 0 x 450) (hy : inR 0 y 300) : Iv (psM M i x y) := by
  obtain ⟨q, hq1, hq6, eq, eq2⟩ := Iv_st h hi
  have hst := fun m (hm : m < nMo M) => Iv_st h hm
  have hq : q < 6 := by
    rcases Nat.lt_or_ge q 6 with z | z
    · exact z
    · exact absurd (by rw [eq, show q = 6 by omega]; rfl) h6
  obtain ⟨h1, h2, h3, h4, h5, h6', h7, h8⟩ := h
  have e : ∀ c, c ≠ 4 → c ≠ 5 → c ≠ 6 → psM M i x y c = M c := fun c h1 h2 h3 => by unfold psM; rw [up2_row h1, up2_row h3, up2_row h2]
  have e4 : psM M i x y 4 = upd (M 4) i (nI (q + 1)) := by unfold psM; rw [up2_self, up2_row (by decide), up2_row (by decide), eq, nI_1]
  have e5 : psM M i x y 5 = upd (M 5) (6 * i + q) x := by unfold psM; rw [up2_row (by decide), up2_row (by decide), up2_self, eq2]
  have e6 : psM M i x y 6 = upd (M 6) (6 * i + q) y := by unfold psM; rw [up2_row (by decide), up2_self, up2_row (by decide), eq2]
  unfold Iv nMo nSh
  rw [e 20 (by decide) (by decide) (by decide), e 0 (by decide) (by decide) (by decide), e 1 (by decide) (by decide) (by decide), e 2 (by decide) (by decide) (by decide), e 3 (by decide) (by decide) (by decide), e4, e5, e6, e 7 (by decide) (by decide) (by decide), e 8 (by decide) (by decide) (by decide), e 9 (by decide) (by decide) (by decide), e 10 (by decide) (by decide) (by decide), e 11 (by decide) (by decide) (by decide)]
  refine ⟨h1, h2, h3, h4, h5, h6', fun m hm => ?_, h8⟩
  obtain ⟨g1, g2, g3, g4, g5⟩ := h7 m hm
  refine ⟨g1, g2, ?_, g4, fun k hk => ?_⟩
  · unfold upd
    by_cases hmi : m = i
    · rw [if_pos hmi]; exact nI_inR (a := 1) (b := 6) (by omega) (by omega) (by decide)
    · rw [if_neg hmi]; exact g3
  · unfold upd at hk ⊢
    by_cases hmi : m = i
    · rw [if_pos hmi, nt_nI (by omega)] at hk
      by_cases hkq : k = q
      · rw [if_pos (by omega), if_pos (by omega)]; exact ⟨hx, hy⟩
      · rw [if_neg (by omega), if_neg (by omega)]
        refine g5 k ?_
        rw [hmi, eq2]; omega
    · rw [if_neg hmi] at hk
      obtain ⟨q2, _, hq26, _, eq22⟩ := hst m hm
      rw [if_neg (by omega), if_neg (by omega)]
      exact g5 k hk
theorem Iv_rs {M : rM2} {i : Nat} (h : Iv M) (hi : i < nMo M) (h1' : M 4 i ≠ 1) : Iv (up2 M 4 i (M 4 i - 1)) := by
  obtain ⟨q, hq1, hq6, eq, eq2⟩ := Iv_st h hi
  have hq : 1 < q := by
    rcases Nat.lt_or_ge 1 q with z | z
    · exact z
    · exact absurd (by rw [eq, show q = 1 by omega]; rfl) h1'
  have ew : M 4 i - 1 = nI (q - 1) := by
    rw [eq]
    have := nI_1 (q - 1)
    rw [show q - 1 + 1 = q by omega] at this
    rw [← this]
    grind
  obtain ⟨h1, h2, h3, h4, h5, h6', h7, h8⟩ := h
  have e : ∀ c, c ≠ 4 → up2 M 4 i (M 4 i - 1) c = M c := fun c h1 => up2_row h1
  have e4 : up2 M 4 i (M 4 i - 1) 4 = upd (M 4) i (nI (q - 1)) := by rw [up2_self, ew]
  unfold Iv nMo nSh
  rw [e 20 (by decide), e 0 (by decide), e 1 (by decide), e 2 (by decide), e 3 (by decide), e4, e 5 (by decide), e 6 (by decide), e 7 (by decide), e 8 (by decide), e 9 (by decide), e 10 (by decide), e 11 (by decide)]
  refine ⟨h1, h2, h3, h4, h5, h6', fun m hm => ?_, h8⟩
  obtain ⟨g1, g2, g3, g4, g5⟩ := h7 m hm
  refine ⟨g1, g2, ?_, g4, fun k hk => ?_⟩
  · unfold upd
    by_cases hmi : m = i
    · rw [if_pos hmi]; exact nI_inR (a := 1) (b := 6) (by omega) (by omega) (by decide)
    · rw [if_neg hmi]; exact g3
  · unfold upd at hk
    by_cases hmi : m = i
    · rw [if_pos hmi, nt_nI (by omega)] at hk
      refine g5 k ?_
      rw [hmi, eq2]; omega
    · rw [if_neg hmi] at hk
      exact g5 k hk
theorem Iv_adM {M : rM2} {iv x y : Int32} (h : Iv M) (h3' : (3 : Int32) ≤ M 20 1) (hmk : isMk M iv x y) (hne : M 20 4 ≠ 10) : Iv (adM M (nMo M) iv x y) := by
  obtain ⟨hb, eb⟩ := Iv_nM h
  have hmo := fun m (hm : m < nMo M) => Iv_mo h hm
  have hst := fun m (hm : m < nMo M) => Iv_st h hm
  have hb2 : nMo M < 10 := by
    rcases Nat.lt_or_ge (nMo M) 10 with z | z
    · exact z
    · exact absurd (by rw [eb, show nMo M = 10 by omega]; rfl) hne
  obtain ⟨n, hn10, en⟩ := natOf (n := 10) (x := M 20 1) h.1 rfl (by decide)
  have en2 : nt (M 20 1) = n := by rw [en]; exact nt_nI (by omega)
  have hiv : nt iv < n := nt_lt (by rw [← en]; have := hmk.1.2; have := h.1.2; grind) hmk.1.1 (by omega)
  have hnM := adM_nM (i := nMo M) (iv := iv) (x := x) (y := y) h
  have hnS := adM_nS (M := M) (i := nMo M) (iv := iv) (x := x) (y := y)
  obtain ⟨h1, h2, h3, h4, h5, h6, h7, h8⟩ := h
  have hrow := h6 (nt iv) (by omega)
  refine ⟨?_, ?_, ?_, ?_, ?_, ?_, fun m hm => ?_, fun j hj => ?_⟩
  · rw [adM_20, if_neg (by decide)]; exact h1
  · rw [adM_20, if_neg (by decide)]; exact h2
  · rw [adM_20, if_neg (by decide)]; exact h3
  · rw [adM_20, if_pos rfl, eb, nI_1]; exact nI_inR (a := 0) (b := 10) (by omega) (by omega) (by decide)
  · rw [adM_20, if_neg (by decide)]; exact h5
  · rw [adM_20, if_neg (by decide), adM_o (Or.inl rfl)]; exact h6
  · rw [hnM] at hm
    rw [adM_1, adM_3, adM_4]
    by_cases hmi : m = nMo M
    · rw [if_pos hmi, if_pos hmi, if_pos hmi, nt_1]
      refine ⟨⟨h3', h1.2⟩, hmk.1, by decide, fun k hk => ?_, fun k hk => ?_⟩
      · rw [adM_2, if_pos (by omega), show 10 * m + k - 10 * nMo M = k by omega]
        exact h6 k hk
      · rw [adM_5, adM_6, if_pos (by omega), if_pos (by omega)]
        have := hmk.2
        exact ⟨⟨this.1.1, by have := hrow.2; have := hmk.2.1.2; grind⟩, this.2⟩
    · have hm2 : m < nMo M := by omega
      obtain ⟨q, _, hq6, _, eq2⟩ := hst m hm2
      obtain ⟨p, _, hp10, _, ep2⟩ := hmo m hm2
      obtain ⟨g1, g2, g3, g4, g5⟩ := h7 m hm2
      rw [if_neg hmi, if_neg hmi, if_neg hmi]
      refine ⟨g1, g2, g3, fun k hk => ?_, fun k hk => ?_⟩
      · rw [adM_2, if_neg (by omega)]; exact g4 k hk
      · rw [adM_5, adM_6, if_neg (by omega), if_neg (by omega)]; exact g5 k hk
  · rw [hnS] at hj
    rw [adM_o (a := 7) (by omega), adM_o (a := 8) (by omega), adM_o (a := 9) (by omega), adM_o (a := 10) (by omega), adM_o (a := 11) (by omega)]
    exact h8 j hj
theorem Iv_adS {M : rM2} {iv x y : Int32} (h : Iv M) (h2' : (2 : Int32) ≤ M 20 1) (hmk : iv = -1 ∨ isMk M iv x y) (hne : M 20 11 ≠ 30) : Iv (adS M (nSh M) iv x y) := by
  obtain ⟨hb, eb⟩ := Iv_nS h
  have hsh := fun m (hm : m < nSh M) => Iv_sh h hm
  have hb2 : nSh M < 30 := by
    rcases Nat.lt_or_ge (nSh M) 30 with z | z
    · exact z
    · exact absurd (by rw [eb, show nSh M = 30 by omega]; rfl) hne
  obtain ⟨n, hn10, en⟩ := natOf (n := 10) (x := M 20 1) h.1 rfl (by decide)
  have en2 : nt (M 20 1) = n := by rw [en]; exact nt_nI (by omega)
  have hnS := adS_nS (i := nSh M) (iv := iv) (x := x) (y := y) h
  have hnM := adS_nM (M := M) (i := nSh M) (iv := iv) (x := x) (y := y)
  obtain ⟨h1, h2, h3, h4, h5, h6, h7, h8⟩ := h
  refine ⟨?_, ?_, ?_, ?_, ?_, ?_, fun m hm => ?_, fun j hj => ?_⟩
  · rw [adS_20, if_neg (by decide)]; exact h1
  · rw [adS_20, if_neg (by decide)]; exact h2
  · rw [adS_20, if_neg (by decide)]; exact h3
  · rw [adS_20, if_neg (by decide)]; exact h4
  · rw [adS_20, if_pos rfl, eb, nI_1]; exact nI_inR (a := 0) (b := 30) (by omega) (by omega) (by decide)
  · rw [adS_20, if_neg (by decide), adS_o (by decide)]; exact h6
  · rw [hnM] at hm
    rw [adS_o (a := 1) (by decide), adS_o (a := 2) (by decide), adS_o (a := 3) (by decide), adS_o (a := 4) (by decide), adS_o (a := 5) (by decide), adS_o (a := 6) (by decide)]
    exact h7 m hm
  · rw [hnS] at hj
    rw [adS_7, adS_9, adS_10, adS_11]
    by_cases hji : j = nSh M
    · rw [if_pos hji, if_pos hji, if_pos hji, if_pos hji]
      refine ⟨⟨h2', h1.2⟩, fun k hk => ?_, ?_⟩
      · rw [adS_8, if_pos (by omega), show 10 * j + k - 10 * nSh M = k by omega]
        exact h6 k hk
      · rcases hmk with hmk | hmk
        · exact Or.inl hmk
        · have hiv : nt iv < n := nt_lt (by rw [← en]; have := hmk.1.2; have := h1.2; grind) hmk.1.1 (by omega)
          refine Or.inr ⟨hmk.1, ?_, hmk.2.2⟩
          rw [adS_8, if_pos (by omega), show 10 * j + nt iv - 10 * nSh M = nt iv by omega]
          exact hmk.2.1
    · have hj2 : j < nSh M := by omega
      obtain ⟨p, _, hp10, ep, ep2⟩ := hsh j hj2
      obtain ⟨g1, g2, g3⟩ := h8 j hj2
      rw [if_neg hji, if_neg hji, if_neg hji, if_neg hji]
      refine ⟨g1, fun k hk => ?_, ?_⟩
      · rw [adS_8, if_neg (by omega)]; exact g2 k hk
      · rcases g3 with g3 | g3
        · exact Or.inl g3
        · have h9 : nt (M 9 j) < p := nt_lt (by rw [← ep]; have := g3.1.2; have := g1.1; grind) g3.1.1 (by omega)
          refine Or.inr ⟨g3.1, ?_, g3.2.2⟩
          rw [adS_8, if_neg (by omega)]
          exact g3.2.1
theorem isMo_nt {M : rM2} {p : Int32} (h : Iv M) (hp : isMo M p) : nt p < nMo M := nt_lt (by rw [← (Iv_nM h).2]; have := hp.2; have := h.2.2.2.1; grind) hp.1 (by have := (Iv_nM h).1; omega)
theorem Iv_M0 : Iv M0 := by
  refine ⟨by decide, by decide, by decide, by decide, by decide, fun k hk => ?_, fun i hi => ?_, fun j hj => ?_⟩
  · exact absurd (show k < nt 0 from hk) (by rw [nt_0]; omega)
  · exact absurd (show i < nt 0 from hi) (by rw [nt_0]; omega)
  · exact absurd (show j < nt 0 from hj) (by rw [nt_0]; omega)
theorem Sm_0 : Sm L0 K0 M0 := by
  refine ⟨rfl, rfl, rfl, rfl, rfl, ?_, fun i hi => ?_, fun j hj => ?_⟩
  · rw [K0_row (by decide), M0_row (by decide)]
  · exact absurd (show i < nt 0 from hi) (by rw [nt_0]; omega)
  · exact absurd (show j < nt 0 from hj) (by rw [nt_0]; omega)
theorem Sc_0 : Sc C0 M0 := fun j i hj _ => absurd (show j < nt 0 from hj) (by rw [nt_0]; omega)
theorem Iv_clearRow {M : rM2} (h : Iv M) : Iv (sp_clearRow M).2 := Iv_clear h
theorem Iv_addToRow {M : rM2} {v : Int32} (h : Iv M) : Iv (sp_addToRow M v).2 := by
  unfold sp_addToRow
  split
  · rename_i h1
    split
    · exact h
    · rename_i h2; exact Iv_add h h1 h2
  · exact h
theorem Iv_setTolerances {M : rM2} {a b : Int32} (h : Iv M) : Iv (sp_setTolerances M a b).2 := by
  unfold sp_setTolerances
  split
  · rename_i h1; exact Iv_tol h h1.1 h1.2
  · exact h
theorem Iv_addMould {M : rM2} {iv x y : Int32} (h : Iv M) : Iv (sp_addMould M iv x y).2 := by
  unfold sp_addMould
  split
  · exact h
  · rename_i h1
    split
    · rename_i h2
      split
      · exact h
      · rename_i h3; exact Iv_adM h (Int32.not_lt.mp h1) h2 h3
    · exact h
theorem Iv_addState {M : rM2} {p x y : Int32} (h : Iv M) : Iv (sp_addState M p x y).2 := by
  unfold sp_addState
  split
  · rename_i h1
    have hp := isMo_nt h h1
    split
    · rename_i h2
      split
      · exact h
      · rename_i h3
        obtain ⟨n, _, hn10, en, en2⟩ := Iv_mo h hp
        obtain ⟨g1, g2, g3, g4, g5⟩ := h.2.2.2.2.2.2.1 (nt p) hp
        have h9 : nt (M 3 (nt p)) < n := nt_lt (by rw [← en]; have := g2.2; have := g1.1; grind) g2.1 (by omega)
        have hx := (g4 (nt (M 3 (nt p))) (by omega)).2
        exact Iv_ps h hp h3 ⟨h2.1.1, by have := h2.1.2; grind⟩ h2.2
    · exact h
  · exact h
theorem Iv_removeState {M : rM2} {p : Int32} (h : Iv M) : Iv (sp_removeState M p).2 := by
  unfold sp_removeState
  split
  · rename_i h1
    split
    · exact h
    · rename_i h2; exact Iv_rs h (isMo_nt h h1) h2
  · exact h
theorem Iv_addSheet {M : rM2} {iv x y : Int32} (h : Iv M) : Iv (sp_addSheet M iv x y).2 := by
  unfold sp_addSheet
  split
  · exact h
  · rename_i h1
    split
    · rename_i h2
      split
      · exact h
      · rename_i h3; exact Iv_adS h (Int32.not_lt.mp h1) h2 h3
    · exact h
theorem Iv_setDates {M : rM2} {p a b : Int32} (h : Iv M) : Iv (sp_setDates M p a b).2 := by
  unfold sp_setDates
  split
  · split
    · exact Iv_dt h
    · exact h
  · exact h
theorem Iv_stateCount {M : rM2} {p : Int32} (h : Iv M) : Iv (sp_stateCount M p).2 := by
  unfold sp_stateCount
  split
  · exact h
  · exact h
