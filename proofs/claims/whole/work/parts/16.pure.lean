/-! ===== ranges ===== -/
theorem natOf {x b : Int32} {n : Nat} (h : inR 0 x b) (hb : b = nI n) (hn : n < 2 ^ 31) : ∃ k : Nat, k ≤ n ∧ x = nI k := by
  refine ⟨nt x, ?_, (nI_nt h.1).symm⟩
  have h1 := h.2
  rw [hb, ← nI_nt h.1] at h1
  have h2 : nt x < 2 ^ 31 := by rw [nt_toInt]; have := x.toInt_lt; omega
  exact (nI_leI h2 hn).mp h1
theorem nI_inR {a b n : Nat} (h1 : a ≤ n) (h2 : n ≤ b) (hb : b < 2 ^ 31) : inR (nI a) (nI n) (nI b) := ⟨nI_le h1 (by omega), nI_le h2 hb⟩
theorem ap_R {a b : Int32} (ha : inR 0 a 450) (hb : inR 0 b 450) : inR 0 (ap a b) 450 := by grind [ap]
theorem md_R {v f : Int32} (hv : inR 0 v 450) (hf : inR 940 f 1000) : inR 0 (v * f / 1000) 450 := by
  obtain ⟨a, ha, rfl⟩ := natOf (n := 450) hv rfl (by decide)
  obtain ⟨b, hb, rfl⟩ := natOf (n := 1000) (x := f) (b := 1000) ⟨by grind, hf.2⟩ rfl (by decide)
  have h1 : a * b ≤ 450 * 1000 := Nat.mul_le_mul ha hb
  have h2 : nI a * nI b / 1000 = nI (a * b / 1000) := by
    rw [pk_mul]
    exact pk_div (d := 1000) (by omega) (by decide) (by decide)
  rw [h2]
  exact nI_inR (a := 0) (b := 450) (Nat.zero_le _) (by omega) (by decide)
theorem ap_md_R {a v f : Int32} (ha : inR 0 a 450) (hv : inR 0 v 450) (hf : inR 940 f 1000) : inR 0 (ap a (v * f / 1000)) 450 := ap_R ha (md_R hv hf)
theorem ssF_R {S Q : Nat → Int32} {tol f : Int32} (ht : inR 0 tol 50) (hf : inR 940 f 1000) : ∀ {n : Nat} {s : Int32}, n ≤ 10 → (∀ q, q < n → inR 0 (S q) 450 ∧ inR 0 (Q q) 450) → ssF S Q tol f n = some s → inR 0 s (50 * nI n)
  | 0, s, _, _, h => by
    simp only [ssF, Option.some.injEq] at h
    subst h
    decide
  | n + 1, s, hn, hq, h => by
    unfold ssF at h
    split at h
    · cases h
    · rename_i s0 h0
      have ih := ssF_R ht hf (n := n) (by omega) (fun q hq2 => hq q (by omega)) h0
      have h1 := hq n (by omega)
      have h2 := ap_md_R h1.1 h1.2 hf
      generalize ap (S n) (Q n * f / 1000) = z at h h2
      split at h
      · cases h
      · cases h
        rw [← nI_1]
        have h3 : inR 0 (nI n) 10 := nI_inR (a := 0) (b := 10) (Nat.zero_le _) (by omega) (by decide)
        generalize nI n = w at ih h3
        have h4 : 50 * (w + 1) = 50 * w + 50 := by grind
        rw [h4]
        grind
theorem msF_R {Xs Ys : Nat → Int32} {x y mt f : Int32} (hx : inR 0 x 450) (hy : inR 0 y 450) (hf : inR 940 f 1000) : ∀ {n : Nat} {q : Nat × Int32}, (∀ k, k < n → inR 0 (Xs k) 450 ∧ inR 0 (Ys k) 450) → msF Xs Ys x y mt f n = some q → q.1 < n ∧ inR 0 q.2 900
  | 0, q, _, h => by simp [msF] at h
  | n + 1, q, hk, h => by
    have h1 := hk n (by omega)
    have a1 := ap_md_R hx h1.1 hf
    have a2 := ap_md_R hy h1.2 hf
    unfold msF at h
    generalize ap x (Xs n * f / 1000) = z1 at h a1
    generalize ap y (Ys n * f / 1000) = z2 at h a2
    have a3 : inR 0 (z1 + z2) 900 := by grind
    have old : ∀ q, msF Xs Ys x y mt f n = some q → q.1 < n + 1 ∧ inR 0 q.2 900 := fun q hq => by
      have := msF_R hx hy hf (n := n) (fun k hk2 => hk k (by omega)) hq
      exact ⟨by omega, this.2⟩
    split at h
    · split at h
      · cases h; exact ⟨Nat.lt_succ_self n, a3⟩
      · rename_i q0 h0
        split at h
        · cases h; exact ⟨Nat.lt_succ_self n, a3⟩
        · cases h; exact old q h0
    · exact old q h
/-- what holds of a sheet and a mould that are there -/
theorem Iv_sh {M : rM2} (hM : Iv M) {j : Nat} (hj : j < nSh M) : ∃ n, 2 ≤ n ∧ n ≤ 10 ∧ M 7 j = nI n ∧ nt (M 7 j) = n := by
  have h := (hM.2.2.2.2.2.2.2 j hj).1
  obtain ⟨n, hn, en⟩ := natOf (n := 10) (x := M 7 j) (b := 10) ⟨by grind, h.2⟩ rfl (by decide)
  have h2 := h.1
  rw [en] at h2
  have h3 := (nI_leI (a := 2) (b := n) (by decide) (by omega)).mp h2
  exact ⟨n, h3, hn, en, by rw [en]; exact nt_nI (by omega)⟩
theorem Iv_mo {M : rM2} (hM : Iv M) {i : Nat} (hi : i < nMo M) : ∃ n, 3 ≤ n ∧ n ≤ 10 ∧ M 1 i = nI n ∧ nt (M 1 i) = n := by
  have h := (hM.2.2.2.2.2.2.1 i hi).1
  obtain ⟨n, hn, en⟩ := natOf (n := 10) (x := M 1 i) (b := 10) ⟨by grind, h.2⟩ rfl (by decide)
  have h2 := h.1
  rw [en] at h2
  have h3 := (nI_leI (a := 3) (b := n) (by decide) (by omega)).mp h2
  exact ⟨n, h3, hn, en, by rw [en]; exact nt_nI (by omega)⟩
theorem Iv_st {M : rM2} (hM : Iv M) {i : Nat} (hi : i < nMo M) : ∃ n, 1 ≤ n ∧ n ≤ 6 ∧ M 4 i = nI n ∧ nt (M 4 i) = n := by
  have h := (hM.2.2.2.2.2.2.1 i hi).2.2.1
  obtain ⟨n, hn, en⟩ := natOf (n := 6) (x := M 4 i) (b := 6) ⟨by grind, h.2⟩ rfl (by decide)
  have h2 := h.1
  rw [en] at h2
  have h3 := (nI_leI (a := 1) (b := n) (by decide) (by omega)).mp h2
  exact ⟨n, h3, hn, en, by rw [en]; exact nt_nI (by omega)⟩
theorem Iv_nM {M : rM2} (hM : Iv M) : nMo M ≤ 10 ∧ M 20 4 = nI (nMo M) := by
  obtain ⟨n, hn, en⟩ := natOf (n := 10) hM.2.2.2.1 rfl (by decide)
  have h : nMo M = n := by unfold nMo; rw [en]; exact nt_nI (by omega)
  exact ⟨by omega, by rw [h]; exact en⟩
theorem Iv_nS {M : rM2} (hM : Iv M) : nSh M ≤ 30 ∧ M 20 11 = nI (nSh M) := by
  obtain ⟨n, hn, en⟩ := natOf (n := 30) hM.2.2.2.2.1 rfl (by decide)
  have h : nSh M = n := by unfold nSh; rw [en]; exact nt_nI (by omega)
  exact ⟨by omega, by rw [h]; exact en⟩
theorem sS_R {M : rM2} (hM : Iv M) {j : Nat} (hj : j < nSh M) (rv : Bool) {q : Nat} (hq : q < nt (M 7 j)) : inR 0 (sS M j rv q) 450 := by
  have h := (hM.2.2.2.2.2.2.2 j hj).2.1 (if rv then nt (M 7 j) - 1 - q else q) (by split <;> omega)
  unfold sS
  grind
theorem qQ_R {M : rM2} (hM : Iv M) {i o : Nat} (hi : i < nMo M) {q : Nat} (hq : o + q < nt (M 1 i)) : inR 0 (qQ M i o q) 450 := by
  have h := (hM.2.2.2.2.2.2.1 i hi).2.2.2.1 (o + q) hq
  unfold qQ
  rw [show 10 * i + o + q = 10 * i + (o + q) by omega]
  grind
/-- the mark's position lies in its range in every orientation -/
theorem pxy_R {M : rM2} (hM : Iv M) {j t : Nat} (hj : j < nSh M) (h9 : ¬ M 9 j < 0) : inR 0 (pxF M j t) 450 ∧ inR 0 (pyF M j t) 450 ∧ ∃ k, k < nt (M 7 j) ∧ M 9 j = nI k := by
  obtain ⟨h1, h2, h3⟩ := hM.2.2.2.2.2.2.2 j hj
  obtain ⟨n, hn2, hn10, en, en2⟩ := Iv_sh hM hj
  rcases h3 with h3 | ⟨h3, h4, h5⟩
  · exact absurd (by rw [h3]; decide) h9
  · obtain ⟨k, hk, ek⟩ := natOf (n := 9) (x := M 9 j) (b := 9) ⟨h3.1, by grind⟩ rfl (by decide)
    have hk2 : nt (M 9 j) = k := by rw [ek]; exact nt_nI (by omega)
    have hkn : k < n := by
      have h6 := h3.2
      rw [en, ek, show (1 : Int32) = nI 1 from rfl, pk_sub (by omega)] at h6
      have := (nI_leI (by omega) (by omega)).mp h6
      omega
    have h7 := h2 k (by omega)
    rw [hk2] at h4
    refine ⟨?_, ?_, k, by omega, ek⟩
    · unfold pxF
      rw [hk2]
      generalize M 8 (10 * j + k) = z at h4 h7
      split <;> grind
    · unfold pyF
      split <;> grind
theorem plF_R {M : rM2} (hM : Iv M) {j i t o : Nat} (hj : j < nSh M) (hi : i < nMo M) (ho : o + nt (M 7 j) ≤ nt (M 1 i)) {f : Int32} (hf : inR 940 f 1000) {q : Int32 × Int32} (h : plF M j i t o f = some q) : 0 ≤ q.1 := by
  obtain ⟨n, hn2, hn10, en, en2⟩ := Iv_sh hM hj
  unfold plF at h
  split at h
  · cases h
  · rename_i s hs
    have hs2 := ssF_R hM.2.1 hf (by omega) (fun q hq => ⟨sS_R hM hj _ hq, qQ_R hM hi (by omega)⟩) hs
    have hn3 : inR 0 (50 * nI (nt (M 7 j))) 500 := by
      rw [en2, show (50 : Int32) = nI 50 from rfl, pk_mul]
      exact nI_inR (a := 0) (b := 500) (Nat.zero_le _) (by omega) (by decide)
    split at h
    · cases h; exact hs2.1
    · rename_i h9
      obtain ⟨x1, x2, -⟩ := pxy_R (t := t) hM hj h9
      generalize nI o + (if rvT t = true then M 7 j - 1 - M 9 j else M 9 j) = z at h
      split at h
      · split at h
        · cases h
        · rename_i q0 hq0
          cases h
          have h5 := (msF_R x1 x2 hf (fun k hk => by have := (hM.2.2.2.2.2.2.1 i hi).2.2.2.2 k hk; exact ⟨this.1, by grind⟩) hq0).2
          show 0 ≤ s + q0.2
          grind
      · cases h
/-- an int for an answer that may not be there -/
def oI (o : Option Int32) : Int32 := match o with | none => -6 | some s => s
