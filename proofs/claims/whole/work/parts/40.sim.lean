/-! ===== the class's lasting state beside the reference's ===== -/
def Sm (L : Nat → Nat → Nat) (K : rM3) (M : rM2) : Prop := L 2 0 = nMo M ∧ L 2 1 = nSh M ∧ K 0 1 0 = M 20 1 ∧ K 0 2 0 = M 20 2 ∧ K 0 3 0 = M 20 3 ∧ K 1 0 = M 0 ∧
  (∀ i, i < nMo M → L 0 i = nt (M 1 i) ∧ K 2 i 1 = M 3 i ∧ K 2 i 2 = M 2 (10 * i + nt (M 3 i)) ∧ K 2 i 5 = M 4 i ∧ (∀ k, k < L 0 i → K 3 i k = M 2 (10 * i + k)) ∧ ∀ k, k < nt (M 4 i) → K 4 i k = M 5 (6 * i + k) ∧ K 5 i k = M 6 (6 * i + k)) ∧
  ∀ j, j < nSh M → L 1 j = nt (M 7 j) ∧ K 6 j 1 = M 9 j ∧ K 6 j 2 = M 10 j ∧ K 6 j 3 = M 11 j ∧ K 6 j 4 = M 12 j ∧ K 6 j 5 = M 13 j ∧ ∀ k, k < L 1 j → K 7 j k = M 8 (10 * j + k)
/-- a state as the class has it -/
def stC (s : Int32) : Int32 := if s = -6 then -1 else s
/-- a kept match holds the best placement b -/
def mtB (C : rM3) (r : Nat) (b : gB) : Prop := match b with
  | none => C 8 r 1 = 0
  | some q => C 8 r 1 = 1 ∧ C 8 r 2 = q.1 ∧ C 8 r 3 = q.2.1 ∧ C 8 r 4 = q.2.2.1 ∧ C 8 r 5 = q.2.2.2.1 ∧ C 8 r 6 = stC q.2.2.2.2
def Sc (C : rM3) (M : rM2) : Prop := ∀ j i, j < nSh M → i < 10 → C 8 (16 * j + i) 0 = 0 ∨ (C 8 (16 * j + i) 0 = 1 ∧ i < nMo M ∧ mtB C (16 * j + i) (fb M j i))
/-- a public call of the class: its answer and what lasts, by the specification -/
def pKl (X : gX) (lo : gL) (e0 : gE) (a : gA) : gP := fun v lo' en' => (∀ k, 1000 ≤ k → lo' k = lo k) ∧ lo' 0 = lo 0 ∧ ∃ r : Int32, v = some (.int r) ∧ r = a.1 ∧ ∃ (L' : Nat → Nat → Nat) (K' C' : rM3), en' = enC X lo' L' K' C' e0 ∧ Sm L' K' a.2 ∧ Sc C' a.2
theorem pKl_i {X : gX} {lo : gL} {e0 : gE} {a : gA} {r : Int32} {L' : Nat → Nat → Nat} {K' C' : rM3} (h1 : r = a.1) (h2 : Sm L' K' a.2) (h3 : Sc C' a.2) : pKl X lo e0 a (some (.int r)) lo (enC X lo L' K' C' e0) := ⟨fun _ _ => rfl, rfl, r, rfl, h1, L', K', C', rfl, h2, h3⟩
/-! ===== what the best placement depends on ===== -/
theorem ssF_cg {S Q S' Q' : Nat → Int32} {tol f : Int32} : ∀ {n : Nat}, (∀ q, q < n → S' q = S q) → (∀ q, q < n → Q' q = Q q) → ssF S' Q' tol f n = ssF S Q tol f n
  | 0, _, _ => rfl
  | n + 1, h1, h2 => by
    unfold ssF
    rw [ssF_cg (fun q hq => h1 q (by omega)) (fun q hq => h2 q (by omega)), h1 n (by omega), h2 n (by omega)]
theorem msF_cg {A B A' B' : Nat → Int32} {x y mt f : Int32} : ∀ {n : Nat}, (∀ q, q < n → A' q = A q ∧ B' q = B q) → msF A' B' x y mt f n = msF A B x y mt f n
  | 0, _ => rfl
  | n + 1, h => by
    unfold msF
    rw [msF_cg (fun q hq => h q (by omega)), (h n (by omega)).1, (h n (by omega)).2]
/-- M' says the same of sheet j and mould i -/
def cg (M M' : rM2) (j i : Nat) : Prop := M' 7 j = M 7 j ∧ (∀ k, k < 10 → M' 8 (10 * j + k) = M 8 (10 * j + k)) ∧ M' 9 j = M 9 j ∧ M' 10 j = M 10 j ∧ M' 11 j = M 11 j ∧ M' 1 i = M 1 i ∧ (∀ k, k < 10 → M' 2 (10 * i + k) = M 2 (10 * i + k)) ∧ M' 3 i = M 3 i ∧ M' 4 i = M 4 i ∧ (∀ k, k < nt (M 4 i) → M' 5 (6 * i + k) = M 5 (6 * i + k) ∧ M' 6 (6 * i + k) = M 6 (6 * i + k)) ∧ M' 20 2 = M 20 2 ∧ M' 20 3 = M 20 3
theorem plF_cg {M M' : rM2} (hM : Iv M) {j i t o : Nat} {f : Int32} (hj : j < nSh M) (hi : i < nMo M) (ho : o + nt (M 7 j) ≤ nt (M 1 i)) (h : cg M M' j i) : plF M' j i t o f = plF M j i t o f := by
  obtain ⟨h7, h8, h9, h10, h11, h1, h2, h3, h4, h56, ht, hm⟩ := h
  obtain ⟨n, hn2, hn10, en, en2⟩ := Iv_sh hM hj
  obtain ⟨n', hn2', hn10', en', en2'⟩ := Iv_mo hM hi
  have e1 : ssF (sS M' j (rvT t)) (qQ M' i o) (M' 20 2) f (nt (M' 7 j)) = ssF (sS M j (rvT t)) (qQ M i o) (M 20 2) f (nt (M 7 j)) := by
    rw [h7, ht]
    refine ssF_cg (fun q hq => ?_) (fun q hq => ?_)
    · unfold sS
      rw [h7]
      exact h8 _ (by split <;> omega)
    · unfold qQ
      rw [show 10 * i + o + q = 10 * i + (o + q) by omega]
      exact h2 _ (by omega)
  have e2 : ∀ x y, msM M' i x y f (nt (M' 4 i)) = msM M i x y f (nt (M 4 i)) := fun x y => by
    unfold msM
    rw [h4, hm]
    exact msF_cg (fun q hq => h56 q hq)
  unfold plF
  rw [e1, h7, h9, h3]
  split
  · rfl
  · by_cases c9 : M 9 j < 0
    · rw [if_pos c9, if_pos c9]
    · obtain ⟨-, -, k, hk, ek⟩ := pxy_R (t := t) hM hj c9
      have hk2 : nt (M 9 j) = k := by rw [ek]; exact nt_nI (by omega)
      have e3 : pxF M' j t = pxF M j t := by unfold pxF; rw [h9, h10, hk2, h8 k (by omega)]
      have e4 : pyF M' j t = pyF M j t := by unfold pyF; rw [h11]
      rw [if_neg c9, if_neg c9, e3, e4, e2]
theorem fb_cg {M M' : rM2} (hM : Iv M) {j i : Nat} (hj : j < nSh M) (hi : i < nMo M) (h : cg M M' j i) : fb M' j i = fb M j i := by
  have hN : nO M' j i = nO M j i := by unfold nO; rw [h.1, h.2.2.2.2.2.1]
  have hF : ∀ t o, o < nO M j i → ∀ k b, bF M' j i t o k b = bF M j i t o k b := by
    intro t o ho k b
    induction k with
    | zero => rfl
    | succ k ih => unfold bF; rw [ih, plF_cg hM hj hi (nO_le ho) h]
  have hO : ∀ t o, o ≤ nO M j i → ∀ b, bO M' j i t o b = bO M j i t o b := by
    intro t o
    induction o with
    | zero => intro _ _; rfl
    | succ o ih => intro ho b; unfold bO; rw [ih (by omega), hF t o (by omega)]
  have hT : ∀ t b, bT M' j i t b = bT M j i t b := by
    intro t
    induction t with
    | zero => intro _; rfl
    | succ t ih => intro b; unfold bT; rw [ih, hN, hO t _ (Nat.le_refl _)]
  exact hT 4 none
/-- the kept matches stay right -/
theorem Sc.keep {C : rM3} {M M' : rM2} (hM : Iv M) (h : Sc C M) (hn : nMo M' = nMo M) (hs : nSh M' = nSh M) (hc : ∀ j i, j < nSh M → i < nMo M → cg M M' j i) : Sc C M' := by
  intro j i hj hi
  rw [hs] at hj
  rcases h j i hj hi with h0 | ⟨h1, h2, h3⟩
  · exact Or.inl h0
  · refine Or.inr ⟨h1, by rw [hn]; exact h2, ?_⟩
    rw [fb_cg hM hj h2 (hc j i hj h2)]
    exact h3
/-- what the class keeps of a mould, a sheet: in ranges -/
theorem Sm.mo {L : Nat → Nat → Nat} {K : rM3} {M : rM2} (hs : Sm L K M) {i : Nat} (hi : i < nMo M) : L 0 i = nt (M 1 i) ∧ K 2 i 1 = M 3 i ∧ K 2 i 2 = M 2 (10 * i + nt (M 3 i)) ∧ K 2 i 5 = M 4 i ∧ (∀ k, k < L 0 i → K 3 i k = M 2 (10 * i + k)) ∧ ∀ k, k < nt (M 4 i) → K 4 i k = M 5 (6 * i + k) ∧ K 5 i k = M 6 (6 * i + k) := hs.2.2.2.2.2.2.1 i hi
theorem Sm.sh {L : Nat → Nat → Nat} {K : rM3} {M : rM2} (hs : Sm L K M) {j : Nat} (hj : j < nSh M) : L 1 j = nt (M 7 j) ∧ K 6 j 1 = M 9 j ∧ K 6 j 2 = M 10 j ∧ K 6 j 3 = M 11 j ∧ K 6 j 4 = M 12 j ∧ K 6 j 5 = M 13 j ∧ ∀ k, k < L 1 j → K 7 j k = M 8 (10 * j + k) := hs.2.2.2.2.2.2.2 j hj
