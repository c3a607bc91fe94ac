/-! ===== states and order, as the class has them ===== -/
def stB (b : gB) : Prop := ∀ r, b = some r → r.2.2.2.2 = -6 ∨ 0 ≤ r.2.2.2.2
theorem plF_S {M : rM2} (hM : Iv M) {j i t o : Nat} (hj : j < nSh M) (hi : i < nMo M) {f : Int32} (hf : inR 940 f 1000) {q : Int32 × Int32} (h : plF M j i t o f = some q) : q.2 = -6 ∨ 0 ≤ q.2 := by
  unfold plF at h
  split at h
  · cases h
  · split at h
    · cases h; exact Or.inl rfl
    · rename_i h9
      obtain ⟨x1, x2, -⟩ := pxy_R (t := t) hM hj h9
      generalize nI o + (if rvT t = true then M 7 j - 1 - M 9 j else M 9 j) = z at h
      split at h
      · split at h
        · cases h
        · rename_i q0 hq0
          cases h
          obtain ⟨n, hn1, hn6, en, en2⟩ := Iv_st hM hi
          have h5 := (msF_R x1 x2 hf (fun k hk => by have := (hM.2.2.2.2.2.2.1 i hi).2.2.2.2 k hk; exact ⟨this.1, by grind⟩) hq0).1
          exact Or.inr (nI_pos' (by omega))
      · cases h
theorem stF_S {t o : Nat} {f : Int32} {p : Option (Int32 × Int32)} {b : gB} (hp : ∀ q, p = some q → q.2 = -6 ∨ 0 ≤ q.2) (hb : stB b) : stB (stF t o f p b) := by
  intro r hr
  unfold stF at hr
  split at hr
  · exact hb r hr
  · rename_i q
    split at hr
    · cases hr; exact hp q rfl
    · split at hr
      · cases hr; exact hp q rfl
      · cases hr; exact hb _ rfl
theorem bF_S {M : rM2} (hM : Iv M) {j i t o : Nat} (hj : j < nSh M) (hi : i < nMo M) {b : gB} (hb : stB b) : ∀ {k : Nat}, k ≤ 13 → stB (bF M j i t o k b)
  | 0, _ => hb
  | k + 1, hk => stF_S (fun q hq => plF_S hM hj hi (fc_R (by omega)) hq) (bF_S hM hj hi hb (by omega))
theorem bO_S {M : rM2} (hM : Iv M) {j i t : Nat} (hj : j < nSh M) (hi : i < nMo M) {b : gB} (hb : stB b) : ∀ {o : Nat}, stB (bO M j i t o b)
  | 0 => hb
  | o + 1 => bF_S hM hj hi (bO_S hM hj hi hb) (Nat.le_refl _)
theorem bT_S {M : rM2} (hM : Iv M) {j i : Nat} (hj : j < nSh M) (hi : i < nMo M) : ∀ {t : Nat}, stB (bT M j i t none)
  | 0 => fun r h => by cases h
  | t + 1 => bO_S hM hj hi (bT_S hM hj hi)
theorem fb_S {M : rM2} (hM : Iv M) {j i : Nat} (hj : j < nSh M) (hi : i < nMo M) : stB (fb M j i) := bT_S hM hj hi
/-- an assignment is the best placement on its mould -/
theorem asF_fb {M : rM2} {j : Nat} : ∀ {k : Nat} {a : Nat × Int32 × Int32}, asF M j k = some a → ∃ b, fb M j a.1 = some b ∧ a.2.1 = b.2.2.2.2 ∧ a.2.2 = b.1
  | 0, a, h => by simp [asF] at h
  | k + 1, a, h => by
    rw [asF_s] at h
    unfold asS at h
    split at h
    · exact asF_fb h
    · rename_i b hb
      split at h
      · cases h; exact ⟨b, hb, rfl, rfl⟩
      · rename_i a0 h0
        split at h
        · cases h; exact ⟨b, hb, rfl, rfl⟩
        · cases h; exact asF_fb h0
theorem aG_of {M : rM2} {j : Nat} (h : ¬ moF M j < 0) : ∃ a b, aG M j = some a ∧ moF M j = nI a.1 ∧ a.1 < nMo M ∧ fb M j a.1 = some b ∧ soF M j = b.2.2.2.2 ∧ scF M j = b.1 := by
  cases ha : aG M j with
  | none => exact absurd (by unfold moF; rw [ha]; decide) h
  | some a =>
    obtain ⟨b, hb, h1, h2⟩ := asF_fb ha
    refine ⟨a, b, rfl, by unfold moF; rw [ha]; rfl, asF_lt ha, hb, by unfold soF; rw [ha]; exact h1, by unfold scF; rw [ha]; exact h2⟩
theorem moF_ok {M : rM2} (hM : Iv M) {j : Nat} : moF M j = -6 ∨ 0 ≤ moF M j := by
  unfold moF
  cases ha : aG M j with
  | none => exact Or.inl rfl
  | some a => exact Or.inr (nI_pos' (by have := asF_lt ha; have := (Iv_nM hM).1; omega))
theorem soF_ok {M : rM2} (hM : Iv M) {j : Nat} (hj : j < nSh M) : soF M j = -6 ∨ 0 ≤ soF M j := by
  rcases moF_ok (j := j) hM with h | h
  · left
    unfold soF
    cases ha : aG M j with
    | none => rfl
    | some a =>
      exfalso
      have h2 : moF M j = nI a.1 := by unfold moF; rw [ha]; rfl
      rw [h2] at h
      exact absurd (show nI a.1 < 0 by rw [h]; decide) (nI_pos (by have := asF_lt ha; have := (Iv_nM hM).1; omega))
  · obtain ⟨a, b, -, -, h3, h4, h5, -⟩ := aG_of (Int32.not_lt.mpr h)
    rw [h5]
    exact fb_S hM hj h3 b h4
/-- what gatherStates lays: the state of sheet x on mould p, or -1 -/
def stG (M : rM2) (p : Int32) (x : Nat) : Int32 := if 0 ≤ p ∧ moF M x = p then stC (soF M x) else -1
abbrev slG (M : rM2) (p : Int32) (a b : Nat) : Prop := ¬ stG M p a = -1 ∧ stG M p a < stG M p b
theorem stG_on {M : rM2} {p : Int32} {x : Nat} (hs : soF M x = -6 ∨ 0 ≤ soF M x) (hp : 0 ≤ p) : ¬ stG M p x = -1 ↔ onF M x p := by
  unfold stG stC
  grind
theorem stG_val {M : rM2} {p : Int32} {x : Nat} (hs : soF M x = -6 ∨ 0 ≤ soF M x) (hp : 0 ≤ p) (h : onF M x p) : stG M p x = soF M x := by
  unfold stG stC
  grind
theorem slG_iff {M : rM2} {p : Int32} {a b : Nat} (ha : soF M a = -6 ∨ 0 ≤ soF M a) (hb : soF M b = -6 ∨ 0 ≤ soF M b) : slG M p a b ↔ (0 ≤ p ∧ moF M a = p ∧ moF M b = p ∧ 0 ≤ soF M a ∧ soF M a < soF M b) := by
  unfold slG stG stC
  grind
def eaG (M : rM2) (p : Int32) (j : Nat) : Nat → Int32
  | 0 => M 12 j
  | k + 1 => if slG M p k j ∧ eaG M p j k < M 12 k then M 12 k else eaG M p j k
def laG (M : rM2) (p : Int32) (j : Nat) : Nat → Int32
  | 0 => M 13 j
  | k + 1 => if slG M p j k ∧ M 13 k < laG M p j k then M 13 k else laG M p j k
theorem eaG_s {M : rM2} {p : Int32} {j k : Nat} : eaG M p j (k + 1) = if slG M p k j ∧ eaG M p j k < M 12 k then M 12 k else eaG M p j k := rfl
theorem laG_s {M : rM2} {p : Int32} {j k : Nat} : laG M p j (k + 1) = if slG M p j k ∧ M 13 k < laG M p j k then M 13 k else laG M p j k := rfl
theorem low_iff {M : rM2} (hM : Iv M) {p : Int32} {a b : Nat} (ha : a < nSh M) (hb : b < nSh M) (h : moF M a = p ∨ moF M b = p) : slG M p a b ↔ lowF M a b := by
  rw [slG_iff (soF_ok hM ha) (soF_ok hM hb)]
  unfold lowF
  grind
theorem eaG_eq {M : rM2} (hM : Iv M) {p : Int32} {j : Nat} (hj : j < nSh M) (h : moF M j = p) : ∀ {k : Nat}, k ≤ nSh M → eaG M p j k = eaF M j k
  | 0, _ => rfl
  | k + 1, hk => by
    rw [eaG_s, eaF_s, eaG_eq hM hj h (by omega)]
    have := low_iff hM (p := p) (a := k) (b := j) (by omega) hj (Or.inr h)
    simp only [this]
theorem laG_eq {M : rM2} (hM : Iv M) {p : Int32} {j : Nat} (hj : j < nSh M) (h : moF M j = p) : ∀ {k : Nat}, k ≤ nSh M → laG M p j k = laF M j k
  | 0, _ => rfl
  | k + 1, hk => by
    rw [laG_s, laF_s, laG_eq hM hj h (by omega)]
    have := low_iff hM (p := p) (a := j) (b := k) hj (by omega) (Or.inl h)
    simp only [this]
def cbG (M : rM2) (p : Int32) (a b : Nat) : Prop := if stG M p a = stG M p b then (if eaG M p a (nSh M) = eaG M p b (nSh M) then a < b else eaG M p a (nSh M) < eaG M p b (nSh M)) else stG M p a < stG M p b
noncomputable def cbB (M : rM2) (p : Int32) (a b : Nat) : Int32 := @ite Int32 (cbG M p a b) (Classical.propDecidable _) 1 0
noncomputable def pcG (M : rM2) (p : Int32) (k : Nat) : Nat → Int32
  | 0 => 0
  | x + 1 => @ite Int32 (¬ stG M p x = -1 ∧ cbG M p x k) (Classical.propDecidable _) (pcG M p k x + 1) (pcG M p k x)
theorem pcG_t {M : rM2} {p : Int32} {k x : Nat} (h : ¬ stG M p x = -1 ∧ cbG M p x k) : pcG M p k (x + 1) = pcG M p k x + 1 := @if_pos _ (Classical.propDecidable _) h _ _ _
theorem pcG_f {M : rM2} {p : Int32} {k x : Nat} (h : ¬ (¬ stG M p x = -1 ∧ cbG M p x k)) : pcG M p k (x + 1) = pcG M p k x := @if_neg _ (Classical.propDecidable _) h _ _ _
theorem pcG_eq {M : rM2} (hM : Iv M) {p : Int32} (hp : 0 ≤ p) {k : Nat} (hk : k < nSh M) (ho : onF M k p) : ∀ {n : Nat}, n ≤ nSh M → pcG M p k n = anF M p k n
  | 0, _ => rfl
  | x + 1, hn => by
    have ih := pcG_eq hM hp hk ho (n := x) (by omega)
    have hx : x < nSh M := by omega
    have iff : (¬ stG M p x = -1 ∧ cbG M p x k) ↔ (onF M k p ∧ onF M x p ∧ x ≠ k ∧ ahF M x k) := by
      rw [stG_on (soF_ok hM hx) hp]
      constructor
      · rintro ⟨h1, h2⟩
        unfold cbG at h2
        rw [stG_val (soF_ok hM hx) hp h1, stG_val (soF_ok hM hk) hp ho, eaG_eq hM hx h1.1 (Nat.le_refl _), eaG_eq hM hk ho.1 (Nat.le_refl _)] at h2
        refine ⟨ho, h1, ?_, h2⟩
        intro hxk
        subst hxk
        simp at h2
      · rintro ⟨-, h1, -, h2⟩
        refine ⟨h1, ?_⟩
        unfold cbG
        rw [stG_val (soF_ok hM hx) hp h1, stG_val (soF_ok hM hk) hp ho, eaG_eq hM hx h1.1 (Nat.le_refl _), eaG_eq hM hk ho.1 (Nat.le_refl _)]
        exact h2
    rw [anF_s]
    by_cases h : ¬ stG M p x = -1 ∧ cbG M p x k
    · rw [pcG_t h, ih, if_pos (iff.mp h)]
    · rw [pcG_f h, ih, if_neg (fun z => h (iff.mpr z))]
      grind
