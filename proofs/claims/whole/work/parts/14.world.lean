/-! ===== the reference's world (labels 1000 to 1017) and the class's (labels below 1000), as functions of raw states =====
reference: M a i (a 0 to 13: its arrays; M 20 f: its lasting numbers), T a i (a 0, 1, 2: mouldOf, stateOf, scoreBy; T 3 f: its other numbers)
class: L (lengths: L 0 i, L 1 j of the spacings; L 2 0, L 2 1: how many moulds, sheets), K (what lasts), C (view, kept matches, rows for questions) -/
def up2 (M : Nat → Nat → Int32) (a i : Nat) (v : Int32) : Nat → Nat → Int32 := fun b j => if b = a ∧ j = i then v else M b j
def up3 (K : Nat → Nat → Nat → Int32) (a i j : Nat) (v : Int32) : Nat → Nat → Nat → Int32 := fun b x y => if b = a ∧ x = i ∧ y = j then v else K b x y
theorem up2_row {M : Nat → Nat → Int32} {a b i : Nat} {v : Int32} (h : b ≠ a) : up2 M a i v b = M b := by funext j; simp [up2, h]
theorem up2_self {M : Nat → Nat → Int32} {a i : Nat} {v : Int32} : up2 M a i v a = upd (M a) i v := by funext j; simp [up2, upd]
theorem up3_row {K : Nat → Nat → Nat → Int32} {a b x i j : Nat} {v : Int32} (h : b ≠ a ∨ x ≠ i) : up3 K a i j v b x = K b x := by
  funext y
  unfold up3
  rw [if_neg]
  rintro ⟨h1, h2, -⟩
  rcases h with h | h
  · exact h h1
  · exact h h2
theorem up3_self {K : Nat → Nat → Nat → Int32} {a i j : Nat} {v : Int32} : up3 K a i j v a i = upd (K a i) j v := by funext y; simp [up3, upd]
abbrev rM2 : Type := Nat → Nat → Int32
abbrev rM3 : Type := Nat → Nat → Nat → Int32
abbrev aI (X : gX) (n : Nat) (f : Nat → Int32) : va_E := .inl (X.2 0, n, .inl f)
abbrev aQ (c : ClassId) (n : Nat) (f : Nat → Option Nat) : va_E := .inl (c, n, .inr (.inr (.inr (.inr f))))

def oR (lo : gL) (M T : rM2) : List Value := [.ref (lo 1001), .int (M 20 1), .int (M 20 2), .int (M 20 3), .int (M 20 4), .ref (lo 1002), .ref (lo 1003), .ref (lo 1004), .ref (lo 1005), .ref (lo 1006), .ref (lo 1007), .int (M 20 11), .ref (lo 1008), .ref (lo 1009), .ref (lo 1010), .ref (lo 1011), .ref (lo 1012), .ref (lo 1013), .ref (lo 1014), .int (T 3 19), .int (T 3 20), .int (T 3 21), .int (T 3 22), .int (T 3 23), .int (T 3 24), .ref (lo 1015), .ref (lo 1016), .ref (lo 1017)]
def enR (X : gX) (lo : gL) (M T : rM2) (e0 : gE) : gE := fun k =>
  if k < 1000 then e0 k else match k with
  | 1000 => some (.inr (5, oR lo M T))
  | 1001 => some (aI X 10 (M 0))
  | 1002 => some (aI X 10 (M 1))
  | 1003 => some (aI X 100 (M 2))
  | 1004 => some (aI X 10 (M 3))
  | 1005 => some (aI X 10 (M 4))
  | 1006 => some (aI X 60 (M 5))
  | 1007 => some (aI X 60 (M 6))
  | 1008 => some (aI X 30 (M 7))
  | 1009 => some (aI X 300 (M 8))
  | 1010 => some (aI X 30 (M 9))
  | 1011 => some (aI X 30 (M 10))
  | 1012 => some (aI X 30 (M 11))
  | 1013 => some (aI X 30 (M 12))
  | 1014 => some (aI X 30 (M 13))
  | 1015 => some (aI X 30 (T 0))
  | 1016 => some (aI X 30 (T 1))
  | 1017 => some (aI X 30 (T 2))
  | _ => e0 k
theorem rO {X : gX} {lo : gL} {M T : rM2} {e0 : gE} : enR X lo M T e0 1000 = some (.inr (5, oR lo M T)) := rfl
theorem rA1001 {X : gX} {lo : gL} {M T : rM2} {e0 : gE} : enR X lo M T e0 1001 = some (.inl (X.2 0, 10, .inl (M 0))) := rfl
theorem rA1002 {X : gX} {lo : gL} {M T : rM2} {e0 : gE} : enR X lo M T e0 1002 = some (.inl (X.2 0, 10, .inl (M 1))) := rfl
theorem rA1003 {X : gX} {lo : gL} {M T : rM2} {e0 : gE} : enR X lo M T e0 1003 = some (.inl (X.2 0, 100, .inl (M 2))) := rfl
theorem rA1004 {X : gX} {lo : gL} {M T : rM2} {e0 : gE} : enR X lo M T e0 1004 = some (.inl (X.2 0, 10, .inl (M 3))) := rfl
theorem rA1005 {X : gX} {lo : gL} {M T : rM2} {e0 : gE} : enR X lo M T e0 1005 = some (.inl (X.2 0, 10, .inl (M 4))) := rfl
theorem rA1006 {X : gX} {lo : gL} {M T : rM2} {e0 : gE} : enR X lo M T e0 1006 = some (.inl (X.2 0, 60, .inl (M 5))) := rfl
theorem rA1007 {X : gX} {lo : gL} {M T : rM2} {e0 : gE} : enR X lo M T e0 1007 = some (.inl (X.2 0, 60, .inl (M 6))) := rfl
theorem rA1008 {X : gX} {lo : gL} {M T : rM2} {e0 : gE} : enR X lo M T e0 1008 = some (.inl (X.2 0, 30, .inl (M 7))) := rfl
theorem rA1009 {X : gX} {lo : gL} {M T : rM2} {e0 : gE} : enR X lo M T e0 1009 = some (.inl (X.2 0, 300, .inl (M 8))) := rfl
theorem rA1010 {X : gX} {lo : gL} {M T : rM2} {e0 : gE} : enR X lo M T e0 1010 = some (.inl (X.2 0, 30, .inl (M 9))) := rfl
theorem rA1011 {X : gX} {lo : gL} {M T : rM2} {e0 : gE} : enR X lo M T e0 1011 = some (.inl (X.2 0, 30, .inl (M 10))) := rfl
theorem rA1012 {X : gX} {lo : gL} {M T : rM2} {e0 : gE} : enR X lo M T e0 1012 = some (.inl (X.2 0, 30, .inl (M 11))) := rfl
theorem rA1013 {X : gX} {lo : gL} {M T : rM2} {e0 : gE} : enR X lo M T e0 1013 = some (.inl (X.2 0, 30, .inl (M 12))) := rfl
theorem rA1014 {X : gX} {lo : gL} {M T : rM2} {e0 : gE} : enR X lo M T e0 1014 = some (.inl (X.2 0, 30, .inl (M 13))) := rfl
theorem rA1015 {X : gX} {lo : gL} {M T : rM2} {e0 : gE} : enR X lo M T e0 1015 = some (.inl (X.2 0, 30, .inl (T 0))) := rfl
theorem rA1016 {X : gX} {lo : gL} {M T : rM2} {e0 : gE} : enR X lo M T e0 1016 = some (.inl (X.2 0, 30, .inl (T 1))) := rfl
theorem rA1017 {X : gX} {lo : gL} {M T : rM2} {e0 : gE} : enR X lo M T e0 1017 = some (.inl (X.2 0, 30, .inl (T 2))) := rfl
theorem rLow {X : gX} {lo : gL} {M T : rM2} {e0 : gE} {k : Nat} (h : k < 1000) : enR X lo M T e0 k = e0 k := by simp [enR, h]
theorem enR_ext {X : gX} {lo : gL} {M T M1 T1 : rM2} {e0 : gE} {k0 : Nat} {e : va_E} (h : enR X lo M1 T1 e0 k0 = some e) (h1 : 1000 ≤ k0) (hO : k0 ≠ 1000 → oR lo M1 T1 = oR lo M T) (hA : ∀ a, a < 14 → 1001 + a ≠ k0 → M1 a = M a) (hB : ∀ a, a < 3 → 1015 + a ≠ k0 → T1 a = T a) : eup (enR X lo M T e0) k0 e = enR X lo M1 T1 e0 := by
  funext k
  by_cases hk : k = k0
  · subst hk; rw [eup_eq, h]
  · rw [eup_ne hk]
    by_cases h2 : k < 1000
    · rw [rLow h2, rLow h2]
    · by_cases h3 : 1018 ≤ k
      · unfold enR
        rw [if_neg h2, if_neg h2]
        split <;> first | omega | rfl
      · have h4 : k = 1000 ∨ ∃ a, a < 17 ∧ k = 1001 + a := by
          rcases Nat.lt_or_ge 1000 k with h | h
          · exact Or.inr ⟨k - 1001, by omega, by omega⟩
          · exact Or.inl (by omega)
        rcases h4 with rfl | ⟨a, ha, rfl⟩
        · rw [rO, rO, hO (fun z => hk z.symm)]
        · rcases (show a = 0 ∨ a = 1 ∨ a = 2 ∨ a = 3 ∨ a = 4 ∨ a = 5 ∨ a = 6 ∨ a = 7 ∨ a = 8 ∨ a = 9 ∨ a = 10 ∨ a = 11 ∨ a = 12 ∨ a = 13 ∨ a = 14 ∨ a = 15 ∨ a = 16 by omega) with rfl | rfl | rfl | rfl | rfl | rfl | rfl | rfl | rfl | rfl | rfl | rfl | rfl | rfl | rfl | rfl | rfl
          · show some (aI X _ _) = some (aI X _ _); rw [hA 0 (by decide) hk]
          · show some (aI X _ _) = some (aI X _ _); rw [hA 1 (by decide) hk]
          · show some (aI X _ _) = some (aI X _ _); rw [hA 2 (by decide) hk]
          · show some (aI X _ _) = some (aI X _ _); rw [hA 3 (by decide) hk]
          · show some (aI X _ _) = some (aI X _ _); rw [hA 4 (by decide) hk]
          · show some (aI X _ _) = some (aI X _ _); rw [hA 5 (by decide) hk]
          · show some (aI X _ _) = some (aI X _ _); rw [hA 6 (by decide) hk]
          · show some (aI X _ _) = some (aI X _ _); rw [hA 7 (by decide) hk]
          · show some (aI X _ _) = some (aI X _ _); rw [hA 8 (by decide) hk]
          · show some (aI X _ _) = some (aI X _ _); rw [hA 9 (by decide) hk]
          · show some (aI X _ _) = some (aI X _ _); rw [hA 10 (by decide) hk]
          · show some (aI X _ _) = some (aI X _ _); rw [hA 11 (by decide) hk]
          · show some (aI X _ _) = some (aI X _ _); rw [hA 12 (by decide) hk]
          · show some (aI X _ _) = some (aI X _ _); rw [hA 13 (by decide) hk]
          · show some (aI X _ _) = some (aI X _ _); rw [hB 0 (by decide) hk]
          · show some (aI X _ _) = some (aI X _ _); rw [hB 1 (by decide) hk]
          · show some (aI X _ _) = some (aI X _ _); rw [hB 2 (by decide) hk]
theorem rP1 {en1 : gE} {v : Int32} {X : gX} {lo : gL} {M T : rM2} {e0 : gE} (h : en1 = eup (enR X lo M T e0) 1000 (.inr (5, (oR lo M T).set 1 (.int v)))) : ∃ M1 : rM2, M1 = up2 M 20 1 v ∧ en1 = enR X lo M1 T e0 :=
  ⟨_, rfl, h.trans (enR_ext (by rw [rO]; simp [oR, up2]) (by decide) (fun z => absurd rfl z) (fun a ha _ => up2_row (by omega)) (fun a _ _ => rfl))⟩
theorem rP2 {en1 : gE} {v : Int32} {X : gX} {lo : gL} {M T : rM2} {e0 : gE} (h : en1 = eup (enR X lo M T e0) 1000 (.inr (5, (oR lo M T).set 2 (.int v)))) : ∃ M1 : rM2, M1 = up2 M 20 2 v ∧ en1 = enR X lo M1 T e0 :=
  ⟨_, rfl, h.trans (enR_ext (by rw [rO]; simp [oR, up2]) (by decide) (fun z => absurd rfl z) (fun a ha _ => up2_row (by omega)) (fun a _ _ => rfl))⟩
theorem rP3 {en1 : gE} {v : Int32} {X : gX} {lo : gL} {M T : rM2} {e0 : gE} (h : en1 = eup (enR X lo M T e0) 1000 (.inr (5, (oR lo M T).set 3 (.int v)))) : ∃ M1 : rM2, M1 = up2 M 20 3 v ∧ en1 = enR X lo M1 T e0 :=
  ⟨_, rfl, h.trans (enR_ext (by rw [rO]; simp [oR, up2]) (by decide) (fun z => absurd rfl z) (fun a ha _ => up2_row (by omega)) (fun a _ _ => rfl))⟩
theorem rP4 {en1 : gE} {v : Int32} {X : gX} {lo : gL} {M T : rM2} {e0 : gE} (h : en1 = eup (enR X lo M T e0) 1000 (.inr (5, (oR lo M T).set 4 (.int v)))) : ∃ M1 : rM2, M1 = up2 M 20 4 v ∧ en1 = enR X lo M1 T e0 :=
  ⟨_, rfl, h.trans (enR_ext (by rw [rO]; simp [oR, up2]) (by decide) (fun z => absurd rfl z) (fun a ha _ => up2_row (by omega)) (fun a _ _ => rfl))⟩
theorem rP11 {en1 : gE} {v : Int32} {X : gX} {lo : gL} {M T : rM2} {e0 : gE} (h : en1 = eup (enR X lo M T e0) 1000 (.inr (5, (oR lo M T).set 11 (.int v)))) : ∃ M1 : rM2, M1 = up2 M 20 11 v ∧ en1 = enR X lo M1 T e0 :=
  ⟨_, rfl, h.trans (enR_ext (by rw [rO]; simp [oR, up2]) (by decide) (fun z => absurd rfl z) (fun a ha _ => up2_row (by omega)) (fun a _ _ => rfl))⟩
theorem rP19 {en1 : gE} {v : Int32} {X : gX} {lo : gL} {M T : rM2} {e0 : gE} (h : en1 = eup (enR X lo M T e0) 1000 (.inr (5, (oR lo M T).set 19 (.int v)))) : ∃ T1 : rM2, T1 = up2 T 3 19 v ∧ en1 = enR X lo M T1 e0 :=
  ⟨_, rfl, h.trans (enR_ext (by rw [rO]; simp [oR, up2]) (by decide) (fun z => absurd rfl z) (fun a _ _ => rfl) (fun a ha _ => up2_row (by omega)))⟩
theorem rP20 {en1 : gE} {v : Int32} {X : gX} {lo : gL} {M T : rM2} {e0 : gE} (h : en1 = eup (enR X lo M T e0) 1000 (.inr (5, (oR lo M T).set 20 (.int v)))) : ∃ T1 : rM2, T1 = up2 T 3 20 v ∧ en1 = enR X lo M T1 e0 :=
  ⟨_, rfl, h.trans (enR_ext (by rw [rO]; simp [oR, up2]) (by decide) (fun z => absurd rfl z) (fun a _ _ => rfl) (fun a ha _ => up2_row (by omega)))⟩
theorem rP21 {en1 : gE} {v : Int32} {X : gX} {lo : gL} {M T : rM2} {e0 : gE} (h : en1 = eup (enR X lo M T e0) 1000 (.inr (5, (oR lo M T).set 21 (.int v)))) : ∃ T1 : rM2, T1 = up2 T 3 21 v ∧ en1 = enR X lo M T1 e0 :=
  ⟨_, rfl, h.trans (enR_ext (by rw [rO]; simp [oR, up2]) (by decide) (fun z => absurd rfl z) (fun a _ _ => rfl) (fun a ha _ => up2_row (by omega)))⟩
theorem rP22 {en1 : gE} {v : Int32} {X : gX} {lo : gL} {M T : rM2} {e0 : gE} (h : en1 = eup (enR X lo M T e0) 1000 (.inr (5, (oR lo M T).set 22 (.int v)))) : ∃ T1 : rM2, T1 = up2 T 3 22 v ∧ en1 = enR X lo M T1 e0 :=
  ⟨_, rfl, h.trans (enR_ext (by rw [rO]; simp [oR, up2]) (by decide) (fun z => absurd rfl z) (fun a _ _ => rfl) (fun a ha _ => up2_row (by omega)))⟩
theorem rP23 {en1 : gE} {v : Int32} {X : gX} {lo : gL} {M T : rM2} {e0 : gE} (h : en1 = eup (enR X lo M T e0) 1000 (.inr (5, (oR lo M T).set 23 (.int v)))) : ∃ T1 : rM2, T1 = up2 T 3 23 v ∧ en1 = enR X lo M T1 e0 :=
  ⟨_, rfl, h.trans (enR_ext (by rw [rO]; simp [oR, up2]) (by decide) (fun z => absurd rfl z) (fun a _ _ => rfl) (fun a ha _ => up2_row (by omega)))⟩
theorem rP24 {en1 : gE} {v : Int32} {X : gX} {lo : gL} {M T : rM2} {e0 : gE} (h : en1 = eup (enR X lo M T e0) 1000 (.inr (5, (oR lo M T).set 24 (.int v)))) : ∃ T1 : rM2, T1 = up2 T 3 24 v ∧ en1 = enR X lo M T1 e0 :=
  ⟨_, rfl, h.trans (enR_ext (by rw [rO]; simp [oR, up2]) (by decide) (fun z => absurd rfl z) (fun a _ _ => rfl) (fun a ha _ => up2_row (by omega)))⟩
theorem rQ1001 {en1 : gE} {i : Nat} {v : Int32} {X : gX} {lo : gL} {M T : rM2} {e0 : gE} (h : en1 = eup (enR X lo M T e0) 1001 (.inl (X.2 0, 10, .inl (upd (M 0) i v)))) : ∃ M1 : rM2, M1 = up2 M 0 i v ∧ en1 = enR X lo M1 T e0 :=
  ⟨_, rfl, h.trans (enR_ext (by rw [rA1001, up2_self]) (by decide) (fun _ => by simp [oR, up2]) (fun a _ hn => up2_row (by omega)) (fun a _ _ => rfl))⟩
theorem rQ1002 {en1 : gE} {i : Nat} {v : Int32} {X : gX} {lo : gL} {M T : rM2} {e0 : gE} (h : en1 = eup (enR X lo M T e0) 1002 (.inl (X.2 0, 10, .inl (upd (M 1) i v)))) : ∃ M1 : rM2, M1 = up2 M 1 i v ∧ en1 = enR X lo M1 T e0 :=
  ⟨_, rfl, h.trans (enR_ext (by rw [rA1002, up2_self]) (by decide) (fun _ => by simp [oR, up2]) (fun a _ hn => up2_row (by omega)) (fun a _ _ => rfl))⟩
theorem rQ1003 {en1 : gE} {i : Nat} {v : Int32} {X : gX} {lo : gL} {M T : rM2} {e0 : gE} (h : en1 = eup (enR X lo M T e0) 1003 (.inl (X.2 0, 100, .inl (upd (M 2) i v)))) : ∃ M1 : rM2, M1 = up2 M 2 i v ∧ en1 = enR X lo M1 T e0 :=
  ⟨_, rfl, h.trans (enR_ext (by rw [rA1003, up2_self]) (by decide) (fun _ => by simp [oR, up2]) (fun a _ hn => up2_row (by omega)) (fun a _ _ => rfl))⟩
theorem rQ1004 {en1 : gE} {i : Nat} {v : Int32} {X : gX} {lo : gL} {M T : rM2} {e0 : gE} (h : en1 = eup (enR X lo M T e0) 1004 (.inl (X.2 0, 10, .inl (upd (M 3) i v)))) : ∃ M1 : rM2, M1 = up2 M 3 i v ∧ en1 = enR X lo M1 T e0 :=
  ⟨_, rfl, h.trans (enR_ext (by rw [rA1004, up2_self]) (by decide) (fun _ => by simp [oR, up2]) (fun a _ hn => up2_row (by omega)) (fun a _ _ => rfl))⟩
theorem rQ1005 {en1 : gE} {i : Nat} {v : Int32} {X : gX} {lo : gL} {M T : rM2} {e0 : gE} (h : en1 = eup (enR X lo M T e0) 1005 (.inl (X.2 0, 10, .inl (upd (M 4) i v)))) : ∃ M1 : rM2, M1 = up2 M 4 i v ∧ en1 = enR X lo M1 T e0 :=
  ⟨_, rfl, h.trans (enR_ext (by rw [rA1005, up2_self]) (by decide) (fun _ => by simp [oR, up2]) (fun a _ hn => up2_row (by omega)) (fun a _ _ => rfl))⟩
theorem rQ1006 {en1 : gE} {i : Nat} {v : Int32} {X : gX} {lo : gL} {M T : rM2} {e0 : gE} (h : en1 = eup (enR X lo M T e0) 1006 (.inl (X.2 0, 60, .inl (upd (M 5) i v)))) : ∃ M1 : rM2, M1 = up2 M 5 i v ∧ en1 = enR X lo M1 T e0 :=
  ⟨_, rfl, h.trans (enR_ext (by rw [rA1006, up2_self]) (by decide) (fun _ => by simp [oR, up2]) (fun a _ hn => up2_row (by omega)) (fun a _ _ => rfl))⟩
theorem rQ1007 {en1 : gE} {i : Nat} {v : Int32} {X : gX} {lo : gL} {M T : rM2} {e0 : gE} (h : en1 = eup (enR X lo M T e0) 1007 (.inl (X.2 0, 60, .inl (upd (M 6) i v)))) : ∃ M1 : rM2, M1 = up2 M 6 i v ∧ en1 = enR X lo M1 T e0 :=
  ⟨_, rfl, h.trans (enR_ext (by rw [rA1007, up2_self]) (by decide) (fun _ => by simp [oR, up2]) (fun a _ hn => up2_row (by omega)) (fun a _ _ => rfl))⟩
theorem rQ1008 {en1 : gE} {i : Nat} {v : Int32} {X : gX} {lo : gL} {M T : rM2} {e0 : gE} (h : en1 = eup (enR X lo M T e0) 1008 (.inl (X.2 0, 30, .inl (upd (M 7) i v)))) : ∃ M1 : rM2, M1 = up2 M 7 i v ∧ en1 = enR X lo M1 T e0 :=
  ⟨_, rfl, h.trans (enR_ext (by rw [rA1008, up2_self]) (by decide) (fun _ => by simp [oR, up2]) (fun a _ hn => up2_row (by omega)) (fun a _ _ => rfl))⟩
theorem rQ1009 {en1 : gE} {i : Nat} {v : Int32} {X : gX} {lo : gL} {M T : rM2} {e0 : gE} (h : en1 = eup (enR X lo M T e0) 1009 (.inl (X.2 0, 300, .inl (upd (M 8) i v)))) : ∃ M1 : rM2, M1 = up2 M 8 i v ∧ en1 = enR X lo M1 T e0 :=
  ⟨_, rfl, h.trans (enR_ext (by rw [rA1009, up2_self]) (by decide) (fun _ => by simp [oR, up2]) (fun a _ hn => up2_row (by omega)) (fun a _ _ => rfl))⟩
theorem rQ1010 {en1 : gE} {i : Nat} {v : Int32} {X : gX} {lo : gL} {M T : rM2} {e0 : gE} (h : en1 = eup (enR X lo M T e0) 1010 (.inl (X.2 0, 30, .inl (upd (M 9) i v)))) : ∃ M1 : rM2, M1 = up2 M 9 i v ∧ en1 = enR X lo M1 T e0 :=
  ⟨_, rfl, h.trans (enR_ext (by rw [rA1010, up2_self]) (by decide) (fun _ => by simp [oR, up2]) (fun a _ hn => up2_row (by omega)) (fun a _ _ => rfl))⟩
theorem rQ1011 {en1 : gE} {i : Nat} {v : Int32} {X : gX} {lo : gL} {M T : rM2} {e0 : gE} (h : en1 = eup (enR X lo M T e0) 1011 (.inl (X.2 0, 30, .inl (upd (M 10) i v)))) : ∃ M1 : rM2, M1 = up2 M 10 i v ∧ en1 = enR X lo M1 T e0 :=
  ⟨_, rfl, h.trans (enR_ext (by rw [rA1011, up2_self]) (by decide) (fun _ => by simp [oR, up2]) (fun a _ hn => up2_row (by omega)) (fun a _ _ => rfl))⟩
theorem rQ1012 {en1 : gE} {i : Nat} {v : Int32} {X : gX} {lo : gL} {M T : rM2} {e0 : gE} (h : en1 = eup (enR X lo M T e0) 1012 (.inl (X.2 0, 30, .inl (upd (M 11) i v)))) : ∃ M1 : rM2, M1 = up2 M 11 i v ∧ en1 = enR X lo M1 T e0 :=
  ⟨_, rfl, h.trans (enR_ext (by rw [rA1012, up2_self]) (by decide) (fun _ => by simp [oR, up2]) (fun a _ hn => up2_row (by omega)) (fun a _ _ => rfl))⟩
theorem rQ1013 {en1 : gE} {i : Nat} {v : Int32} {X : gX} {lo : gL} {M T : rM2} {e0 : gE} (h : en1 = eup (enR X lo M T e0) 1013 (.inl (X.2 0, 30, .inl (upd (M 12) i v)))) : ∃ M1 : rM2, M1 = up2 M 12 i v ∧ en1 = enR X lo M1 T e0 :=
  ⟨_, rfl, h.trans (enR_ext (by rw [rA1013, up2_self]) (by decide) (fun _ => by simp [oR, up2]) (fun a _ hn => up2_row (by omega)) (fun a _ _ => rfl))⟩
theorem rQ1014 {en1 : gE} {i : Nat} {v : Int32} {X : gX} {lo : gL} {M T : rM2} {e0 : gE} (h : en1 = eup (enR X lo M T e0) 1014 (.inl (X.2 0, 30, .inl (upd (M 13) i v)))) : ∃ M1 : rM2, M1 = up2 M 13 i v ∧ en1 = enR X lo M1 T e0 :=
  ⟨_, rfl, h.trans (enR_ext (by rw [rA1014, up2_self]) (by decide) (fun _ => by simp [oR, up2]) (fun a _ hn => up2_row (by omega)) (fun a _ _ => rfl))⟩
theorem rQ1015 {en1 : gE} {i : Nat} {v : Int32} {X : gX} {lo : gL} {M T : rM2} {e0 : gE} (h : en1 = eup (enR X lo M T e0) 1015 (.inl (X.2 0, 30, .inl (upd (T 0) i v)))) : ∃ T1 : rM2, T1 = up2 T 0 i v ∧ en1 = enR X lo M T1 e0 :=
  ⟨_, rfl, h.trans (enR_ext (by rw [rA1015, up2_self]) (by decide) (fun _ => by simp [oR, up2]) (fun a _ _ => rfl) (fun a _ hn => up2_row (by omega)))⟩
theorem rQ1016 {en1 : gE} {i : Nat} {v : Int32} {X : gX} {lo : gL} {M T : rM2} {e0 : gE} (h : en1 = eup (enR X lo M T e0) 1016 (.inl (X.2 0, 30, .inl (upd (T 1) i v)))) : ∃ T1 : rM2, T1 = up2 T 1 i v ∧ en1 = enR X lo M T1 e0 :=
  ⟨_, rfl, h.trans (enR_ext (by rw [rA1016, up2_self]) (by decide) (fun _ => by simp [oR, up2]) (fun a _ _ => rfl) (fun a _ hn => up2_row (by omega)))⟩
theorem rQ1017 {en1 : gE} {i : Nat} {v : Int32} {X : gX} {lo : gL} {M T : rM2} {e0 : gE} (h : en1 = eup (enR X lo M T e0) 1017 (.inl (X.2 0, 30, .inl (upd (T 2) i v)))) : ∃ T1 : rM2, T1 = up2 T 2 i v ∧ en1 = enR X lo M T1 e0 :=
  ⟨_, rfl, h.trans (enR_ext (by rw [rA1017, up2_self]) (by decide) (fun _ => by simp [oR, up2]) (fun a _ _ => rfl) (fun a _ hn => up2_row (by omega)))⟩
def oC (lo : gL) (L : Nat → Nat → Nat) (K : rM3) : List Value := [.ref (lo 1), .int (K 0 1 0), .int (K 0 2 0), .int (K 0 3 0), .ref (lo 2), .int (nI (L 2 0)), .ref (lo 3), .int (nI (L 2 1)), .ref (lo 4), .ref (lo 6), .ref (lo 7)]
def oV (lo : gL) (C : rM3) : List Value := [.ref (lo 5), .int (C 9 0 1), .int (C 9 0 2), .int (C 9 0 3), .int (C 9 0 4), .int (C 9 0 5)]
def oM (lo : gL) (K : rM3) (i : Nat) : List Value := [.ref (lo (101 + 4 * i)), .int (K 2 i 1), .int (K 2 i 2), .ref (lo (102 + 4 * i)), .ref (lo (103 + 4 * i)), .int (K 2 i 5)]
def oS (lo : gL) (K : rM3) (j : Nat) : List Value := [.ref (lo (201 + 16 * j)), .int (K 6 j 1), .int (K 6 j 2), .int (K 6 j 3), .int (K 6 j 4), .int (K 6 j 5), .ref (lo (202 + 16 * j))]
def oT (C : rM3) (r : Nat) : List Value := [.int (C 8 r 0), .int (C 8 r 1), .int (C 8 r 2), .int (C 8 r 3), .int (C 8 r 4), .int (C 8 r 5), .int (C 8 r 6)]
def qM (lo : gL) (n : Nat) : Nat → Option Nat := fun i => if i < n then some (lo (100 + 4 * i)) else none
def qS (lo : gL) (n : Nat) : Nat → Option Nat := fun j => if j < n then some (lo (200 + 16 * j)) else none
def qT (lo : gL) (j : Nat) : Nat → Option Nat := fun i => if i < 10 then some (lo (203 + (16 * j + i))) else none
def enC0 (X : gX) (lo : gL) (L : Nat → Nat → Nat) (K C : rM3) (k : Nat) : Option va_E := match k with
  | 0 => some (.inr (4, oC lo L K))
  | 1 => some (aI X 10 (K 1 0))
  | 2 => some (aQ (X.2 1) 10 (qM lo (L 2 0)))
  | 3 => some (aQ (X.2 2) 30 (qS lo (L 2 1)))
  | 4 => some (.inr (3, oV lo C))
  | 5 => some (aI X 10 (C 10 0))
  | 6 => some (aI X 30 (C 11 0))
  | 7 => some (aI X 30 (C 12 0))
  | _ => none
def enCm (X : gX) (lo : gL) (L : Nat → Nat → Nat) (K : rM3) (i r : Nat) : Option va_E := match r with
  | 0 => some (.inr (1, oM lo K i))
  | 1 => some (aI X (L 0 i) (K 3 i))
  | 2 => some (aI X 6 (K 4 i))
  | _ => some (aI X 6 (K 5 i))
def enCs (X : gX) (lo : gL) (L : Nat → Nat → Nat) (K C : rM3) (j r : Nat) : Option va_E := match r with
  | 0 => some (.inr (2, oS lo K j))
  | 1 => some (aI X (L 1 j) (K 7 j))
  | 2 => some (aQ (X.2 3) 10 (qT lo j))
  | r + 3 => if r < 10 then some (.inr (0, oT C (16 * j + r))) else none
def enC (X : gX) (lo : gL) (L : Nat → Nat → Nat) (K C : rM3) (e0 : gE) : gE := fun k =>
  if 1000 ≤ k then e0 k else if k < 100 then enC0 X lo L K C k
  else if k < 200 then (if (k - 100) / 4 < L 2 0 then enCm X lo L K ((k - 100) / 4) ((k - 100) % 4) else none)
  else if (k - 200) / 16 < L 2 1 then enCs X lo L K C ((k - 200) / 16) ((k - 200) % 16) else none
theorem cO {X : gX} {lo : gL} {L : Nat → Nat → Nat} {K C : rM3} {e0 : gE} : enC X lo L K C e0 0 = some (.inr (4, oC lo L K)) := rfl
theorem cA1 {X : gX} {lo : gL} {L : Nat → Nat → Nat} {K C : rM3} {e0 : gE} : enC X lo L K C e0 1 = some (.inl (X.2 0, 10, .inl (K 1 0))) := rfl
theorem cA2 {X : gX} {lo : gL} {L : Nat → Nat → Nat} {K C : rM3} {e0 : gE} : enC X lo L K C e0 2 = some (.inl (X.2 1, 10, .inr (.inr (.inr (.inr (qM lo (L 2 0))))))) := rfl
theorem cA3 {X : gX} {lo : gL} {L : Nat → Nat → Nat} {K C : rM3} {e0 : gE} : enC X lo L K C e0 3 = some (.inl (X.2 2, 30, .inr (.inr (.inr (.inr (qS lo (L 2 1))))))) := rfl
theorem cV {X : gX} {lo : gL} {L : Nat → Nat → Nat} {K C : rM3} {e0 : gE} : enC X lo L K C e0 4 = some (.inr (3, oV lo C)) := rfl
theorem cA5 {X : gX} {lo : gL} {L : Nat → Nat → Nat} {K C : rM3} {e0 : gE} : enC X lo L K C e0 5 = some (.inl (X.2 0, 10, .inl (C 10 0))) := rfl
theorem cA6 {X : gX} {lo : gL} {L : Nat → Nat → Nat} {K C : rM3} {e0 : gE} : enC X lo L K C e0 6 = some (.inl (X.2 0, 30, .inl (C 11 0))) := rfl
theorem cA7 {X : gX} {lo : gL} {L : Nat → Nat → Nat} {K C : rM3} {e0 : gE} : enC X lo L K C e0 7 = some (.inl (X.2 0, 30, .inl (C 12 0))) := rfl
theorem enC_m {X : gX} {lo : gL} {L : Nat → Nat → Nat} {K C : rM3} {e0 : gE} {i r : Nat} (hi : i < L 2 0) (h10 : i < 25) (hr : r < 4) : enC X lo L K C e0 (100 + 4 * i + r) = enCm X lo L K i r := by
  unfold enC
  rw [if_neg (by omega), if_neg (by omega), if_pos (by omega)]
  have h1 : (100 + 4 * i + r - 100) / 4 = i := by omega
  have h2 : (100 + 4 * i + r - 100) % 4 = r := by omega
  rw [h1, h2, if_pos hi]
theorem enC_s {X : gX} {lo : gL} {L : Nat → Nat → Nat} {K C : rM3} {e0 : gE} {j r : Nat} (hj : j < L 2 1) (h30 : j < 50) (hr : r < 16) : enC X lo L K C e0 (200 + 16 * j + r) = enCs X lo L K C j r := by
  unfold enC
  rw [if_neg (by omega), if_neg (by omega), if_neg (by omega)]
  have h1 : (200 + 16 * j + r - 200) / 16 = j := by omega
  have h2 : (200 + 16 * j + r - 200) % 16 = r := by omega
  rw [h1, h2, if_pos hj]
theorem cM {X : gX} {lo : gL} {L : Nat → Nat → Nat} {K C : rM3} {e0 : gE} {i : Nat} (hi : i < L 2 0) (h10 : i < 25) : enC X lo L K C e0 (100 + 4 * i) = some (.inr (1, oM lo K i)) := enC_m (r := 0) hi h10 (by decide)
theorem cM1 {X : gX} {lo : gL} {L : Nat → Nat → Nat} {K C : rM3} {e0 : gE} {i : Nat} (hi : i < L 2 0) (h10 : i < 25) : enC X lo L K C e0 (101 + 4 * i) = some (.inl (X.2 0, L 0 i, .inl (K 3 i))) := by have h := enC_m (X := X) (lo := lo) (K := K) (C := C) (e0 := e0) (r := 1) hi h10 (by decide); rwa [show 100 + 4 * i + 1 = 101 + 4 * i by omega] at h
theorem cM2 {X : gX} {lo : gL} {L : Nat → Nat → Nat} {K C : rM3} {e0 : gE} {i : Nat} (hi : i < L 2 0) (h10 : i < 25) : enC X lo L K C e0 (102 + 4 * i) = some (.inl (X.2 0, 6, .inl (K 4 i))) := by have h := enC_m (X := X) (lo := lo) (K := K) (C := C) (e0 := e0) (r := 2) hi h10 (by decide); rwa [show 100 + 4 * i + 2 = 102 + 4 * i by omega] at h
theorem cM3 {X : gX} {lo : gL} {L : Nat → Nat → Nat} {K C : rM3} {e0 : gE} {i : Nat} (hi : i < L 2 0) (h10 : i < 25) : enC X lo L K C e0 (103 + 4 * i) = some (.inl (X.2 0, 6, .inl (K 5 i))) := by have h := enC_m (X := X) (lo := lo) (K := K) (C := C) (e0 := e0) (r := 3) hi h10 (by decide); rwa [show 100 + 4 * i + 3 = 103 + 4 * i by omega] at h
theorem cS {X : gX} {lo : gL} {L : Nat → Nat → Nat} {K C : rM3} {e0 : gE} {j : Nat} (hj : j < L 2 1) (h30 : j < 50) : enC X lo L K C e0 (200 + 16 * j) = some (.inr (2, oS lo K j)) := enC_s (r := 0) hj h30 (by decide)
theorem cS1 {X : gX} {lo : gL} {L : Nat → Nat → Nat} {K C : rM3} {e0 : gE} {j : Nat} (hj : j < L 2 1) (h30 : j < 50) : enC X lo L K C e0 (201 + 16 * j) = some (.inl (X.2 0, L 1 j, .inl (K 7 j))) := by have h := enC_s (X := X) (lo := lo) (K := K) (C := C) (e0 := e0) (r := 1) hj h30 (by decide); rwa [show 200 + 16 * j + 1 = 201 + 16 * j by omega] at h
theorem cS2 {X : gX} {lo : gL} {L : Nat → Nat → Nat} {K C : rM3} {e0 : gE} {j : Nat} (hj : j < L 2 1) (h30 : j < 50) : enC X lo L K C e0 (202 + 16 * j) = some (.inl (X.2 3, 10, .inr (.inr (.inr (.inr (qT lo j)))))) := by have h := enC_s (X := X) (lo := lo) (K := K) (C := C) (e0 := e0) (r := 2) hj h30 (by decide); rwa [show 200 + 16 * j + 2 = 202 + 16 * j by omega] at h
theorem cT {X : gX} {lo : gL} {L : Nat → Nat → Nat} {K C : rM3} {e0 : gE} {j i : Nat} (hj : j < L 2 1) (h30 : j < 50) (hi : i < 10) : enC X lo L K C e0 (203 + (16 * j + i)) = some (.inr (0, oT C (16 * j + i))) := by
  have h := enC_s (X := X) (lo := lo) (K := K) (C := C) (e0 := e0) (r := i + 3) hj h30 (by omega)
  rw [show 200 + 16 * j + (i + 3) = 203 + (16 * j + i) by omega] at h
  rw [h]
  show (if i < 10 then some (Sum.inr (0, oT C (16 * j + i))) else none) = _
  rw [if_pos hi]
theorem cHi {X : gX} {lo : gL} {L : Nat → Nat → Nat} {K C : rM3} {e0 : gE} {k : Nat} (h : 1000 ≤ k) : enC X lo L K C e0 k = e0 k := by simp [enC, h]
/-- which label holds a row of the raw states -/
def ownC (b x : Nat) : Nat := match b with
  | 0 => 0 | 1 => 1 | 2 => 100 + 4 * x | 3 => 101 + 4 * x | 4 => 102 + 4 * x | 5 => 103 + 4 * x | 6 => 200 + 16 * x | 7 => 201 + 16 * x | 8 => 203 + x | 9 => 4 | 10 => 5 | 11 => 6 | 12 => 7 | _ => 999
theorem enC0_same {X : gX} {lo : gL} {L : Nat → Nat → Nat} {K C K1 C1 : rM3} {k : Nat} (hK : ∀ b x, ownC b x = k → K1 b x = K b x) (hCc : ∀ b x, ownC b x = k → C1 b x = C b x) : enC0 X lo L K1 C1 k = enC0 X lo L K C k := by
  rcases (show k = 0 ∨ k = 1 ∨ k = 2 ∨ k = 3 ∨ k = 4 ∨ k = 5 ∨ k = 6 ∨ k = 7 ∨ 8 ≤ k by omega) with rfl | rfl | rfl | rfl | rfl | rfl | rfl | rfl | h8
  · show some (Sum.inr (4, oC lo L K1)) = some (Sum.inr (4, oC lo L K))
    unfold oC; rw [hK 0 1 rfl, hK 0 2 rfl, hK 0 3 rfl]
  · show some (aI X 10 (K1 1 0)) = some (aI X 10 (K 1 0)); rw [hK 1 0 rfl]
  · rfl
  · rfl
  · show some (Sum.inr (3, oV lo C1)) = some (Sum.inr (3, oV lo C)); unfold oV; rw [hCc 9 0 rfl]
  · show some (aI X 10 (C1 10 0)) = some (aI X 10 (C 10 0)); rw [hCc 10 0 rfl]
  · show some (aI X 30 (C1 11 0)) = some (aI X 30 (C 11 0)); rw [hCc 11 0 rfl]
  · show some (aI X 30 (C1 12 0)) = some (aI X 30 (C 12 0)); rw [hCc 12 0 rfl]
  · obtain ⟨n, rfl⟩ : ∃ n, k = n + 8 := ⟨k - 8, by omega⟩
    rfl
theorem enCm_same {X : gX} {lo : gL} {L : Nat → Nat → Nat} {K K1 : rM3} {i r : Nat} (hr : r < 4) (hK : ∀ b x, ownC b x = 100 + 4 * i + r → K1 b x = K b x) : enCm X lo L K1 i r = enCm X lo L K i r := by
  rcases (show r = 0 ∨ r = 1 ∨ r = 2 ∨ r = 3 by omega) with rfl | rfl | rfl | rfl
  · have h : K1 2 i = K 2 i := hK 2 i rfl
    show some (Sum.inr (1, oM lo K1 i)) = some (Sum.inr (1, oM lo K i)); unfold oM; rw [h]
  · have h : K1 3 i = K 3 i := hK 3 i (by show 101 + 4 * i = 100 + 4 * i + 1; omega)
    show some (aI X (L 0 i) (K1 3 i)) = some (aI X (L 0 i) (K 3 i)); rw [h]
  · have h : K1 4 i = K 4 i := hK 4 i (by show 102 + 4 * i = 100 + 4 * i + 2; omega)
    show some (aI X 6 (K1 4 i)) = some (aI X 6 (K 4 i)); rw [h]
  · have h : K1 5 i = K 5 i := hK 5 i (by show 103 + 4 * i = 100 + 4 * i + 3; omega)
    show some (aI X 6 (K1 5 i)) = some (aI X 6 (K 5 i)); rw [h]
theorem enCs_same {X : gX} {lo : gL} {L : Nat → Nat → Nat} {K C K1 C1 : rM3} {j r : Nat} (hK : ∀ b x, ownC b x = 200 + 16 * j + r → K1 b x = K b x) (hCc : ∀ b x, ownC b x = 200 + 16 * j + r → C1 b x = C b x) : enCs X lo L K1 C1 j r = enCs X lo L K C j r := by
  rcases (show r = 0 ∨ r = 1 ∨ r = 2 ∨ 3 ≤ r by omega) with rfl | rfl | rfl | h3
  · have h : K1 6 j = K 6 j := hK 6 j rfl
    show some (Sum.inr (2, oS lo K1 j)) = some (Sum.inr (2, oS lo K j)); unfold oS; rw [h]
  · have h : K1 7 j = K 7 j := hK 7 j (by show 201 + 16 * j = 200 + 16 * j + 1; omega)
    show some (aI X (L 1 j) (K1 7 j)) = some (aI X (L 1 j) (K 7 j)); rw [h]
  · rfl
  · obtain ⟨n, rfl⟩ : ∃ n, r = n + 3 := ⟨r - 3, by omega⟩
    have h : C1 8 (16 * j + n) = C 8 (16 * j + n) := hCc 8 (16 * j + n) (by show 203 + (16 * j + n) = 200 + 16 * j + (n + 3); omega)
    show (if n < 10 then some (Sum.inr (0, oT C1 (16 * j + n))) else none) = (if n < 10 then some (Sum.inr (0, oT C (16 * j + n))) else none)
    unfold oT; rw [h]
theorem enC_same {X : gX} {lo : gL} {L : Nat → Nat → Nat} {K C K1 C1 : rM3} {e0 : gE} {k : Nat} (hK : ∀ b x, ownC b x = k → K1 b x = K b x) (hCc : ∀ b x, ownC b x = k → C1 b x = C b x) : enC X lo L K1 C1 e0 k = enC X lo L K C e0 k := by
  unfold enC
  by_cases h1 : 1000 ≤ k
  · rw [if_pos h1, if_pos h1]
  rw [if_neg h1, if_neg h1]
  by_cases h2 : k < 100
  · rw [if_pos h2, if_pos h2]
    exact enC0_same hK hCc
  rw [if_neg h2, if_neg h2]
  by_cases h3 : k < 200
  · rw [if_pos h3, if_pos h3, enCm_same (Nat.mod_lt _ (by decide)) (fun b x hb => hK b x (by rw [hb]; omega))]
  · rw [if_neg h3, if_neg h3, enCs_same (fun b x hb => hK b x (by rw [hb]; omega)) (fun b x hb => hCc b x (by rw [hb]; omega))]
/-- a write into what lasts -/
theorem cWK {X : gX} {lo : gL} {L : Nat → Nat → Nat} {K C : rM3} {e0 : gE} {a i j : Nat} {v : Int32} {e : va_E} {en1 : gE} {k : Nat} (hk : ownC a i = k) (he : enC X lo L (up3 K a i j v) C e0 k = some e) (h : en1 = eup (enC X lo L K C e0) k e) : ∃ K1 : rM3, K1 = up3 K a i j v ∧ en1 = enC X lo L K1 C e0 := by
  refine ⟨_, rfl, h.trans ?_⟩
  funext q
  by_cases hq : q = k
  · rw [hq, eup_eq, he]
  · rw [eup_ne hq]
    refine (enC_same (fun b x hb => up3_row ?_) (fun _ _ _ => rfl)).symm
    by_cases h1 : b = a
    · subst h1
      exact Or.inr (fun z => hq (by rw [← hb, z, hk]))
    · exact Or.inl h1
/-- a write into the rows for questions -/
theorem cWC {X : gX} {lo : gL} {L : Nat → Nat → Nat} {K C : rM3} {e0 : gE} {a i j : Nat} {v : Int32} {e : va_E} {en1 : gE} {k : Nat} (hk : ownC a i = k) (he : enC X lo L K (up3 C a i j v) e0 k = some e) (h : en1 = eup (enC X lo L K C e0) k e) : ∃ C1 : rM3, C1 = up3 C a i j v ∧ en1 = enC X lo L K C1 e0 := by
  refine ⟨_, rfl, h.trans ?_⟩
  funext q
  by_cases hq : q = k
  · rw [hq, eup_eq, he]
  · rw [eup_ne hq]
    refine (enC_same (fun _ _ _ => rfl) (fun b x hb => up3_row ?_)).symm
    by_cases h1 : b = a
    · subst h1
      exact Or.inr (fun z => hq (by rw [← hb, z, hk]))
    · exact Or.inl h1
theorem cP0_1 {X : gX} {lo : gL} {L : Nat → Nat → Nat} {K C : rM3} {e0 : gE} {en1 : gE} {v : Int32} (h : en1 = eup (enC X lo L K C e0) 0 (.inr (4, (oC lo L K).set 1 (.int v)))) : ∃ K1 : rM3, K1 = up3 K 0 1 0 v ∧ en1 = enC X lo L K1 C e0 := cWK (k := 0) (a := 0) (i := 1) (j := 0) rfl (by rw [cO]; simp [oC, up3]) h
theorem cP0_2 {X : gX} {lo : gL} {L : Nat → Nat → Nat} {K C : rM3} {e0 : gE} {en1 : gE} {v : Int32} (h : en1 = eup (enC X lo L K C e0) 0 (.inr (4, (oC lo L K).set 2 (.int v)))) : ∃ K1 : rM3, K1 = up3 K 0 2 0 v ∧ en1 = enC X lo L K1 C e0 := cWK (k := 0) (a := 0) (i := 2) (j := 0) rfl (by rw [cO]; simp [oC, up3]) h
theorem cP0_3 {X : gX} {lo : gL} {L : Nat → Nat → Nat} {K C : rM3} {e0 : gE} {en1 : gE} {v : Int32} (h : en1 = eup (enC X lo L K C e0) 0 (.inr (4, (oC lo L K).set 3 (.int v)))) : ∃ K1 : rM3, K1 = up3 K 0 3 0 v ∧ en1 = enC X lo L K1 C e0 := cWK (k := 0) (a := 0) (i := 3) (j := 0) rfl (by rw [cO]; simp [oC, up3]) h
theorem cQ1 {X : gX} {lo : gL} {L : Nat → Nat → Nat} {K C : rM3} {e0 : gE} {en1 : gE} {j : Nat} {v : Int32} (h : en1 = eup (enC X lo L K C e0) 1 (.inl (X.2 0, 10, .inl (upd (K 1 0) j v)))) : ∃ K1 : rM3, K1 = up3 K 1 0 j v ∧ en1 = enC X lo L K1 C e0 := cWK (k := 1) (a := 1) (i := 0) (j := j) rfl (by rw [cA1, up3_self]) h
theorem cPM5 {X : gX} {lo : gL} {L : Nat → Nat → Nat} {K C : rM3} {e0 : gE} {en1 : gE} {i : Nat} {v : Int32} (hi : i < L 2 0) (h10 : i < 25) (h : en1 = eup (enC X lo L K C e0) (100 + 4 * i) (.inr (1, (oM lo K i).set 5 (.int v)))) : ∃ K1 : rM3, K1 = up3 K 2 i 5 v ∧ en1 = enC X lo L K1 C e0 := cWK (k := 100 + 4 * i) (a := 2) (i := i) (j := 5) rfl (by rw [cM hi h10]; simp [oM, up3]) h
theorem cQM2 {X : gX} {lo : gL} {L : Nat → Nat → Nat} {K C : rM3} {e0 : gE} {en1 : gE} {i j : Nat} {v : Int32} (hi : i < L 2 0) (h10 : i < 25) (h : en1 = eup (enC X lo L K C e0) (102 + 4 * i) (.inl (X.2 0, 6, .inl (upd (K 4 i) j v)))) : ∃ K1 : rM3, K1 = up3 K 4 i j v ∧ en1 = enC X lo L K1 C e0 := cWK (k := 102 + 4 * i) (a := 4) (i := i) (j := j) rfl (by rw [cM2 hi h10, up3_self]) h
theorem cQM3 {X : gX} {lo : gL} {L : Nat → Nat → Nat} {K C : rM3} {e0 : gE} {en1 : gE} {i j : Nat} {v : Int32} (hi : i < L 2 0) (h10 : i < 25) (h : en1 = eup (enC X lo L K C e0) (103 + 4 * i) (.inl (X.2 0, 6, .inl (upd (K 5 i) j v)))) : ∃ K1 : rM3, K1 = up3 K 5 i j v ∧ en1 = enC X lo L K1 C e0 := cWK (k := 103 + 4 * i) (a := 5) (i := i) (j := j) rfl (by rw [cM3 hi h10, up3_self]) h
theorem cPS4 {X : gX} {lo : gL} {L : Nat → Nat → Nat} {K C : rM3} {e0 : gE} {en1 : gE} {j : Nat} {v : Int32} (hj : j < L 2 1) (h30 : j < 50) (h : en1 = eup (enC X lo L K C e0) (200 + 16 * j) (.inr (2, (oS lo K j).set 4 (.int v)))) : ∃ K1 : rM3, K1 = up3 K 6 j 4 v ∧ en1 = enC X lo L K1 C e0 := cWK (k := 200 + 16 * j) (a := 6) (i := j) (j := 4) rfl (by rw [cS hj h30]; simp [oS, up3]) h
theorem cPS5 {X : gX} {lo : gL} {L : Nat → Nat → Nat} {K C : rM3} {e0 : gE} {en1 : gE} {j : Nat} {v : Int32} (hj : j < L 2 1) (h30 : j < 50) (h : en1 = eup (enC X lo L K C e0) (200 + 16 * j) (.inr (2, (oS lo K j).set 5 (.int v)))) : ∃ K1 : rM3, K1 = up3 K 6 j 5 v ∧ en1 = enC X lo L K1 C e0 := cWK (k := 200 + 16 * j) (a := 6) (i := j) (j := 5) rfl (by rw [cS hj h30]; simp [oS, up3]) h
theorem cPT0 {X : gX} {lo : gL} {L : Nat → Nat → Nat} {K C : rM3} {e0 : gE} {en1 : gE} {j i : Nat} {v : Int32} (hj : j < L 2 1) (h30 : j < 50) (hi : i < 10) (h : en1 = eup (enC X lo L K C e0) (203 + (16 * j + i)) (.inr (0, (oT C (16 * j + i)).set 0 (.int v)))) : ∃ C1 : rM3, C1 = up3 C 8 (16 * j + i) 0 v ∧ en1 = enC X lo L K C1 e0 := cWC (k := 203 + (16 * j + i)) (a := 8) (i := 16 * j + i) (j := 0) rfl (by rw [cT hj h30 hi]; simp [oT, up3]) h
theorem cPT1 {X : gX} {lo : gL} {L : Nat → Nat → Nat} {K C : rM3} {e0 : gE} {en1 : gE} {j i : Nat} {v : Int32} (hj : j < L 2 1) (h30 : j < 50) (hi : i < 10) (h : en1 = eup (enC X lo L K C e0) (203 + (16 * j + i)) (.inr (0, (oT C (16 * j + i)).set 1 (.int v)))) : ∃ C1 : rM3, C1 = up3 C 8 (16 * j + i) 1 v ∧ en1 = enC X lo L K C1 e0 := cWC (k := 203 + (16 * j + i)) (a := 8) (i := 16 * j + i) (j := 1) rfl (by rw [cT hj h30 hi]; simp [oT, up3]) h
theorem cPT2 {X : gX} {lo : gL} {L : Nat → Nat → Nat} {K C : rM3} {e0 : gE} {en1 : gE} {j i : Nat} {v : Int32} (hj : j < L 2 1) (h30 : j < 50) (hi : i < 10) (h : en1 = eup (enC X lo L K C e0) (203 + (16 * j + i)) (.inr (0, (oT C (16 * j + i)).set 2 (.int v)))) : ∃ C1 : rM3, C1 = up3 C 8 (16 * j + i) 2 v ∧ en1 = enC X lo L K C1 e0 := cWC (k := 203 + (16 * j + i)) (a := 8) (i := 16 * j + i) (j := 2) rfl (by rw [cT hj h30 hi]; simp [oT, up3]) h
theorem cPT3 {X : gX} {lo : gL} {L : Nat → Nat → Nat} {K C : rM3} {e0 : gE} {en1 : gE} {j i : Nat} {v : Int32} (hj : j < L 2 1) (h30 : j < 50) (hi : i < 10) (h : en1 = eup (enC X lo L K C e0) (203 + (16 * j + i)) (.inr (0, (oT C (16 * j + i)).set 3 (.int v)))) : ∃ C1 : rM3, C1 = up3 C 8 (16 * j + i) 3 v ∧ en1 = enC X lo L K C1 e0 := cWC (k := 203 + (16 * j + i)) (a := 8) (i := 16 * j + i) (j := 3) rfl (by rw [cT hj h30 hi]; simp [oT, up3]) h
theorem cPT4 {X : gX} {lo : gL} {L : Nat → Nat → Nat} {K C : rM3} {e0 : gE} {en1 : gE} {j i : Nat} {v : Int32} (hj : j < L 2 1) (h30 : j < 50) (hi : i < 10) (h : en1 = eup (enC X lo L K C e0) (203 + (16 * j + i)) (.inr (0, (oT C (16 * j + i)).set 4 (.int v)))) : ∃ C1 : rM3, C1 = up3 C 8 (16 * j + i) 4 v ∧ en1 = enC X lo L K C1 e0 := cWC (k := 203 + (16 * j + i)) (a := 8) (i := 16 * j + i) (j := 4) rfl (by rw [cT hj h30 hi]; simp [oT, up3]) h
theorem cPT5 {X : gX} {lo : gL} {L : Nat → Nat → Nat} {K C : rM3} {e0 : gE} {en1 : gE} {j i : Nat} {v : Int32} (hj : j < L 2 1) (h30 : j < 50) (hi : i < 10) (h : en1 = eup (enC X lo L K C e0) (203 + (16 * j + i)) (.inr (0, (oT C (16 * j + i)).set 5 (.int v)))) : ∃ C1 : rM3, C1 = up3 C 8 (16 * j + i) 5 v ∧ en1 = enC X lo L K C1 e0 := cWC (k := 203 + (16 * j + i)) (a := 8) (i := 16 * j + i) (j := 5) rfl (by rw [cT hj h30 hi]; simp [oT, up3]) h
theorem cPT6 {X : gX} {lo : gL} {L : Nat → Nat → Nat} {K C : rM3} {e0 : gE} {en1 : gE} {j i : Nat} {v : Int32} (hj : j < L 2 1) (h30 : j < 50) (hi : i < 10) (h : en1 = eup (enC X lo L K C e0) (203 + (16 * j + i)) (.inr (0, (oT C (16 * j + i)).set 6 (.int v)))) : ∃ C1 : rM3, C1 = up3 C 8 (16 * j + i) 6 v ∧ en1 = enC X lo L K C1 e0 := cWC (k := 203 + (16 * j + i)) (a := 8) (i := 16 * j + i) (j := 6) rfl (by rw [cT hj h30 hi]; simp [oT, up3]) h
theorem cPV1 {X : gX} {lo : gL} {L : Nat → Nat → Nat} {K C : rM3} {e0 : gE} {en1 : gE} {v : Int32} (h : en1 = eup (enC X lo L K C e0) 4 (.inr (3, (oV lo C).set 1 (.int v)))) : ∃ C1 : rM3, C1 = up3 C 9 0 1 v ∧ en1 = enC X lo L K C1 e0 := cWC (k := 4) (a := 9) (i := 0) (j := 1) rfl (by rw [cV]; simp [oV, up3]) h
theorem cPV2 {X : gX} {lo : gL} {L : Nat → Nat → Nat} {K C : rM3} {e0 : gE} {en1 : gE} {v : Int32} (h : en1 = eup (enC X lo L K C e0) 4 (.inr (3, (oV lo C).set 2 (.int v)))) : ∃ C1 : rM3, C1 = up3 C 9 0 2 v ∧ en1 = enC X lo L K C1 e0 := cWC (k := 4) (a := 9) (i := 0) (j := 2) rfl (by rw [cV]; simp [oV, up3]) h
theorem cPV3 {X : gX} {lo : gL} {L : Nat → Nat → Nat} {K C : rM3} {e0 : gE} {en1 : gE} {v : Int32} (h : en1 = eup (enC X lo L K C e0) 4 (.inr (3, (oV lo C).set 3 (.int v)))) : ∃ C1 : rM3, C1 = up3 C 9 0 3 v ∧ en1 = enC X lo L K C1 e0 := cWC (k := 4) (a := 9) (i := 0) (j := 3) rfl (by rw [cV]; simp [oV, up3]) h
theorem cPV4 {X : gX} {lo : gL} {L : Nat → Nat → Nat} {K C : rM3} {e0 : gE} {en1 : gE} {v : Int32} (h : en1 = eup (enC X lo L K C e0) 4 (.inr (3, (oV lo C).set 4 (.int v)))) : ∃ C1 : rM3, C1 = up3 C 9 0 4 v ∧ en1 = enC X lo L K C1 e0 := cWC (k := 4) (a := 9) (i := 0) (j := 4) rfl (by rw [cV]; simp [oV, up3]) h
theorem cPV5 {X : gX} {lo : gL} {L : Nat → Nat → Nat} {K C : rM3} {e0 : gE} {en1 : gE} {v : Int32} (h : en1 = eup (enC X lo L K C e0) 4 (.inr (3, (oV lo C).set 5 (.int v)))) : ∃ C1 : rM3, C1 = up3 C 9 0 5 v ∧ en1 = enC X lo L K C1 e0 := cWC (k := 4) (a := 9) (i := 0) (j := 5) rfl (by rw [cV]; simp [oV, up3]) h
theorem cQ5 {X : gX} {lo : gL} {L : Nat → Nat → Nat} {K C : rM3} {e0 : gE} {en1 : gE} {j : Nat} {v : Int32} (h : en1 = eup (enC X lo L K C e0) 5 (.inl (X.2 0, 10, .inl (upd (C 10 0) j v)))) : ∃ C1 : rM3, C1 = up3 C 10 0 j v ∧ en1 = enC X lo L K C1 e0 := cWC (k := 5) (a := 10) (i := 0) (j := j) rfl (by rw [cA5, up3_self]) h
theorem cQ6 {X : gX} {lo : gL} {L : Nat → Nat → Nat} {K C : rM3} {e0 : gE} {en1 : gE} {j : Nat} {v : Int32} (h : en1 = eup (enC X lo L K C e0) 6 (.inl (X.2 0, 30, .inl (upd (C 11 0) j v)))) : ∃ C1 : rM3, C1 = up3 C 11 0 j v ∧ en1 = enC X lo L K C1 e0 := cWC (k := 6) (a := 11) (i := 0) (j := j) rfl (by rw [cA6, up3_self]) h
theorem cQ7 {X : gX} {lo : gL} {L : Nat → Nat → Nat} {K C : rM3} {e0 : gE} {en1 : gE} {j : Nat} {v : Int32} (h : en1 = eup (enC X lo L K C e0) 7 (.inl (X.2 0, 30, .inl (upd (C 12 0) j v)))) : ∃ C1 : rM3, C1 = up3 C 12 0 j v ∧ en1 = enC X lo L K C1 e0 := cWC (k := 7) (a := 12) (i := 0) (j := j) rfl (by rw [cA7, up3_self]) h
