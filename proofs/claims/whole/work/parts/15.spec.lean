/-! ===== the pure specification, over the reference's lasting numbers M ===== -/
def wi (v a b : Int32) : Int32 := if a ≤ v ∧ v ≤ b then 1 else 0
/-- the distance, as the reference has it -/
def ap (a b : Int32) : Int32 := if b < a then a - b else b - a
abbrev nt (x : Int32) : Nat := x.toNatClampNeg
theorem nt_toInt (x : Int32) : nt x = x.toInt.toNat := by
  unfold nt Int32.toNatClampNeg
  rfl
theorem nt_nI {n : Nat} (h : n < 2 ^ 31) : nt (nI n) = n := nI_clamp h
theorem nI_nt {x : Int32} (h : 0 ≤ x) : nI (nt x) = x := by
  apply Int32.toInt_inj.mp
  have h1 : (0 : Int) ≤ x.toInt := by have := Int32.le_iff_toInt_le.mp h; simpa using this
  have h2 : x.toInt < 2 ^ 31 := x.toInt_lt
  rw [nI_toInt (by rw [nt_toInt]; omega), nt_toInt]
  omega
theorem nt_lt {x : Int32} {n : Nat} (h : x < nI n) (h0 : 0 ≤ x) (hn : n < 2 ^ 31) : nt x < n := by
  rw [← nI_nt h0] at h
  have h2 : nt x < 2 ^ 31 := by rw [nt_toInt]; have := x.toInt_lt; omega
  exact (nI_ltI h2 hn).mp h
theorem nI_ma (c a b : Nat) : nI c * nI a + nI b = nI (c * a + b) := by rw [pk_mul, nI_add]
theorem nI_maa (c a b d : Nat) : nI c * nI a + nI b + nI d = nI (c * a + b + d) := by rw [pk_mul, nI_add, nI_add]
theorem nI_m (c a : Nat) : nI c * nI a = nI (c * a) := pk_mul c a
/-- the sum of the deviations of n intervals; none: one is too great -/
def ssF (S Q : Nat → Int32) (tol f : Int32) : Nat → Option Int32
  | 0 => some 0
  | n + 1 => match ssF S Q tol f n with
    | none => none
    | some s => if tol < ap (S n) (Q n * f / 1000) then none else some (s + ap (S n) (Q n * f / 1000))
theorem ssF_none {S Q : Nat → Int32} {tol f : Int32} {k n : Nat} (h : ssF S Q tol f k = none) (hkn : k ≤ n) : ssF S Q tol f n = none := by
  induction n with
  | zero => rw [show k = 0 by omega] at h; exact h
  | succ n ih =>
    rcases Nat.lt_or_ge n k with q | q
    · rw [show n + 1 = k by omega]; exact h
    · simp [ssF, ih q]
/-- the state that fits with the least deviation, the first of several -/
def msF (Xs Ys : Nat → Int32) (x y mt f : Int32) : Nat → Option (Nat × Int32)
  | 0 => none
  | k + 1 => if ap x (Xs k * f / 1000) ≤ mt ∧ ap y (Ys k * f / 1000) ≤ mt then
      (match msF Xs Ys x y mt f k with
      | none => some (k, ap x (Xs k * f / 1000) + ap y (Ys k * f / 1000))
      | some q => if ap x (Xs k * f / 1000) + ap y (Ys k * f / 1000) < q.2 then some (k, ap x (Xs k * f / 1000) + ap y (Ys k * f / 1000)) else some q)
    else msF Xs Ys x y mt f k
def rvT (t : Nat) : Bool := t == 1 || t == 2
def dnT (t : Nat) : Bool := t == 1 || t == 3
def sS (M : rM2) (j : Nat) (rv : Bool) : Nat → Int32 := fun q => M 8 (10 * j + (if rv then nt (M 7 j) - 1 - q else q))
def qQ (M : rM2) (i o : Nat) : Nat → Int32 := fun q => M 2 (10 * i + o + q)
/-- the mark's position in the orientation t -/
def pxF (M : rM2) (j t : Nat) : Int32 := if rvT t then M 8 (10 * j + nt (M 9 j)) - M 10 j else M 10 j
def pyF (M : rM2) (j t : Nat) : Int32 := if dnT t then 300 - M 11 j else M 11 j
abbrev msM (M : rM2) (i : Nat) (x y f : Int32) : Nat → Option (Nat × Int32) := msF (fun k => M 5 (6 * i + k)) (fun k => M 6 (6 * i + k)) x y (M 20 3) f
/-- a placement's score and state (NONE where the mark was not seen); none: not possible -/
def plF (M : rM2) (j i t o : Nat) (f : Int32) : Option (Int32 × Int32) :=
  match ssF (sS M j (rvT t)) (qQ M i o) (M 20 2) f (nt (M 7 j)) with
  | none => none
  | some sum => if M 9 j < 0 then some (sum, -6) else
    if nI o + (if rvT t then M 7 j - 1 - M 9 j else M 9 j) = M 3 i then
      (match msM M i (pxF M j t) (pyF M j t) f (nt (M 4 i)) with
      | none => none
      | some q => some (sum + q.2, nI q.1))
    else none
abbrev gB : Type := Option (Int32 × Int32 × Int32 × Int32 × Int32)
/-- one more placement looked at: the first least one is kept -/
def stF (t o : Nat) (f : Int32) (p : Option (Int32 × Int32)) (b : gB) : gB := match p with
  | none => b
  | some q => match b with
    | none => some (q.1, nI t, nI o, f, q.2)
    | some r => if q.1 < r.1 then some (q.1, nI t, nI o, f, q.2) else some r
def fc (k : Nat) : Int32 := nI (1000 - 5 * k)
def bF (M : rM2) (j i t o : Nat) : Nat → gB → gB
  | 0, b => b
  | k + 1, b => stF t o (fc k) (plF M j i t o (fc k)) (bF M j i t o k b)
def bO (M : rM2) (j i t : Nat) : Nat → gB → gB
  | 0, b => b
  | o + 1, b => bF M j i t o 13 (bO M j i t o b)
/-- how many offsets there are -/
def nO (M : rM2) (j i : Nat) : Nat := nt (M 1 i) + 1 - nt (M 7 j)
def bT (M : rM2) (j i : Nat) : Nat → gB → gB
  | 0, b => b
  | t + 1, b => bO M j i t (nO M j i) (bT M j i t b)
/-- the best placement of sheet j on mould i -/
def fb (M : rM2) (j i : Nat) : gB := bT M j i 4 none
/-- one more mould looked at -/
def asS (k : Nat) (b : gB) (o : Option (Nat × Int32 × Int32)) : Option (Nat × Int32 × Int32) := match b with
  | none => o
  | some b => match o with
    | none => some (k, b.2.2.2.2, b.1)
    | some a => if b.1 < a.2.2 then some (k, b.2.2.2.2, b.1) else some a
/-- the assignment among the first n moulds: mould, state, score -/
def asF (M : rM2) (j : Nat) : Nat → Option (Nat × Int32 × Int32)
  | 0 => none
  | k + 1 => asS k (fb M j k) (asF M j k)
def nMo (M : rM2) : Nat := nt (M 20 4)
def nSh (M : rM2) : Nat := nt (M 20 11)
def aG (M : rM2) (j : Nat) : Option (Nat × Int32 × Int32) := asF M j (nMo M)
def moA (o : Option (Nat × Int32 × Int32)) : Int32 := match o with | none => -6 | some a => nI a.1
def soA (o : Option (Nat × Int32 × Int32)) : Int32 := match o with | none => -6 | some a => a.2.1
def scA (o : Option (Nat × Int32 × Int32)) : Int32 := match o with | none => -6 | some a => a.2.2
def moF (M : rM2) (j : Nat) : Int32 := moA (aG M j)
def soF (M : rM2) (j : Nat) : Int32 := soA (aG M j)
def scF (M : rM2) (j : Nat) : Int32 := scA (aG M j)
abbrev lowF (M : rM2) (a b : Nat) : Prop := 0 ≤ moF M a ∧ moF M a = moF M b ∧ 0 ≤ soF M a ∧ soF M a < soF M b
abbrev isMk (M : rM2) (iv x y : Int32) : Prop := (0 ≤ iv ∧ iv ≤ M 20 1 - 1) ∧ (0 ≤ x ∧ x ≤ M 0 (nt iv)) ∧ (0 ≤ y ∧ y ≤ 300)
/-- a copy of the row into array a, from place o on -/
def cp2 (M : rM2) (a o n : Nat) : rM2 := fun b j => if b = a ∧ o ≤ j ∧ j < o + n then M 0 (j - o) else M b j
/-! each call: its answer, and what lasts behind it -/
abbrev gA : Type := Int32 × rM2
def sp_clearRow (M : rM2) : gA := (M 20 1, up2 M 20 1 0)
def sp_addToRow (M : rM2) (v : Int32) : gA := if 100 ≤ v ∧ v ≤ 450 then (if M 20 1 = 10 then (-5, M) else (M 20 1 + 1, up2 (up2 M 0 (nt (M 20 1)) v) 20 1 (M 20 1 + 1))) else (-3, M)
def sp_setTolerances (M : rM2) (a b : Int32) : gA := if (0 ≤ a ∧ a ≤ 50) ∧ (0 ≤ b ∧ b ≤ 100) then ((if a = M 20 2 ∧ b = M 20 3 then 0 else 1), up2 (up2 M 20 2 a) 20 3 b) else (-3, M)
/-- what lasts behind a state added to mould i -/
def psM (M : rM2) (i : Nat) (x y : Int32) : rM2 := up2 (up2 (up2 M 5 (6 * i + nt (M 4 i)) x) 6 (6 * i + nt (M 4 i)) y) 4 i (M 4 i + 1)
def adM (M : rM2) (i : Nat) (iv x y : Int32) : rM2 := up2 (psM (up2 (up2 (cp2 (up2 M 1 i (M 20 1)) 2 (10 * i) (nt (M 20 1))) 3 i iv) 4 i 0) i x y) 20 4 (M 20 4 + 1)
def sp_addMould (M : rM2) (iv x y : Int32) : gA := if M 20 1 < 3 then (-4, M) else if (isMk M iv x y) then (if M 20 4 = 10 then (-5, M) else (M 20 4, adM M (nMo M) iv x y)) else (-3, M)
/-- there is such a mould, such a sheet -/
abbrev isMo (M : rM2) (p : Int32) : Prop := 0 ≤ p ∧ p ≤ M 20 4 - 1
abbrev isSh (M : rM2) (p : Int32) : Prop := 0 ≤ p ∧ p ≤ M 20 11 - 1
def sp_addState (M : rM2) (p x y : Int32) : gA := if (isMo M p) then (if (0 ≤ x ∧ x ≤ M 2 (10 * nt p + nt (M 3 (nt p)))) ∧ (0 ≤ y ∧ y ≤ 300) then (if M 4 (nt p) = 6 then (-5, M) else (M 4 (nt p), psM M (nt p) x y)) else (-3, M)) else (-1, M)
def sp_removeState (M : rM2) (p : Int32) : gA := if (isMo M p) then (if M 4 (nt p) = 1 then (-6, M) else (M 4 (nt p) - 1, up2 M 4 (nt p) (M 4 (nt p) - 1))) else (-1, M)
def sp_stateCount (M : rM2) (p : Int32) : gA := if (isMo M p) then (M 4 (nt p), M) else (-1, M)
/-- the greatest difference of the first n spacings -/
def gdF (A B : Nat → Int32) : Nat → Int32
  | 0 => 0
  | k + 1 => if gdF A B k < ap (A k) (B k) then ap (A k) (B k) else gdF A B k
def gdM (M : rM2) (a b : Nat) : Int32 := gdF (fun k => M 2 (10 * a + k)) (fun k => M 2 (10 * b + k)) (nt (M 1 a))
/-- the reference's twinSpacings -/
def twF (M : rM2) (a b : Nat) : Int32 := if M 1 a = M 1 b ∧ M 3 a = M 3 b then (if M 20 2 < gdM M a b then -6 else gdM M a b) else -6
/-- two moulds, barred or not -/
def tbF (M : rM2) (p q : Int32) : Int32 := if (isMo M p ∧ isMo M q) then (if p = q then -3 else 0) else -1
def sp_areTwins (M : rM2) (p q : Int32) : gA := (if tbF M p q < 0 then tbF M p q else if twF M (nt p) (nt q) < 0 then 0 else 1, M)
def mx (a b : Int32) : Int32 := if b < a then a else b
def sp_twinDifference (M : rM2) (p q : Int32) : gA := (if tbF M p q < 0 then tbF M p q else if twF M (nt p) (nt q) < 0 then -6 else mx (ap (M 6 (6 * nt p)) (M 6 (6 * nt q))) (mx (ap (M 5 (6 * nt p)) (M 5 (6 * nt q))) (twF M (nt p) (nt q))), M)
def adS (M : rM2) (j : Nat) (iv x y : Int32) : rM2 := up2 (up2 (up2 (up2 (up2 (up2 (cp2 (up2 M 7 j (M 20 1)) 8 (10 * j) (nt (M 20 1))) 9 j iv) 10 j x) 11 j y) 12 j 0) 13 j 9999) 20 11 (M 20 11 + 1)
def sp_addSheet (M : rM2) (iv x y : Int32) : gA := if M 20 1 < 2 then (-4, M) else if (iv = -1 ∨ isMk M iv x y) then (if M 20 11 = 30 then (-5, M) else (M 20 11, adS M (nSh M) iv x y)) else (-3, M)
def sp_setDates (M : rM2) (p a b : Int32) : gA := if (isSh M p) then (if (0 ≤ a ∧ a ≤ 9999) ∧ (a ≤ b ∧ b ≤ 9999) then ((if a = M 12 (nt p) ∧ b = M 13 (nt p) then 0 else 1), up2 (up2 M 12 (nt p) a) 13 (nt p) b) else (-3, M)) else (-2, M)
def sp_count (M : rM2) (w : Int32) : gA := (if w = 0 then M 20 4 else if w = 1 then M 20 11 else if w = 2 then M 20 1 else -3, M)
/-- a sheet and a mould, barred or not -/
def bbF (M : rM2) (p q : Int32) : Int32 := if (isSh M p) then (if (isMo M q) then 0 else -1) else -2
def sp_score (M : rM2) (p q : Int32) : gA := (if bbF M p q < 0 then bbF M p q else match fb M (nt p) (nt q) with | none => -6 | some b => b.1, M)
def sp_placement (M : rM2) (p q w : Int32) : gA := (if bbF M p q < 0 then bbF M p q else if 0 ≤ w ∧ w ≤ 3 then (match fb M (nt p) (nt q) with | none => -6 | some b => if w = 0 then b.2.1 else if w = 1 then b.2.2.1 else if w = 2 then b.2.2.2.1 else b.2.2.2.2) else -3, M)
def sp_assignedMould (M : rM2) (p : Int32) : gA := (if (isSh M p) then moF M (nt p) else -2, M)
/-- rivals among the first n moulds -/
def rvF (M : rM2) (j : Nat) (mg : Int32) : Nat → Int32
  | 0 => 0
  | k + 1 => rvF M j mg k + (match fb M j k with | none => 0 | some b => if nI k ≠ moF M j ∧ b.1 ≤ scF M j + mg then 1 else 0)
def sp_rivalCount (M : rM2) (p mg : Int32) : gA := (if (isSh M p) then (if 0 ≤ mg ∧ mg ≤ 1000 then (if moF M (nt p) < 0 then -6 else rvF M (nt p) mg (nMo M)) else -3) else -2, M)
def bsF (M : rM2) (p : Int32) : Nat → Int32
  | 0 => 0
  | k + 1 => bsF M p k ||| (if moF M k = p then 1 <<< (nI k &&& 31) else 0)
def sp_sheetsOf (M : rM2) (p : Int32) : gA := (if (isMo M p) then bsF M p (nSh M) else -1, M)
def eaF (M : rM2) (j : Nat) : Nat → Int32
  | 0 => M 12 j
  | k + 1 => if (lowF M k j ∧ eaF M j k < M 12 k) then M 12 k else eaF M j k
def laF (M : rM2) (j : Nat) : Nat → Int32
  | 0 => M 13 j
  | k + 1 => if (lowF M j k ∧ M 13 k < laF M j k) then M 13 k else laF M j k
def ea (M : rM2) (j : Nat) : Int32 := eaF M j (nSh M)
def la (M : rM2) (j : Nat) : Int32 := laF M j (nSh M)
def sp_earliest (M : rM2) (p : Int32) : gA := (if (isSh M p) then ea M (nt p) else -2, M)
def sp_latest (M : rM2) (p : Int32) : gA := (if (isSh M p) then la M (nt p) else -2, M)
/-- sheet a comes before sheet b in the order of a mould -/
abbrev ahF (M : rM2) (a b : Nat) : Prop := if soF M a = soF M b then (if ea M a = ea M b then a < b else ea M a < ea M b) else soF M a < soF M b
abbrev onF (M : rM2) (j : Nat) (p : Int32) : Prop := moF M j = p ∧ 0 ≤ soF M j
/-- how many of the first n sheets come before sheet k on mould p -/
def anF (M : rM2) (p : Int32) (k : Nat) : Nat → Int32
  | 0 => 0
  | x + 1 => anF M p k x + (if (onF M k p ∧ onF M x p ∧ x ≠ k ∧ ahF M x k) then 1 else 0)
/-- the first of the sheets from k on, r of them, that has the place pl -/
def atF (M : rM2) (p pl : Int32) : Nat → Nat → Int32
  | _, 0 => -6
  | k, r + 1 => if (onF M k p ∧ anF M p k (nSh M) = pl) then nI k else atF M p pl (k + 1) r
def sp_sheetAt (M : rM2) (p pl : Int32) : gA := (if (isMo M p) then (if pl < 0 then -3 else atF M p pl 0 (nSh M)) else -1, M)
def ccI (M : rM2) (p : Int32) (a : Nat) : Nat → Int32 → Int32
  | 0, c => c
  | b + 1, c => ccI M p a b c + (if (moF M a = p ∧ lowF M a b ∧ M 13 b < M 12 a) then 1 else 0)
def ccF (M : rM2) (p : Int32) : Nat → Int32
  | 0 => 0
  | a + 1 => ccI M p a (nSh M) (ccF M p a)
def sp_contradictionCount (M : rM2) (p : Int32) : gA := (if (isMo M p) then ccF M p (nSh M) else -1, M)
/-! what holds of the lasting numbers all along -/
abbrev inR (a v b : Int32) : Prop := a ≤ v ∧ v ≤ b
def Iv (M : rM2) : Prop := inR 0 (M 20 1) 10 ∧ inR 0 (M 20 2) 50 ∧ inR 0 (M 20 3) 100 ∧ inR 0 (M 20 4) 10 ∧ inR 0 (M 20 11) 30 ∧ (∀ k, k < nt (M 20 1) → inR 100 (M 0 k) 450) ∧
  (∀ i, i < nMo M → inR 3 (M 1 i) 10 ∧ inR 0 (M 3 i) (M 1 i - 1) ∧ inR 1 (M 4 i) 6 ∧ (∀ k, k < nt (M 1 i) → inR 100 (M 2 (10 * i + k)) 450) ∧ ∀ k, k < nt (M 4 i) → inR 0 (M 5 (6 * i + k)) 450 ∧ inR 0 (M 6 (6 * i + k)) 300) ∧
  ∀ j, j < nSh M → inR 2 (M 7 j) 10 ∧ (∀ k, k < nt (M 7 j) → inR 100 (M 8 (10 * j + k)) 450) ∧ (M 9 j = -1 ∨ (inR 0 (M 9 j) (M 7 j - 1) ∧ inR 0 (M 10 j) (M 8 (10 * j + nt (M 9 j))) ∧ inR 0 (M 11 j) 300))
