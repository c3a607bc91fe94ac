/-! ===== Arrays.copyOf over an int array of ten places ===== -/
theorem kw_same : Cond.sameMethod "[I" "java/lang/Object" "clone" "()Ljava/lang/Object;" ∈ gAll := gIn 158 (by decide +kernel) (by decide +kernel)
theorem kw_nat : Cond.native ⟨"java/lang/Object", "clone", "()Ljava/lang/Object;"⟩ ∈ gAll := gIn 159 (by decide +kernel) (by decide +kernel)
theorem kw_inst : Cond.instanceMethod ⟨"java/lang/Object", "clone", "()Ljava/lang/Object;"⟩ ∈ gAll := gIn 160 (by decide +kernel) (by decide +kernel)
theorem kw_sel : Cond.selects "[I" ⟨"[I", "clone", "()Ljava/lang/Object;"⟩ ⟨"java/lang/Object", "clone", "()Ljava/lang/Object;"⟩ ∈ gAll := gIn 161 (by decide +kernel) (by decide +kernel)
theorem kw_acs : Cond.static arraycopyName ∈ gAll := gIn 168 (by decide +kernel) (by decide +kernel)
theorem kw_acn : Cond.native arraycopyName ∈ gAll := gIn 169 (by decide +kernel) (by decide +kernel)
theorem kw_sys : Cond.initialized "java/lang/System" ∈ gAll := gIn 42 (by decide +kernel) (by decide +kernel)
/-- the world with one more array, all else as it was -/
theorem hw_copy {X : gX} {b0 : Nat} {lo : gL} {en : gE} {k1 kn n : Nat} {f g : Nat → Int32} {H0 H1 : Heap} {q : Nat} {locs : List Loc} (hW : hw X b0 lo en H0) (h1 : en k1 = some (.inl (X.2 0, 10, .inl f))) (hkn : en kn = none)
    (hP : va_P X.1 vwCl [(lo k1, .inl (X.2 0, 10, .inl f)), (q, .inl (X.2 0, n, .inl g))] H1) (hD : va_D (fun z => z = lo k1 ∨ H0.size ≤ z) [(lo k1, .inl (X.2 0, 10, .inl f)), (q, .inl (X.2 0, n, .inl g))]) (hS : va_S (fun z => z = lo k1 ∨ H0.size ≤ z) H0 H1 locs) :
    hw X b0 (lup lo kn q) (eup en kn (.inl (X.2 0, n, .inl g))) H1 := by
  have hq1 : ¬ lo k1 = q := fun z => absurd (hD.1 0 1 _ _ rfl rfl z) (by decide)
  have hq : H0.size ≤ q := by
    rcases hD.2 1 _ rfl with z | z
    · exact absurd z.symm hq1
    · exact z
  have old : ∀ (j : Nat) (e : va_E), j ≠ kn → eup en kn (.inl (X.2 0, n, .inl g)) j = some e → en j = some e ∧ lup lo kn q j = lo j ∧ lo j < H0.size := by
    intro j e hjk hj
    rw [eup_ne hjk] at hj
    exact ⟨hj, lup_ne hjk, (hW.2.1 j e hj).2.lt⟩
  refine ⟨Nat.le_trans hW.1 hS.1, fun j e hj => ?_, fun i j e e' hi hj hij => ?_⟩
  · by_cases hjk : j = kn
    · subst hjk
      rw [eup_eq] at hj
      cases hj
      rw [lup_eq]
      exact ⟨Nat.le_trans hW.1 hq, hP 1 _ rfl⟩
    · obtain ⟨a1, a2, a3⟩ := old j e hjk hj
      rw [a2]
      refine ⟨(hW.2.1 j e a1).1, ?_⟩
      by_cases hj1 : lo j = lo k1
      · have hjj := hW.2.2 j k1 e _ a1 h1 hj1
        subst hjj
        rw [h1] at a1
        cases a1
        exact hP 0 _ rfl
      · refine (hW.2.1 j e a1).2.kept (hS.2.1 (lo j) a3 (fun z => ?_))
        rcases z with z | z
        · exact hj1 z
        · omega
  · by_cases hik : i = kn <;> by_cases hjk : j = kn
    · rw [hik, hjk]
    · obtain ⟨a1, a2, a3⟩ := old j e' hjk hj
      subst hik
      rw [lup_eq, a2] at hij
      omega
    · obtain ⟨a1, a2, a3⟩ := old i e hik hi
      subst hjk
      rw [lup_eq, a2] at hij
      omega
    · obtain ⟨a1, a2, a3⟩ := old i e hik hi
      obtain ⟨a4, a5, a6⟩ := old j e' hjk hj
      rw [a2, a5] at hij
      exact hW.2.2 i j e e' a1 a4 hij
def rC : Room := { frames := 1, cells := 1, slots := 10, locals := 40 }
set_option maxHeartbeats 4000000 in
set_option maxRecDepth 100000 in
theorem c_copyOf (l : Launch) (X : gX) (b0 : Nat) (lo : gL) (en : gE) (k1 kn n : Nat) (f : Nat → Int32) (h1 : en k1 = some (.inl (X.2 0, 10, .inl f))) (hn : n ≤ 10) (hkn : en kn = none) : Ct l X b0 lo en yJ7_copyOf_59c91 cJ7_copyOf_59c91 3 (some (.array .int)) rC [.ref (lo k1), .int (nI n)] (fun v lo' en' => ∃ (q : Nat) (g : Nat → Int32), v = some (.ref q) ∧ lo' = lup lo kn q ∧ en' = eup en kn (.inl (X.2 0, n, .inl g)) ∧ ∀ x, x < n → g x = f x) := by
  refine Met.ofW (cc := cJ7_copyOf_59c91) (maxL := 3) (ret := some (.array .int)) (by decide) rfl ?_
  intro p e s m args below meth c s₁ B hml hv
  obtain ⟨rfl, hW, hK⟩ := hv
  have hx := B.exec
  have hb := B.bytes
  have hr := B.returns
  have hts0 := atoms_spec (ws := Cond.code yJ7_copyOf_59c91 cJ7_copyOf_59c91 3 (some (.array .int)) :: gAll) B.pre
  have hts : ∀ w ∈ gAll, w.before ([Value.ref (lo k1), Value.int (nI n)] : List Value).toArray s = true := fun w h => hts0 w (List.mem_cons_of_mem _ h)
  have hown : s.vm.findClass RJ7 = some m.cls := findClass_of_methodNamed B.named
  have hlocks := B.notSynchronized
  have hA : ∀ q : Nat, s.heap.size ≤ q → (fun z => z = lo k1 ∨ s.heap.size ≤ z) q := fun q h => Or.inr h
  have hAb : ∀ q : Nat, (fun z => z = lo k1 ∨ s.heap.size ≤ z) q → b0 ≤ q := fun q h => by
    rcases h with h | h
    · rw [h]; exact (hW.2.1 k1 _ h1).1
    · exact Nat.le_trans hW.1 h
  have hS : va_S (fun z => z = lo k1 ∨ s.heap.size ≤ z) s.heap s.heap [] := va_S.rf
  have hP : va_P X.1 vwCl [(lo k1, .inl (X.2 0, 10, .inl f))] s.heap := fun i q hq => by
    match i, hq with
    | 0, hq => cases hq; exact (hW.2.1 k1 _ h1).2
    | i + 1, hq => simp at hq
  have hD : va_D (fun z => z = lo k1 ∨ s.heap.size ≤ z) [(lo k1, .inl (X.2 0, 10, .inl f))] := ⟨fun i j a b hi hj _ => by
    have h3 := (List.getElem?_eq_some_iff.mp hi).1
    have h4 := (List.getElem?_eq_some_iff.mp hj).1
    simp at h3 h4
    omega, fun i q hq => by
    match i, hq with
    | 0, hq => cases hq; exact Or.inl rfl
    | i + 1, hq => simp at hq⟩
  have hnm : s.vm.findClass "[I" = some (X.2 0) := (hK.1.2 0 (X.2 0, .int) rfl).2
  have hl := lv_entry ([.ref (lo k1), .int (nI n)]) (n := 3) (Nat.le_of_ble_eq_true rfl)
  rw [lg_entry_eq]
  generalize (lg_sl ([.ref (lo k1), .int (nI n)]) ++ List.replicate (3 - (lg_sl ([.ref (lo k1), .int (nI n)])).length) Slot.unset).toArray = ls at hl ⊢
  have hl : lv_has ls 3 [(0, .ref (lo k1)), (1, .int (nI n))] := hl
  have ret : ∀ (q : Nat) (g : Nat → Int32) (H1 : Heap) (locs : List Loc) (pc : Nat) (ls1 : Array Slot) (sl : Nat), sl ≤ 10 → decode cJ7_copyOf_59c91 pc = .ok (.areturn, 1) → (∀ x, x < n → g x = f x) → va_P X.1 vwCl [(lo k1, .inl (X.2 0, 10, .inl f)), (q, .inl (X.2 0, n, .inl g))] H1 → va_D (fun z => z = lo k1 ∨ s.heap.size ≤ z) [(lo k1, .inl (X.2 0, 10, .inl f)), (q, .inl (X.2 0, n, .inl g))] → va_S (fun z => z = lo k1 ∨ s.heap.size ≤ z) s.heap H1 locs → W p l e (headSpec (Cond.code yJ7_copyOf_59c91 cJ7_copyOf_59c91 3 (some (.array .int)) :: gAll) rC).room s m ([Value.ref (lo k1), Value.int (nI n)] : List Value).toArray below meth c H1 locs 1 sl (MQ below (cQ X b0 (fun v lo' en' => ∃ (q : Nat) (g : Nat → Int32), v = some (.ref q) ∧ lo' = lup lo kn q ∧ en' = eup en kn (.inl (X.2 0, n, .inl g)) ∧ ∀ x, x < n → g x = f x)) ([Value.ref (lo k1), Value.int (nI n)] : List Value).toArray s rC.cells rC.slots (fun q => b0 ≤ q)) (F0 m pc ls1 [.ref q]) := by
    intro q g H1 locs pc ls1 sl hsl hd hg hP hD hS
    have hw1 := hw_copy hW h1 hkn hP hD hS
    refine W.widen (k := 1) (n := 10) (Nat.le_refl _) hsl ?_
    exact W.aret (v := .ref q) hx hb hr (Or.inr ⟨_, rfl⟩) (Or.inr ⟨_, rfl⟩) (fun t ht hWm => ⟨⟨_, _, _, rfl, ⟨q, g, rfl, rfl, rfl, hg⟩, by rw [ht]; exact hw1⟩, ⟨by rw [ht]; exact hS.1, fun z z1 z2 => by rw [ht]; exact hS.2.1 z z1 (fun z3 => z2 (hAb z z3))⟩⟩) (fun z hz => hAb _ (hS.2.2 z hz)) hd hlocks
  refine lv_iload_n hx hb dJ7_copyOf_59c91_0 rfl (lv_at hl 1 rfl) ?_
  refine lv_aload_n hx hb dJ7_copyOf_59c91_1 rfl (lv_at hl 0 rfl) ?_
  refine va_alen (D := X.1) (tys := g_tys X.2) hx hb hK.1 hP 0 0 rfl rfl rfl dJ7_copyOf_59c91_2 ?_
  refine lv_icmp_ne (tgt := 14) hx hb dJ7_copyOf_59c91_3 (by decide) (fun c3 => ?_) (fun c3 => ?_)
  · refine lv_iload_n hx hb dJ7_copyOf_59c91_14 rfl (lv_at hl 1 rfl) ?_
    refine va_newa (atype := .int) (D := X.1) (tys := g_tys X.2) (N' := n) (a0 := (n, .inl (fun _ => 0))) hx hb (hts _ ka_int) rfl hK.1 hP hD hS hA (fun cA => rfl) (nI_pos (by omega)) (nt_nI (by omega)) (by show n * 4 ≤ _; omega) (Nat.le_of_ble_eq_true rfl) (by show 0 + n ≤ 10; omega) dJ7_copyOf_59c91_15 (fun q cA H hK2 hP hD hS => ?_)
    have hcA : cA = X.2 0 := Option.some.inj (((hK2.2 4 (cA, .int) rfl).2 : s.vm.findClass "[I" = some cA).symm.trans hnm)
    subst hcA
    have hP : va_P X.1 vwCl [(lo k1, .inl (X.2 0, 10, .inl f)), (q, .inl (X.2 0, n, .inl (fun _ => 0)))] H := hP
    have hD : va_D (fun z => z = lo k1 ∨ s.heap.size ≤ z) [(lo k1, .inl (X.2 0, 10, .inl f)), (q, .inl (X.2 0, n, .inl (fun _ => 0)))] := hD
    refine lv_astore_n (lv' := [(2, .ref q), (0, .ref (lo k1)), (1, .int (nI n))]) hx hb dJ7_copyOf_59c91_17 rfl hl (by decide) rfl (fun ls hl => ?_)
    refine lv_aload_n hx hb dJ7_copyOf_59c91_18 rfl (lv_at hl 1 rfl) ?_
    refine lv_iconst (v := 0) hx hb dJ7_copyOf_59c91_19 (by decide) ?_
    refine lv_aload_n hx hb dJ7_copyOf_59c91_20 rfl (lv_at hl 0 rfl) ?_
    refine lv_iconst (v := 0) hx hb dJ7_copyOf_59c91_21 (by decide) ?_
    refine lv_aload_n hx hb dJ7_copyOf_59c91_22 rfl (lv_at hl 1 rfl) ?_
    refine va_alen (D := X.1) (tys := g_tys X.2) hx hb hK.1 hP 0 0 rfl rfl rfl dJ7_copyOf_59c91_23 ?_
    refine lv_iload_n hx hb dJ7_copyOf_59c91_24 rfl (lv_at hl 2 rfl) ?_
    refine va_mmin hx hb (by rw [hml, hl.1]) hown (hts _ km_J7_304) (hts _ ki_J9_min_7cf53) (hts _ kz_J9) (hts _ kc_J9_min_7cf53) (Nat.le_of_ble_eq_true rfl) (Nat.le_of_ble_eq_true rfl) (Nat.le_of_ble_eq_true rfl) (by show 0 + n ≤ 10; omega) dJ7_copyOf_59c91_25 ?_
    refine lv_topi (fun z ez => ?_)
    have ez2 : z = nI n := by
      rw [ez]
      by_cases h10 : nI n < nI 10
      · exact if_pos h10
      · rw [show (Int32.ofNat 10) = nI 10 from rfl, if_neg h10]
        have h11 : ¬ n < 10 := fun y => h10 (nI_lt y (by decide))
        rw [show n = 10 by omega]
    subst ez2
    refine va_copyi (D := X.1) (tys := g_tys X.2) hx hb (by rw [hml, hl.1]) hown (hts _ km_J7_150) (hts _ kw_acn) (hts _ kw_acs) (hts _ kw_sys) hK.1 hP hD hS 0 1 0 0 (c0 := X.2 0) (c1 := X.2 0) (n0 := 10) (n1 := n) (f := f) (g := fun _ => 0) (ty := .int) rfl rfl rfl rfl rfl (sp := 0) (dp := 0) (n := nI n) (by decide) (by decide) (nI_pos (by omega)) (by rw [show (nI n).toNatClampNeg = n from nt_nI (by omega)]; show 0 + n ≤ 10; omega) (by rw [show (nI n).toNatClampNeg = n from nt_nI (by omega)]; show 0 + n ≤ n; omega) (fun i _ => rfl) (Nat.le_of_ble_eq_true rfl) (Nat.le_of_ble_eq_true rfl) dJ7_copyOf_59c91_28 (fun H locs hP hD hS => ?_)
    refine lv_aload_n hx hb dJ7_copyOf_59c91_31 rfl (lv_at hl 0 rfl) ?_
    exact ret q _ H locs 32 ls _ (by show 0 + n ≤ 10; omega) dJ7_copyOf_59c91_32 (fun x hxn => by
      rw [show (nI n).toNatClampNeg = n from nt_nI (by omega)]
      rw [pk_cpy_in (by show 0 ≤ x; omega) (by show x < 0 + n; omega)]
      show f (0 + (x - 0)) = f x
      rw [Nat.zero_add, Nat.sub_zero]) hP hD hS
  · have hn10 : n = 10 := (nI_eq (by omega) (by decide)).mp c3
    subst hn10
    refine lv_aload_n hx hb dJ7_copyOf_59c91_6 rfl (lv_at hl 0 rfl) ?_
    refine va_clone (D := X.1) (tys := g_tys X.2) (ad := "[I") (ty := .int) hx hb (by rw [hml, hl.1]) hown (hts _ km_J7_316) (hts _ kw_same) (hts _ kw_nat) (hts _ kw_inst) (hts _ kw_sel) hK.2.2.2.1 hK.1 hP hD hS hA 0 0 rfl rfl hnm (va_fit (F := fun i => .int (f i)) (fun i _ => rfl)) (Nat.le_of_ble_eq_true rfl) (Nat.le_of_ble_eq_true rfl) (Nat.le_of_ble_eq_true rfl) (Nat.le_of_ble_eq_true rfl) dJ7_copyOf_59c91_7 (fun q H hK2 hP hD hS => ?_)
    have hP : va_P X.1 vwCl [(lo k1, .inl (X.2 0, 10, .inl f)), (q, .inl (X.2 0, 10, .inl f))] H := hP
    have hD : va_D (fun z => z = lo k1 ∨ s.heap.size ≤ z) [(lo k1, .inl (X.2 0, 10, .inl f)), (q, .inl (X.2 0, 10, .inl f))] := hD
    refine va_castA (D := X.1) hx hb hown (hts _ kk_J7_317) hP 1 rfl hnm dJ7_copyOf_59c91_10 ?_
    exact ret q f H _ 13 ls _ (Nat.le_refl _) dJ7_copyOf_59c91_13 (fun _ _ => rfl) hP hD hS
