/-! ===== the world: cells by labels (lo: the address of a label, en: what its cell holds) ===== -/
abbrev gE : Type := Nat → Option va_E
abbrev gL : Type := Nat → Nat
abbrev gX : Type := va_G × (Nat → ClassId)
def g_tys (Y : Nat → ClassId) : List (ClassId × FieldType) := [(Y 0, .int), (Y 1, .object RX1), (Y 2, .object RX2), (Y 3, .object RX0)]
/-- what the tables say, as far as it goes with every state -/
def gK (X : gX) (U : State) : Prop := va_K X.1 vwCl (g_tys X.2) U ∧ va_Nw (.methodLinkNest RX4 43 yX3_init RX4) U ∧ va_Nw (.methodLinkNest RX2 37 yX0_init RX4) U ∧ va_Nw (.castable "[I" "java/lang/Cloneable") U ∧ va_AO RX1 U ∧ va_AO RX2 U ∧ va_AO RX0 U
theorem gK.warm {X : gX} {s U : State} (hW : s.WarmedH U.vm) (h : gK X s) : gK X U := ⟨va_K.moved hW.alike h.1, va_Nw.warmM hW h.2.1, va_Nw.warmM hW h.2.2.1, va_Nw.warmC hW h.2.2.2.1, va_AO.moved hW.alike h.2.2.2.2.1, va_AO.moved hW.alike h.2.2.2.2.2.1, va_AO.moved hW.alike h.2.2.2.2.2.2⟩
theorem gK.same {X : gX} {s U : State} (hv : s.vm = U.vm) (h : gK X s) : gK X U := by
  have ha : s.vm.Alike U.vm := by rw [hv]; exact Vm.Alike.refl _
  exact ⟨va_K.moved ha h.1, va_Nw.same rfl hv h.2.1, va_Nw.same rfl hv h.2.2.1, va_Nw.same rfl hv h.2.2.2.1, va_AO.moved ha h.2.2.2.2.1, va_AO.moved ha h.2.2.2.2.2.1, va_AO.moved ha h.2.2.2.2.2.2⟩
def eup (en : gE) (k : Nat) (e : va_E) : gE := fun j => if j = k then some e else en j
theorem eup_eq {en : gE} {k : Nat} {e : va_E} : eup en k e k = some e := by simp [eup]
theorem eup_ne {en : gE} {k j : Nat} {e : va_E} (h : j ≠ k) : eup en k e j = en j := by simp [eup, h]
def hw (X : gX) (b0 : Nat) (lo : gL) (en : gE) (H : Heap) : Prop := b0 ≤ H.size ∧ (∀ (k : Nat) (e : va_E), en k = some e → b0 ≤ lo k ∧ va_at X.1 vwCl (lo k, e) H) ∧ ∀ (i j : Nat) (e f : va_E), en i = some e → en j = some f → lo i = lo j → i = j
theorem hw.set {X : gX} {b0 : Nat} {lo : gL} {en : gE} {H H1 : Heap} {k : Nat} {e0 e : va_E} (h : hw X b0 lo en H) (hk : en k = some e0) (he : va_at X.1 vwCl (lo k, e) H1) (hz : H1.size = H.size) (oq : ∀ q : Nat, q ≠ lo k → H1[q]? = H[q]?) : hw X b0 lo (eup en k e) H1 := by
  refine ⟨by rw [hz]; exact h.1, fun j f hj => ?_, fun i j f g hi hj hij => ?_⟩
  · by_cases hjk : j = k
    · subst hjk
      rw [eup_eq] at hj
      cases hj
      exact ⟨(h.2.1 j e0 hk).1, he⟩
    · rw [eup_ne hjk] at hj
      exact ⟨(h.2.1 j f hj).1, (h.2.1 j f hj).2.kept (oq _ (fun z => hjk (h.2.2 j k f e0 hj hk z)))⟩
  · have key : ∀ (j : Nat) (f : va_E), eup en k e j = some f → ∃ f0, en j = some f0 := by
      intro j f hj
      by_cases hjk : j = k
      · subst hjk; exact ⟨e0, hk⟩
      · rw [eup_ne hjk] at hj; exact ⟨f, hj⟩
    obtain ⟨f0, hf⟩ := key i f hi
    obtain ⟨g0, hg⟩ := key j g hj
    exact h.2.2 i j f0 g0 hf hg hij
def lup (lo : gL) (k a : Nat) : gL := fun j => if j = k then a else lo j
theorem lup_eq {lo : gL} {k a : Nat} : lup lo k a k = a := by simp [lup]
theorem lup_ne {lo : gL} {k a j : Nat} (h : j ≠ k) : lup lo k a j = lo j := by simp [lup, h]
/-- a new cell, under a label that was free -/
theorem hw.push {X : gX} {b0 : Nat} {lo : gL} {en : gE} {H H1 : Heap} {k : Nat} {e : va_E} (h : hw X b0 lo en H) (hk : en k = none) (he : va_at X.1 vwCl (H.size, e) H1) (hz : H1.size = H.size + 1) (oq : ∀ q : Nat, q < H.size → H1[q]? = H[q]?) : hw X b0 (lup lo k H.size) (eup en k e) H1 := by
  have old : ∀ (j : Nat) (f : va_E), j ≠ k → eup en k e j = some f → en j = some f ∧ lup lo k H.size j = lo j ∧ lo j < H.size := by
    intro j f hjk hj
    rw [eup_ne hjk] at hj
    exact ⟨hj, lup_ne hjk, (h.2.1 j f hj).2.lt⟩
  refine ⟨by rw [hz]; exact Nat.le_trans h.1 (Nat.le_succ _), fun j f hj => ?_, fun i j f g hi hj hij => ?_⟩
  · by_cases hjk : j = k
    · subst hjk
      rw [eup_eq] at hj
      cases hj
      rw [lup_eq]
      exact ⟨h.1, he⟩
    · obtain ⟨h1, h2, h3⟩ := old j f hjk hj
      rw [h2]
      exact ⟨(h.2.1 j f h1).1, (h.2.1 j f h1).2.kept (oq _ h3)⟩
  · by_cases hik : i = k <;> by_cases hjk : j = k
    · rw [hik, hjk]
    · obtain ⟨h1, h2, h3⟩ := old j g hjk hj
      subst hik
      rw [lup_eq, h2] at hij
      omega
    · obtain ⟨h1, h2, h3⟩ := old i f hik hi
      subst hjk
      rw [lup_eq, h2] at hij
      omega
    · obtain ⟨h1, h2, h3⟩ := old i f hik hi
      obtain ⟨h4, h5, h6⟩ := old j g hjk hj
      rw [h2, h5] at hij
      exact h.2.2 i j f g h1 h4 hij
/-! ===== locals ===== -/
def lget : List (Nat × Value) → Nat → Option Value
  | [], _ => none
  | (i, v) :: r, k => match Nat.beq i k with
    | true => some v
    | false => lget r k
theorem lget_mem : ∀ {lv : List (Nat × Value)} {k : Nat} {v : Value}, lget lv k = some v → (k, v) ∈ lv
  | [], k, v, h => by simp [lget] at h
  | (i, w) :: r, k, v, h => by
    unfold lget at h
    cases hb : Nat.beq i k with
    | true =>
      rw [hb] at h
      have := Nat.eq_of_beq_eq_true hb
      cases h
      subst this
      exact List.mem_cons_self
    | false =>
      rw [hb] at h
      exact List.mem_cons_of_mem _ (lget_mem h)
theorem lget_cons {lv : List (Nat × Value)} {i k : Nat} {v w : Value} (h : lget ((i, v) :: lv) k = some w) : (i = k ∧ v = w) ∨ (i ≠ k ∧ lget lv k = some w) := by
  unfold lget at h
  cases hb : Nat.beq i k with
  | true => rw [hb] at h; cases h; exact Or.inl ⟨Nat.eq_of_beq_eq_true hb, rfl⟩
  | false => rw [hb] at h; exact Or.inr ⟨Nat.ne_of_beq_eq_false hb, h⟩
def lh (ls : Array Slot) (nL : Nat) (lv : List (Nat × Value)) : Prop := ls.size = nL ∧ lv_wf ls ∧ ∀ (k : Nat) (v : Value), lget lv k = some v → v.category = 1 ∧ ls[k]? = some (.val v)
theorem lh_of {ls : Array Slot} {nL : Nat} {lv : List (Nat × Value)} (h : lv_has ls nL lv) (hc : ∀ q ∈ lv, q.2.category = 1) : lh ls nL lv := ⟨h.1, h.2.1, fun _ _ hk => ⟨hc _ (lget_mem hk), h.2.2 _ (lget_mem hk)⟩⟩
theorem lh_store {ls : Array Slot} {nL : Nat} {lv : List (Nat × Value)} {i : Nat} {v : Value} (h : lh ls nL lv) (hi : i < nL) (hc : v.category = 1) : ∃ ls', storeLocals ls i v = some ls' ∧ lh ls' nL ((i, v) :: lv) := by
  obtain ⟨ls', e', h'⟩ := lv_store1 (l := []) (v := v) ⟨h.1, h.2.1, fun q hq => by cases hq⟩ hi hc
  refine ⟨ls', e', h'.1, h'.2.1, fun k w hk => ?_⟩
  rcases lget_cons hk with ⟨rfl, rfl⟩ | ⟨hik, hk⟩
  · exact ⟨hc, h'.2.2 (i, v) List.mem_cons_self⟩
  · obtain ⟨hw1, hw2⟩ := h.2.2 k w hk
    obtain ⟨ls2, e2, h2⟩ := lv_store1 (l := [(k, w)]) (v := v) ⟨h.1, h.2.1, fun q hq => by rw [List.mem_singleton.mp hq]; exact hw2⟩ hi hc
    rw [e'] at e2
    cases e2
    refine ⟨hw1, h2.2.2 (k, w) (List.mem_cons_of_mem _ (List.mem_filter.mpr ⟨List.mem_singleton.mpr rfl, ?_⟩))⟩
    have a1 : (k == i) = false := by simp; exact fun z => hik z.symm
    simp [a1, hw1]
/-- the new list says no more than the old one -/
def lsub : List (Nat × Value) → List (Nat × Value) → Prop
  | _, [] => True
  | lv, (i, v) :: r => lget lv i = some v ∧ lsub lv r
theorem lsub_get : ∀ {lv lv' : List (Nat × Value)} {k : Nat} {v : Value}, lsub lv lv' → lget lv' k = some v → lget lv k = some v
  | lv, [], k, v, _, h => by simp [lget] at h
  | lv, (i, w) :: r, k, v, hs, h => by
    rcases lget_cons h with ⟨rfl, rfl⟩ | ⟨-, h⟩
    · exact hs.1
    · exact lsub_get hs.2 h
theorem lh_sub {ls : Array Slot} {nL : Nat} {lv lv' : List (Nat × Value)} (h : lh ls nL lv) (hs : lsub lv lv') : lh ls nL lv' := ⟨h.1, h.2.1, fun k v hk => h.2.2 k v (lsub_get hs hk)⟩
/-! ===== the judgement ===== -/
abbrev gZ : Type := Program × Env × Room × State × MethodId × Array Value × List Frame × Method × Code × Nat × (State → Prop)
abbrev zp (Z : gZ) : Program := Z.1
abbrev ze (Z : gZ) : Env := Z.2.1
abbrev zR (Z : gZ) : Room := Z.2.2.1
abbrev zs (Z : gZ) : State := Z.2.2.2.1
abbrev zm (Z : gZ) : MethodId := Z.2.2.2.2.1
abbrev za (Z : gZ) : Array Value := Z.2.2.2.2.2.1
abbrev zb (Z : gZ) : List Frame := Z.2.2.2.2.2.2.1
abbrev zh (Z : gZ) : Method := Z.2.2.2.2.2.2.2.1
abbrev zc (Z : gZ) : Code := Z.2.2.2.2.2.2.2.2.1
abbrev zn (Z : gZ) : Nat := Z.2.2.2.2.2.2.2.2.2.1
abbrev zQ (Z : gZ) : State → Prop := Z.2.2.2.2.2.2.2.2.2.2
abbrev ZW (l : Launch) (Z : gZ) (H : Heap) (locs : List Loc) (cells slots : Nat) (g : JFrame) : Prop := W (zp Z) l (ze Z) (zR Z) (zs Z) (zm Z) (za Z) (zb Z) (zh Z) (zc Z) H locs cells slots (zQ Z) g
def GO (l : Launch) (X : gX) (b0 : Nat) (Z : gZ) (cells slots : Nat) (lo : gL) (en : gE) (pc : Nat) (lv : List (Nat × Value)) (st : List Value) : Prop :=
  ∀ (H : Heap) (locs : List Loc) (ls : Array Slot), va_S (fun q => b0 ≤ q) (zs Z).heap H locs → hw X b0 lo en H → lh ls (zn Z) lv → ZW l Z H locs cells slots (F0 (zm Z) pc ls st)
/-- what a method knows of itself -/
def MC (X : gX) (Z : gZ) (rm : Room) (cc : ByteArray) (nL : Nat) (own : String) (ret : Option FieldType) : Prop := CallFix (zp Z) (zm Z) (zc Z) cc nL (zs Z) (za Z) gAll own ∧ gK X (zs Z) ∧ zR Z = rm ∧ (zh Z).sig.returnType = ret ∧ (zh Z).locks = false ∧ zn Z = nL
