/-! ===== contracts over the world of labels; calls and returns ===== -/
abbrev gP : Type := Option Value → gL → gE → Prop
def cQ (X : gX) (b0 : Nat) (post : gP) : Array Value → State → Outcome → State → Prop := fun _ st oc t => (∃ (v : Option Value) (lo' : gL) (en' : gE), oc = .returned v ∧ post v lo' en' ∧ hw X b0 lo' en' t.heap) ∧ va_F (fun q => b0 ≤ q) st t
def cP (X : gX) (b0 : Nat) (lo : gL) (en : gE) (av : List Value) : Array Value → State → Prop := va_Pc av (fun U => hw X b0 lo en U.heap ∧ gK X U)
/-- a method's contract: from every heap that holds the world (lo, en), with the arguments av -/
def Ct (l : Launch) (X : gX) (b0 : Nat) (lo : gL) (en : gE) (y : MethodName) (cc : ByteArray) (maxL : Nat) (ret : Option FieldType) (rm : Room) (av : List Value) (post : gP) : Prop := Met l y (Cond.code y cc maxL ret :: gAll) rm (cP X b0 lo en av) (cQ X b0 post) rm.cells rm.slots (fun q => b0 ≤ q)
/-- reads alone: the answer is v, the world stays -/
def pX (v : Value) (lo : gL) (en : gE) : gP := fun v' lo' en' => v' = some v ∧ lo' = lo ∧ en' = en
/-- an int that the post speaks of -/
def pI (lo : gL) (post : Int32 → gE → Prop) : gP := fun v' lo' en' => lo' = lo ∧ ∃ r : Int32, v' = some (.int r) ∧ post r en'
def pV (lo : gL) (post : gE → Prop) : gP := fun v' lo' en' => v' = none ∧ lo' = lo ∧ post en'
def pW (v : Value) (lo : gL) (post : gE → Prop) : gP := fun v' lo' en' => v' = some v ∧ lo' = lo ∧ post en'
theorem cP.blind {X : gX} {b0 : Nat} {lo : gL} {en : gE} {av : List Value} : FrameBlind (cP X b0 lo en av) := fun a U g mk q => ⟨q.1, q.2.1, gK.same (s := U) rfl q.2.2⟩
def rM (f n : Nat) : Room := { frames := f, cells := 0, slots := 0, locals := n }
/-- the return: what a method's body must come to -/
def gRet (l : Launch) (X : gX) (b0 : Nat) (Z : gZ) (cc : ByteArray) (mc ms : Nat) (ret : Option FieldType) (post : gP) : Prop :=
  (∀ (lo' : gL) (en' : gE) (pc : Nat) (lv : List (Nat × Value)) (r : Int32) (rt : FieldType), ret = some rt → narrow rt (.int r) = .int r → decode cc pc = .ok (.ireturn, 1) → post (some (.int r)) lo' en' → GO l X b0 Z mc ms lo' en' pc lv [.int r]) ∧
  (∀ (lo' : gL) (en' : gE) (pc : Nat) (lv : List (Nat × Value)), ret = none → decode cc pc = .ok (.return_, 1) → post none lo' en' → GO l X b0 Z mc ms lo' en' pc lv []) ∧
  (∀ (lo' : gL) (en' : gE) (pc : Nat) (lv : List (Nat × Value)) (v : Value) (rt : FieldType), ret = some rt → ((∃ n, rt = .object n) ∨ ∃ t, rt = .array t) → (v = .null ∨ ∃ a, v = .ref a) → decode cc pc = .ok (.areturn, 1) → post (some v) lo' en' → GO l X b0 Z mc ms lo' en' pc lv [v])
theorem gMet {l : Launch} {X : gX} {b0 : Nat} {lo : gL} {en : gE} {y : MethodName} {cc : ByteArray} {maxL : Nat} {ret : Option FieldType} {rm : Room} {av : List Value} {post : gP} (hy : plainName y.cls = true) (hav : (lg_sl av).length ≤ maxL) (hc0 : (lv_args 0 av).all (fun q => Nat.beq q.2.category 1) = true)
    (body : ∀ Z : gZ, MC X Z rm cc maxL y.cls ret → (y.name = "<init>" → (zh Z).name = "<init>") → gRet l X b0 Z cc rm.cells rm.slots ret post → GO l X b0 Z 0 0 lo en 0 (lv_args 0 av) []) : Ct l X b0 lo en y cc maxL ret rm av post := by
  have hc1 : ∀ q ∈ lv_args 0 av, q.2.category = 1 := fun q hq => Nat.eq_of_beq_eq_true (List.all_eq_true.mp hc0 q hq)
  refine Met.ofW (cc := cc) (maxL := maxL) (ret := ret) hy rfl ?_
  intro p e s m args below meth c s₁ B hml hv
  obtain ⟨rfl, hW, hK⟩ := hv
  have hts := atoms_spec (ws := Cond.code y cc maxL ret :: gAll) B.pre
  have hown : s.vm.findClass y.cls = some m.cls := findClass_of_methodNamed B.named
  have hin : y.name = "<init>" → meth.name = "<init>" := fun h => (name_of_methodNamed B.named B.method).1.trans h
  have hl := lv_entry av (n := maxL) hav
  rw [lg_entry_eq]
  have hlocks := B.notSynchronized
  refine body (p, e, rm, s, m, av.toArray, below, meth, c, maxL, MQ below (cQ X b0 post) av.toArray s rm.cells rm.slots (fun q => b0 ≤ q)) ⟨⟨B.exec, B.bytes, hml, hown, fun w h => hts w (List.mem_cons_of_mem _ h)⟩, hK, rfl, B.returns, B.notSynchronized, rfl⟩ hin ⟨?_, ?_, ?_⟩ s.heap [] _ va_S.rf hW (lh_of hl hc1)
  · intro lo' en' pc lv r rt hrt hn hd hp H locs ls hS hW' hl'
    exact W.zret (v := r) (ty := rt) B.exec B.bytes (B.returns.trans hrt) hn (fun t ht hWm => ⟨⟨_, lo', en', rfl, hp, by rw [ht]; exact hW'⟩, hS.F ht⟩) hS.2.2 hd hlocks
  · intro lo' en' pc lv hrt hd hp H locs ls hS hW' hl'
    exact W.vret B.exec B.bytes (B.returns.trans hrt) (fun t ht hWm => ⟨⟨_, lo', en', rfl, hp, by rw [ht]; exact hW'⟩, hS.F ht⟩) hS.2.2 hd hlocks
  · intro lo' en' pc lv v rt hrt hk hvv hd hp H locs ls hS hW' hl'
    exact W.aret (v := v) B.exec B.bytes (B.returns.trans hrt) hk hvv (fun t ht hWm => ⟨⟨_, lo', en', rfl, hp, by rw [ht]; exact hW'⟩, hS.F ht⟩) hS.2.2 hd hlocks
/-- a callee that is called as a virtual method of class C -/
def gV (C : String) (y : MethodName) (bytes : ByteArray) (maxL : Nat) (ret : Option FieldType) (n : Nat) : Prop := Cond.instanceMethod y ∈ gAll ∧ Cond.selects C y y ∈ gAll ∧ Cond.initialized C ∈ gAll ∧ Cond.code y bytes maxL ret ∈ gAll ∧ (y.cls = C ∧ y.cls ≠ "java/lang/invoke/MethodHandle" ∧ y.cls ≠ "java/lang/invoke/VarHandle" ∧ (parseMethodDescriptor y.desc).map (fun d => d.parameters.length) = some n)
def gS (y : MethodName) (bytes : ByteArray) (maxL : Nat) (ret : Option FieldType) (n : Nat) : Prop := Cond.static y ∈ gAll ∧ Cond.initialized y.cls ∈ gAll ∧ Cond.code y bytes maxL ret ∈ gAll ∧ (y.cls ≠ "java/lang/invoke/MethodHandle" ∧ y.cls ≠ "java/lang/invoke/VarHandle" ∧ (parseMethodDescriptor y.desc).map (fun d => d.parameters.length) = some n)
def gI (y : MethodName) (bytes : ByteArray) (maxL : Nat) (n : Nat) : Prop := Cond.instanceMethod y ∈ gAll ∧ Cond.initialized y.cls ∈ gAll ∧ Cond.code y bytes maxL none ∈ gAll ∧ y.name = "<init>" ∧ (y.cls ≠ "java/lang/invoke/MethodHandle" ∧ y.cls ≠ "java/lang/invoke/VarHandle" ∧ (parseMethodDescriptor y.desc).map (fun d => d.parameters.length) = some n)
theorem gAll_cons {y : MethodName} {bytes : ByteArray} {maxL : Nat} {ret : Option FieldType} (h : Cond.code y bytes maxL ret ∈ gAll) : GoodIn gAll (Cond.code y bytes maxL ret :: gAll) := fun w hw => by
  rcases List.mem_cons.mp hw with rfl | hw
  · exact gAll_good _ h
  · exact gAll_good _ hw
theorem gGood_app {a b : List Cond} (ha : GoodIn gAll a) (hb : GoodIn gAll b) : GoodIn gAll (a ++ b) := fun w h => (List.mem_append.mp h).elim (ha w) (hb w)
theorem gGood_of {a : List Cond} (ha : ∀ w ∈ a, w ∈ gAll) : GoodIn gAll a := fun w h => gAll_good w (ha w h)
section GCALLS
variable {l : Launch} {X : gX} {b0 : Nat} {Z : gZ} {rm : Room} {cc : ByteArray} {nL : Nat} {own : String} {ret : Option FieldType} {cells slots : Nat} {lo : gL} {en : gE} {pc : Nat} {lv : List (Nat × Value)} {rest st : List Value} {y : MethodName} {bytes : ByteArray} {maxL n idx : Nat} {rt : Option FieldType} {rc : Room} {post : gP} {As av : List Value}
/-- behind a call -/
theorem g_back {H : Heap} {locs : List Loc} {ls : Array Slot} {a : Array Value} (hr : va_Run (zp Z) l (ze Z) (zR Z) (zs Z) (zm Z) (za Z) (zb Z) (zh Z) (zc Z) H locs cells slots rc.cells rc.slots (F0 (zm Z) pc ls st) rest (cQ X b0 post a) (fun q => b0 ≤ q)) (hS : va_S (fun q => b0 ≤ q) (zs Z).heap H locs) (hl : lh ls (zn Z) lv)
    (kk : ∀ (v : Option Value) (lo' : gL) (en' : gE), post v lo' en' → GO l X b0 Z (cells + rc.cells) (slots + rc.slots) lo' en' (pc + 3) lv (v.toList ++ rest)) : ZW l Z H locs cells slots (F0 (zm Z) pc ls st) := by
  intro T hT X'
  obtain ⟨v, st₀, t, T', L, h0, X2, hL, e1, e2, ⟨⟨v2, lo', en', hv, hp, hb⟩, hz, hk⟩, hst⟩ := hr T hT X'
  cases hv
  rw [h0] at hz hk
  obtain ⟨t2, a1, b1⟩ := kk v lo' en' hp T'.heap (locs ++ L) ls ⟨Nat.le_trans hS.1 (by rw [e1]; exact hz), fun q h1 h2 => by rw [e1, hk q (Nat.lt_of_lt_of_le h1 hS.1) h2]; exact hS.2.1 q h1 h2, fun q hq => by
      rcases List.mem_append.mp hq with h | h
      · exact hS.2.2 q h
      · exact hL q h⟩ (by rw [e1]; exact hb) hl T' rfl X2
  exact ⟨t2, hst t2 a1, b1⟩
theorem g_callV (hC : MC X Z rm cc nL own ret) {C : String} (hg : gV C y bytes maxL rt n) (hm : Cond.methodLink own idx y ∈ gAll) {k ci a : Nat} {fs : List Value} {r : vw_C} (hM : Ct l X b0 lo en y bytes maxL rt rc (.ref a :: As) post) (ha : a = lo k) (he : en k = some (.inr (ci, fs))) (hc : vwCl[ci]? = some r) (hCr : r.1 = C) (hn : As.length = n) (hst : st = As.reverse ++ .ref a :: rest) (hro : (rest.map fun v => v.category).sum ≤ 8) (hR : rc.frames + 1 ≤ rm.frames ∧ 8 + (maxL + 11) + rc.locals ≤ rm.locals) (hf : cells + rc.cells ≤ rm.cells ∧ slots + rc.slots ≤ rm.slots) (d : decode cc pc = .ok (.invokevirtual idx, 3))
    (kk : ∀ (v : Option Value) (lo' : gL) (en' : gE), post v lo' en' → GO l X b0 Z (cells + rc.cells) (slots + rc.slots) lo' en' (pc + 3) lv (v.toList ++ rest)) : GO l X b0 Z cells slots lo en pc lv st := by
  intro H locs ls hS hW hl
  subst ha
  obtain ⟨g1, g2, g3, g4, g5⟩ := hg
  have hP : va_P X.1 vwCl [(lo k, .inr (ci, fs))] H := fun i q hq => by
    match i, hq with
    | 0, hq => cases hq; exact (hW.2.1 k _ he).2
    | i + 1, hq => simp at hq
  have hrec := va_recv hC.2.1.1 hP (ci := ci) (q0 := 0) hc rfl
  rw [hCr] at hrec
  have hcw : CallW (zR Z) (zs Z) (za Z) own C idx y bytes maxL rt (Cond.code y bytes maxL rt :: gAll) rc rc.cells rc.slots n := cwV n hC.1.2.2.2.2 (gGood_app (gGood_of (fun w h => by
    simp only [List.mem_cons, List.not_mem_nil, or_false] at h
    rcases h with rfl | rfl | rfl | rfl
    · exact hm
    · exact g1
    · exact g2
    · exact g3)) (gAll_cons g4)) rfl rfl rfl g5 (by rw [hC.2.2.1]; exact hR)
  exact g_back (va_runV (C := C) (As := As) (rest := rest) (b := lo k) hC.1 hM hcw ⟨cP.blind, hrec, fun U hU hWm => ⟨rfl, by rw [hU]; exact hW, gK.warm hWm hC.2.1⟩⟩ rfl hn (hl.1.trans hC.2.2.2.2.2) hst (lv_room hro) d (by rw [hC.2.2.1]; exact hf)) hS hl kk
theorem g_callS (hC : MC X Z rm cc nL own ret) (hg : gS y bytes maxL rt n) (hm : Cond.methodLink own idx y ∈ gAll) (hM : Ct l X b0 lo en y bytes maxL rt rc As post) (hn : As.length = n) (hst : st = As.reverse ++ rest) (hro : (rest.map fun v => v.category).sum ≤ 8) (hR : rc.frames + 1 ≤ rm.frames ∧ 8 + (maxL + 11) + rc.locals ≤ rm.locals) (hf : cells + rc.cells ≤ rm.cells ∧ slots + rc.slots ≤ rm.slots) (d : decode cc pc = .ok (.invokestatic idx, 3))
    (kk : ∀ (v : Option Value) (lo' : gL) (en' : gE), post v lo' en' → GO l X b0 Z (cells + rc.cells) (slots + rc.slots) lo' en' (pc + 3) lv (v.toList ++ rest)) : GO l X b0 Z cells slots lo en pc lv st := by
  intro H locs ls hS hW hl
  obtain ⟨g1, g2, g4, g5⟩ := hg
  have hcw := va_cwS (own := own) (index := idx) (rm := rc) (R := zR Z) (s := zs Z) (args := za Z) n hC.1.2.2.2.2 (gGood_app (gGood_of (fun w h => by
    simp only [List.mem_cons, List.not_mem_nil, or_false] at h
    rcases h with rfl | rfl | rfl
    · exact hm
    · exact g1
    · exact g2)) (gAll_cons g4)) rfl rfl rfl g5 (by rw [hC.2.2.1]; exact hR)
  exact g_back (va_runS (As := As) (rest := rest) hC.1 hM hcw ⟨cP.blind, fun U hU hWm => ⟨rfl, by rw [hU]; exact hW, gK.warm hWm hC.2.1⟩⟩ rfl hn (hl.1.trans hC.2.2.2.2.2) hst (lv_room hro) d (by rw [hC.2.2.1]; exact hf)) hS hl kk
theorem g_callI (hC : MC X Z rm cc nL own ret) (hg : gI y bytes maxL n) (hm : Cond.methodLink own idx y ∈ gAll) {b : Nat} (hM : Ct l X b0 lo en y bytes maxL none rc (.ref b :: As) post) (hn : As.length = n) (hst : st = As.reverse ++ .ref b :: rest) (hro : (rest.map fun v => v.category).sum ≤ 8) (hR : rc.frames + 1 ≤ rm.frames ∧ 8 + (maxL + 11) + rc.locals ≤ rm.locals) (hf : cells + rc.cells ≤ rm.cells ∧ slots + rc.slots ≤ rm.slots) (d : decode cc pc = .ok (.invokespecial idx, 3))
    (kk : ∀ (v : Option Value) (lo' : gL) (en' : gE), post v lo' en' → GO l X b0 Z (cells + rc.cells) (slots + rc.slots) lo' en' (pc + 3) lv (v.toList ++ rest)) : GO l X b0 Z cells slots lo en pc lv st := by
  intro H locs ls hS hW hl
  obtain ⟨g1, g2, g4, g6, g5⟩ := hg
  have hcw := cwI (own := own) (index := idx) (rm := rc) (R := zR Z) (s := zs Z) (args := za Z) n hC.1.2.2.2.2 (gAll_cons g4) rfl rfl rfl (hC.1.2.2.2.2 _ g2) (hC.1.2.2.2.2 _ hm) (hC.1.2.2.2.2 _ g1) g6 g5 (by rw [hC.2.2.1]; exact hR)
  exact g_back (va_runI (As := As) (rest := rest) (b := b) hC.1 hM hcw ⟨cP.blind, fun U hU hWm => ⟨rfl, by rw [hU]; exact hW, gK.warm hWm hC.2.1⟩⟩ rfl hn (hl.1.trans hC.2.2.2.2.2) hst (lv_room hro) d (by rw [hC.2.2.1]; exact hf)) hS hl kk
theorem g_callIN (hC : MC X Z rm cc nL own ret) (hg : gI y bytes maxL n) {host : String} (hm : va_Nw (.methodLinkNest own idx y host) (zs Z)) {b : Nat} (hM : Ct l X b0 lo en y bytes maxL none rc (.ref b :: As) post) (hn : As.length = n) (hst : st = As.reverse ++ .ref b :: rest) (hro : (rest.map fun v => v.category).sum ≤ 8) (hR : rc.frames + 1 ≤ rm.frames ∧ 8 + (maxL + 11) + rc.locals ≤ rm.locals) (hf : cells + rc.cells ≤ rm.cells ∧ slots + rc.slots ≤ rm.slots) (d : decode cc pc = .ok (.invokespecial idx, 3))
    (kk : ∀ (v : Option Value) (lo' : gL) (en' : gE), post v lo' en' → GO l X b0 Z (cells + rc.cells) (slots + rc.slots) lo' en' (pc + 3) lv (v.toList ++ rest)) : GO l X b0 Z cells slots lo en pc lv st := by
  intro H locs ls hS hW hl
  obtain ⟨g1, g2, g4, g6, g5⟩ := hg
  have hcw := va_cnB (own := own) (host := host) (index := idx) (rm := rc) (R := zR Z) (s := zs Z) (args := za Z) n hC.1.2.2.2.2 (gAll_cons g4) rfl rfl rfl hm (hC.1.2.2.2.2 _ g2) g5 (by rw [hC.2.2.1]; exact hR)
  exact g_back (va_runIN (host := host) (As := As) (rest := rest) (b := b) hC.1 hM ⟨hcw, g6, hC.1.2.2.2.2 _ g1⟩ ⟨cP.blind, fun U hU hWm => ⟨rfl, by rw [hU]; exact hW, gK.warm hWm hC.2.1⟩⟩ rfl hn (hl.1.trans hC.2.2.2.2.2) hst (lv_room hro) d (by rw [hC.2.2.1]; exact hf)) hS hl kk
/-- what comes behind a call, by the form of its post -/
theorem kX {v0 : Value} {lo0 : gL} {en0 : gE} {rest : List Value} {cells slots : Nat} (h : GO l X b0 Z cells slots lo0 en0 pc lv (v0 :: rest)) : ∀ (v : Option Value) (lo' : gL) (en' : gE), pX v0 lo0 en0 v lo' en' → GO l X b0 Z cells slots lo' en' pc lv (v.toList ++ rest) := by
  rintro v lo' en' ⟨rfl, rfl, rfl⟩; exact h
theorem kI {lo0 : gL} {post : Int32 → gE → Prop} {rest : List Value} {cells slots : Nat} (h : ∀ (r : Int32) (en' : gE), post r en' → GO l X b0 Z cells slots lo0 en' pc lv (.int r :: rest)) : ∀ (v : Option Value) (lo' : gL) (en' : gE), pI lo0 post v lo' en' → GO l X b0 Z cells slots lo' en' pc lv (v.toList ++ rest) := by
  rintro v lo' en' ⟨rfl, r, rfl, hp⟩; exact h r en' hp
theorem kV {lo0 : gL} {post : gE → Prop} {rest : List Value} {cells slots : Nat} (h : ∀ (en' : gE), post en' → GO l X b0 Z cells slots lo0 en' pc lv rest) : ∀ (v : Option Value) (lo' : gL) (en' : gE), pV lo0 post v lo' en' → GO l X b0 Z cells slots lo' en' pc lv (v.toList ++ rest) := by
  rintro v lo' en' ⟨rfl, rfl, hp⟩; exact h en' hp
theorem kW {v0 : Value} {lo0 : gL} {post : gE → Prop} {rest : List Value} {cells slots : Nat} (h : ∀ (en' : gE), post en' → GO l X b0 Z cells slots lo0 en' pc lv (v0 :: rest)) : ∀ (v : Option Value) (lo' : gL) (en' : gE), pW v0 lo0 post v lo' en' → GO l X b0 Z cells slots lo' en' pc lv (v.toList ++ rest) := by
  rintro v lo' en' ⟨rfl, rfl, hp⟩; exact h en' hp
theorem g_ireti {rt : FieldType} {post : gP} {mc ms : Nat} {r : Int32} (hr : gRet l X b0 Z cc mc ms (some rt) post) (d : decode cc pc = .ok (.ireturn, 1)) (hn : narrow rt (.int r) = .int r) (hp : post (some (.int r)) lo en) : GO l X b0 Z mc ms lo en pc lv [.int r] := hr.1 lo en pc lv r rt rfl hn d hp
theorem g_retv {post : gP} {mc ms : Nat} (hr : gRet l X b0 Z cc mc ms none post) (d : decode cc pc = .ok (.return_, 1)) (hp : post none lo en) : GO l X b0 Z mc ms lo en pc lv [] := hr.2.1 lo en pc lv rfl d hp
theorem g_areto {nm : String} {post : gP} {mc ms : Nat} {v : Value} (hr : gRet l X b0 Z cc mc ms (some (.object nm)) post) (hv : v = .null ∨ ∃ a, v = .ref a) (d : decode cc pc = .ok (.areturn, 1)) (hp : post (some v) lo en) : GO l X b0 Z mc ms lo en pc lv [v] := hr.2.2 lo en pc lv v _ rfl (Or.inl ⟨_, rfl⟩) hv d hp
theorem g_areta {t : FieldType} {post : gP} {mc ms : Nat} {v : Value} (hr : gRet l X b0 Z cc mc ms (some (.array t)) post) (hv : v = .null ∨ ∃ a, v = .ref a) (d : decode cc pc = .ok (.areturn, 1)) (hp : post (some v) lo en) : GO l X b0 Z mc ms lo en pc lv [v] := hr.2.2 lo en pc lv v _ rfl (Or.inr ⟨_, rfl⟩) hv d hp
end GCALLS
theorem pXi {r r' : Int32} {lo : gL} {en : gE} (h : r = r') : pX (.int r') lo en (some (.int r)) lo en := ⟨by rw [h], rfl, rfl⟩
