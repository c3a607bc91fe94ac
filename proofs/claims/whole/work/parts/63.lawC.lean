/-! THE CLAIM OUT OF ONE WALK OF THE LAW'S BODY. Your part is whole_start (and what it stands on); all else here is the same for every law, but numbers. -/
def R_law : String := "MouldMatcherLaw"
def lw_P (b : Addr) (xs : List Int32) (args : Array Value) (s : State) : Prop := args = #[.ref b] ∧ s.IntsAt b xs ∧ xs.length ≤ 2048 ∧ (Jvm.Cond.and given_1 narrow_1).before args s = true
def lw_Q (_ : Array Value) (s : State) (o : Outcome) (t : State) : Prop := o = .returned (some (.int 1)) ∧ Framed s o t [] 600000 7302250
def lw_Z (below : List Frame) (a : Array Value) (s : State) : State → Prop := fun t => ∃ o, t.status = .running ∧ Ended t below o ∧ lw_Q a s o t
/-- the law's own end, with 1 on the stack, nothing written that was there before, its room as the claim has it -/
theorem lw_ret {p : Program} {l : Launch} {e : Env} {s : State} {m : MethodId} {below : List Frame} {meth : Method} {c : Code} {b : Nat} (hx : p.tables.exec = Jvm.exec) (hb : c.code = code) (hr : meth.sig.returnType = ret) (hlocks : meth.locks = false) {pc : Nat} {H : Heap} {ls : Array Slot} (hdg : decode code pc = .ok (.ireturn, 1)) : W p l e room_1 s m #[Value.ref b] below meth c H [] 600000 7302250 (lw_Z below #[Value.ref b] s) (F0 m pc ls [.int 1]) := by
  intro T hT X
  obtain ⟨fs, hret, hrun, hended, hW, hframe⟩ := X.leave (v := some (.int 1)) (hlocks := hlocks) (fun h => by rw [hr] at h; cases h)
  have hmeth' : T.vm.method? m = some meth := X.method'
  refine ⟨T.setFrames fs, ?_, .returned (some (.int 1)), hrun, hended, rfl, ⟨_, rfl⟩, hW, hframe⟩
  jvm_step X.here [X.here.top, hx, hb, hdg, hmeth', hr, ret, narrow_b1]
  (try refine ⟨rfl, ?_⟩); (try refine ⟨rfl, ?_⟩)
  first | (intro acts; rw [hret _ acts rfl rfl rfl]) | rw [hret _ _ rfl rfl rfl]
  exact Steps.refl _
/-- what holds at the law's entry: the machine, the code, the tables' words (any of lw_tbl by 'hts w (by decide +kernel)'), the script of L ints xs at the cell b, what the Statement gives of the start (any of its parts by flat_of_before) -/
def lw_At (p : Program) (s : State) (m : MethodId) (meth : Method) (c : Code) (b L : Nat) (xs : Nat → Int32) : Prop :=
  p.tables.exec = Jvm.exec ∧ c.code = code ∧ meth.sig.returnType = ret ∧ c.maxLocals = 4 ∧ s.vm.findClass R_law = some m.cls ∧ (∀ w ∈ lw_tbl, w.before #[Value.ref b] s = true) ∧ va_X b L xs s s.heap ∧ b < s.heap.size ∧ meth.locks = false ∧ (Jvm.Cond.and given_1 narrow_1).before #[Value.ref b] s = true
theorem enC_e {X : gX} {lo : gL} {L : Nat → Nat → Nat} {K C : rM3} {e0 e1 : gE} (h : ∀ k, 1000 ≤ k → e0 k = e1 k) : enC X lo L K C e0 = enC X lo L K C e1 := by
  funext k
  by_cases c : 1000 ≤ k
  · rw [cHi c, cHi c, h k c]
  · unfold enC
    rw [if_neg c, if_neg c]
set_option maxHeartbeats 4000000 in
set_option maxRecDepth 100000 in
theorem law_start {p : Program} {e : Env} {s : State} {m : MethodId} {below : List Frame} {meth : Method} {c : Code} (l : Launch) {b N : Nat} {xs : Nat → Int32} (hL : N ≤ 2048) (hAt : lw_At p s m meth c b N xs) : W p l e room_1 s m #[Value.ref b] below meth c s.heap [] 0 0 (lw_Z below #[Value.ref b] s) (entryFrame m ([Value.ref b] : List Value).toArray 4) := by
  obtain ⟨hx, hb, hr, hml, hown, hts, hX, hbl, hlocks, hgv⟩ := hAt
  obtain ⟨X, hK⟩ := gK_start hts
  obtain ⟨Z, hZ⟩ : ∃ Z : gZ, Z = (p, e, room_1, s, m, #[Value.ref b], below, meth, c, 4, lw_Z below #[Value.ref b] s) := ⟨_, rfl⟩
  have hC : MC X Z room_1 cL_law 4 "MouldMatcherLaw" ret := by
    rw [hZ]
    exact ⟨⟨hx, hb, hml, hown, fun w h => hts w (List.mem_filter.mp h).1⟩, hK, rfl, hr, hlocks, rfl⟩
  have hEnd : ∀ (lo : gL) (en : gE) (lv : List (Nat × Value)), GO l X s.heap.size Z 600000 7302250 lo en 772 lv [.int 1] := by
    rw [hZ]
    exact fun lo en lv H locs ls hS hW hl => va_forget hS.2.2 (lw_ret hx hb hr hlocks dL_law_772)
  have hXZ : va_X b N xs (zs Z) (zs Z).heap := by rw [hZ]; exact hX
  have hblZ : b < (zs Z).heap.size := by rw [hZ]; exact hbl
  have start : GO l X s.heap.size Z 0 0 (fun _ => 0) e00 0 [(0, .ref b)] [] := by
    refine g_new (ci := 4) hC 0 rfl rfl kl_X4 tyX4 tyX4_ok kk_L_7 kn_X4 kz_X4 zX4 dfX4 (by rw [hC.2.2.1]; decide) (by rw [hC.2.2.1]; decide) dL_law_0 (fun a lo1 en1 hlo1 hen1 => ?_)
    refine g_dup hC dL_law_3 rfl ?_
    refine g_callI hC v_X4_init km_L_9 (c_X4_init l X s.heap.size lo1 en1 a (by rw [hlo1, lup_eq]) (by rw [hen1, eup_eq]) (fun j hj => by rw [hen1, eup_ne (by omega)]; rfl)) rfl rfl (Nat.le_of_ble_eq_true rfl) ⟨by decide, by decide⟩ ⟨by decide, by decide⟩ dL_law_4 (fun v lo2 en2 hp => ?_)
    obtain ⟨hv, hlo0, hlo2, hen2⟩ := hp
    subst hv
    rw [hen2, enC_e (e1 := e00) (fun k hk => by rw [hen1, eup_ne (by omega)])]
    refine g_astore_n hC dL_law_7 (by decide) ?_
    refine g_new (ci := 5) hC 1000 (by rw [cHi (by decide)]; rfl) rfl kl_X5 tyX5 tyX5_ok kk_L_10 kn_X5 kz_X5 zX5 dfX5 (by rw [hC.2.2.1]; decide) (by rw [hC.2.2.1]; decide) dL_law_8 (fun a2 lo3 en3 hlo3 hen3 => ?_)
    refine g_dup hC dL_law_11 rfl ?_
    refine g_callI hC v_X5_init km_L_12 (c_X5_init l X s.heap.size lo3 en3 a2 (by rw [hlo3, lup_eq]) (by rw [hen3, eup_eq]) (fun j hj => by rw [hen3, eup_ne (by omega), cHi (by omega)]; rfl)) rfl rfl (Nat.le_of_ble_eq_true rfl) ⟨by decide, by decide⟩ ⟨by decide, by decide⟩ dL_law_12 (fun v lo4 en4 hp => ?_)
    obtain ⟨hv, hlo4, hen4⟩ := hp
    subst hv
    have hE : enR X lo4 M0 T0 en3 = enR X lo4 M0 T0 (enC X lo4 L0 K0 C0 e00) := by
      funext k
      by_cases hk : k = 1000
      · subst hk; rfl
      · refine enR_e ?_
        rw [hen3, eup_ne hk, enC_lo (lo1 := lo4) (fun j hj => by rw [hlo4 j (by omega), hlo3, lup_ne (by omega)]) rfl rfl]
    rw [hen4, hE, ← en_swap]
    refine g_astore_n hC dL_law_15 (by decide) ?_
    refine g_iconst (v := 0) hC dL_law_16 (by decide) ?_
    refine g_istore_n hC dL_law_17 (by decide) ?_
    have ha : a = lo4 0 := by rw [hlo4 0 (by omega), hlo3, lup_ne (by omega), hlo0, hlo1, lup_eq]
    have ha2 : a2 = lo4 1000 := by rw [hlo4 1000 (by omega), hlo3, lup_eq]
    rw [ha, ha2]
    refine g_widen (k := 30 + 13 * 0) (n := 1000 + 97 * 0) (by decide) (by decide) ?_
    exact g_lv (lv' := [(0, .ref b), (1, .ref (lo4 0)), (2, .ref (lo4 1000)), (3, .int (nI 0))]) ⟨rfl, rfl, rfl, rfl, trivial⟩ (law_loop hC hXZ hblZ (Nat.not_le.mpr hbl) hL hEnd N 0 (by omega) (by omega) lo4 L0 K0 C0 M0 T0 Iv_M0 Sm_0 Sc_0)
  have hl := lv_entry ([.ref b]) (n := 4) (Nat.le_of_ble_eq_true rfl)
  have hc1 : ∀ q ∈ lv_args 0 ([.ref b] : List Value), q.2.category = 1 := fun q hq => Nat.eq_of_beq_eq_true (List.all_eq_true.mp (rfl : ((lv_args 0 ([.ref b] : List Value)).all (fun q => Nat.beq q.2.category 1)) = true) q hq)
  have hw0 : hw X s.heap.size (fun _ => 0) e00 s.heap := ⟨Nat.le_refl _, fun k e h => (by cases h), fun i j e f h => (by cases h)⟩
  rw [lg_entry_eq]
  rw [hZ] at start
  exact start s.heap [] _ va_S.rf hw0 (lh_of hl hc1)
