section GROWS
variable {l : Launch} {X : gX} {b0 : Nat} {Z : gZ} {rm : Room} {cc : ByteArray} {nL : Nat} {own : String} {ret : Option FieldType} {cells slots : Nat} {lo : gL} {en : gE} {pc : Nat} {lv : List (Nat × Value)} {rest : List Value}
theorem g_iconst (hC : MC X Z rm cc nL own ret) {n : Int} {v : Int32} (d : decode cc pc = .ok (.iconst n, 1)) (hv : Int32.ofInt n = v) (kk : GO l X b0 Z cells slots lo en (pc + 1) lv (.int v :: rest)) : GO l X b0 Z cells slots lo en pc lv rest := fun H locs ls hS hW hl => lv_iconst hC.1.1 hC.1.2.1 d hv (kk H locs ls hS hW hl)
theorem g_bipush (hC : MC X Z rm cc nL own ret) {n : Int} {v : Int32} (d : decode cc pc = .ok (.bipush n, 2)) (hv : (Int8.ofInt n).toInt32 = v) (kk : GO l X b0 Z cells slots lo en (pc + 2) lv (.int v :: rest)) : GO l X b0 Z cells slots lo en pc lv rest := fun H locs ls hS hW hl => lv_bipush hC.1.1 hC.1.2.1 d hv (kk H locs ls hS hW hl)
theorem g_sipush (hC : MC X Z rm cc nL own ret) {n : Int} {v : Int32} (d : decode cc pc = .ok (.sipush n, 3)) (hv : (Int16.ofInt n).toInt32 = v) (kk : GO l X b0 Z cells slots lo en (pc + 3) lv (.int v :: rest)) : GO l X b0 Z cells slots lo en pc lv rest := fun H locs ls hS hW hl => lv_sipush hC.1.1 hC.1.2.1 d hv (kk H locs ls hS hW hl)
theorem g_null (hC : MC X Z rm cc nL own ret)  (d : decode cc pc = .ok (.aconst_null, 1))  (kk : GO l X b0 Z cells slots lo en (pc + 1) lv (.null :: rest)) : GO l X b0 Z cells slots lo en pc lv rest := fun H locs ls hS hW hl => lv_null hC.1.1 hC.1.2.1 d (kk H locs ls hS hW hl)
theorem g_iload_n (hC : MC X Z rm cc nL own ret) {k : Fin 4} {x : Int32} (d : decode cc pc = .ok (.iload_n k, 1)) (h : lget lv (k : Nat) = some (.int x)) (kk : GO l X b0 Z cells slots lo en (pc + 1) lv (.int x :: rest)) : GO l X b0 Z cells slots lo en pc lv rest := fun H locs ls hS hW hl => lv_iload_n hC.1.1 hC.1.2.1 d rfl (hl.2.2 _ _ h).2 (kk H locs ls hS hW hl)
theorem g_iload (hC : MC X Z rm cc nL own ret) {i : Nat} {x : Int32} (d : decode cc pc = .ok (.iload i, 2)) (h : lget lv i = some (.int x)) (kk : GO l X b0 Z cells slots lo en (pc + 2) lv (.int x :: rest)) : GO l X b0 Z cells slots lo en pc lv rest := fun H locs ls hS hW hl => lv_iload hC.1.1 hC.1.2.1 d (hl.2.2 _ _ h).2 (kk H locs ls hS hW hl)
theorem g_aload_n (hC : MC X Z rm cc nL own ret) {k : Fin 4} {x : Nat} (d : decode cc pc = .ok (.aload_n k, 1)) (h : lget lv (k : Nat) = some (.ref x)) (kk : GO l X b0 Z cells slots lo en (pc + 1) lv (.ref x :: rest)) : GO l X b0 Z cells slots lo en pc lv rest := fun H locs ls hS hW hl => lv_aload_n hC.1.1 hC.1.2.1 d rfl (hl.2.2 _ _ h).2 (kk H locs ls hS hW hl)
theorem g_aload (hC : MC X Z rm cc nL own ret) {i : Nat} {x : Nat} (d : decode cc pc = .ok (.aload i, 2)) (h : lget lv i = some (.ref x)) (kk : GO l X b0 Z cells slots lo en (pc + 2) lv (.ref x :: rest)) : GO l X b0 Z cells slots lo en pc lv rest := fun H locs ls hS hW hl => lv_aload hC.1.1 hC.1.2.1 d (hl.2.2 _ _ h).2 (kk H locs ls hS hW hl)
theorem g_aload_nN (hC : MC X Z rm cc nL own ret) {k : Fin 4} (d : decode cc pc = .ok (.aload_n k, 1)) (h : lget lv (k : Nat) = some .null) (kk : GO l X b0 Z cells slots lo en (pc + 1) lv (.null :: rest)) : GO l X b0 Z cells slots lo en pc lv rest := fun H locs ls hS hW hl => lv_aload_nN hC.1.1 hC.1.2.1 d rfl (hl.2.2 _ _ h).2 (kk H locs ls hS hW hl)
theorem g_aloadN (hC : MC X Z rm cc nL own ret) {i : Nat} (d : decode cc pc = .ok (.aload i, 2)) (h : lget lv i = some .null) (kk : GO l X b0 Z cells slots lo en (pc + 2) lv (.null :: rest)) : GO l X b0 Z cells slots lo en pc lv rest := fun H locs ls hS hW hl => lv_aloadN hC.1.1 hC.1.2.1 d (hl.2.2 _ _ h).2 (kk H locs ls hS hW hl)
theorem g_istore_n (hC : MC X Z rm cc nL own ret) {k : Fin 4} {x : Int32} (d : decode cc pc = .ok (.istore_n k, 1)) (hn : (k : Nat) < nL) (kk : GO l X b0 Z cells slots lo en (pc + 1) (((k : Nat), Value.int x) :: lv) rest) : GO l X b0 Z cells slots lo en pc lv (Value.int x :: rest) := by
  intro H locs ls hS hW hl
  obtain ⟨ls', e', h'⟩ := lh_store (v := Value.int x) hl (by rw [hC.2.2.2.2.2]; exact hn) rfl
  intro T hT X'
  obtain ⟨t, a, b⟩ := kk H locs ls' hS hW h' T hT X'
  refine ⟨t, ?_, b⟩
  jvm_step X'.here [X'.here.top, ↓top_set X'.here.top, hC.1.1, hC.1.2.1, d, e']
  first | exact a | exact ⟨rfl, a⟩
theorem g_istore (hC : MC X Z rm cc nL own ret) {i : Nat} {x : Int32} (d : decode cc pc = .ok (.istore i, 2)) (hn : i < nL) (kk : GO l X b0 Z cells slots lo en (pc + 2) ((i, Value.int x) :: lv) rest) : GO l X b0 Z cells slots lo en pc lv (Value.int x :: rest) := by
  intro H locs ls hS hW hl
  obtain ⟨ls', e', h'⟩ := lh_store (v := Value.int x) hl (by rw [hC.2.2.2.2.2]; exact hn) rfl
  intro T hT X'
  obtain ⟨t, a, b⟩ := kk H locs ls' hS hW h' T hT X'
  refine ⟨t, ?_, b⟩
  jvm_step X'.here [X'.here.top, ↓top_set X'.here.top, hC.1.1, hC.1.2.1, d, e']
  first | exact a | exact ⟨rfl, a⟩
theorem g_astore_n (hC : MC X Z rm cc nL own ret) {k : Fin 4} {x : Nat} (d : decode cc pc = .ok (.astore_n k, 1)) (hn : (k : Nat) < nL) (kk : GO l X b0 Z cells slots lo en (pc + 1) (((k : Nat), Value.ref x) :: lv) rest) : GO l X b0 Z cells slots lo en pc lv (Value.ref x :: rest) := by
  intro H locs ls hS hW hl
  obtain ⟨ls', e', h'⟩ := lh_store (v := Value.ref x) hl (by rw [hC.2.2.2.2.2]; exact hn) rfl
  intro T hT X'
  obtain ⟨t, a, b⟩ := kk H locs ls' hS hW h' T hT X'
  refine ⟨t, ?_, b⟩
  jvm_step X'.here [X'.here.top, ↓top_set X'.here.top, hC.1.1, hC.1.2.1, d, e']
  first | exact a | exact ⟨rfl, a⟩
theorem g_astore (hC : MC X Z rm cc nL own ret) {i : Nat} {x : Nat} (d : decode cc pc = .ok (.astore i, 2)) (hn : i < nL) (kk : GO l X b0 Z cells slots lo en (pc + 2) ((i, Value.ref x) :: lv) rest) : GO l X b0 Z cells slots lo en pc lv (Value.ref x :: rest) := by
  intro H locs ls hS hW hl
  obtain ⟨ls', e', h'⟩ := lh_store (v := Value.ref x) hl (by rw [hC.2.2.2.2.2]; exact hn) rfl
  intro T hT X'
  obtain ⟨t, a, b⟩ := kk H locs ls' hS hW h' T hT X'
  refine ⟨t, ?_, b⟩
  jvm_step X'.here [X'.here.top, ↓top_set X'.here.top, hC.1.1, hC.1.2.1, d, e']
  first | exact a | exact ⟨rfl, a⟩
theorem g_astore_nN (hC : MC X Z rm cc nL own ret) {k : Fin 4} (d : decode cc pc = .ok (.astore_n k, 1)) (hn : (k : Nat) < nL) (kk : GO l X b0 Z cells slots lo en (pc + 1) (((k : Nat), Value.null) :: lv) rest) : GO l X b0 Z cells slots lo en pc lv (Value.null :: rest) := by
  intro H locs ls hS hW hl
  obtain ⟨ls', e', h'⟩ := lh_store (v := Value.null) hl (by rw [hC.2.2.2.2.2]; exact hn) rfl
  intro T hT X'
  obtain ⟨t, a, b⟩ := kk H locs ls' hS hW h' T hT X'
  refine ⟨t, ?_, b⟩
  jvm_step X'.here [X'.here.top, ↓top_set X'.here.top, hC.1.1, hC.1.2.1, d, e']
  first | exact a | exact ⟨rfl, a⟩
theorem g_astoreN (hC : MC X Z rm cc nL own ret) {i : Nat} (d : decode cc pc = .ok (.astore i, 2)) (hn : i < nL) (kk : GO l X b0 Z cells slots lo en (pc + 2) ((i, Value.null) :: lv) rest) : GO l X b0 Z cells slots lo en pc lv (Value.null :: rest) := by
  intro H locs ls hS hW hl
  obtain ⟨ls', e', h'⟩ := lh_store (v := Value.null) hl (by rw [hC.2.2.2.2.2]; exact hn) rfl
  intro T hT X'
  obtain ⟨t, a, b⟩ := kk H locs ls' hS hW h' T hT X'
  refine ⟨t, ?_, b⟩
  jvm_step X'.here [X'.here.top, ↓top_set X'.here.top, hC.1.1, hC.1.2.1, d, e']
  first | exact a | exact ⟨rfl, a⟩
theorem g_iinc (hC : MC X Z rm cc nL own ret) {i : Nat} {n : Int} {x v : Int32} (d : decode cc pc = .ok (.iinc i n, 3)) (h : lget lv i = some (.int x)) (hv : x + Int32.ofInt n = v) (hn : i < nL) (kk : GO l X b0 Z cells slots lo en (pc + 3) ((i, .int v) :: lv) rest) : GO l X b0 Z cells slots lo en pc lv rest := by
  intro H locs ls hS hW hl
  subst hv
  have hg := (hl.2.2 _ _ h).2
  obtain ⟨ls', e', h'⟩ := lh_store (v := .int (x + Int32.ofInt n)) hl (by rw [hC.2.2.2.2.2]; exact hn) rfl
  intro T hT X'
  obtain ⟨t, a, b⟩ := kk H locs ls' hS hW h' T hT X'
  refine ⟨t, ?_, b⟩
  jvm_step X'.here [X'.here.top, ↓top_set X'.here.top, hC.1.1, hC.1.2.1, d, hg, e']
  exact a
theorem g_iadd (hC : MC X Z rm cc nL own ret) {x y : Int32} (d : decode cc pc = .ok (.iadd, 1))  (kk : GO l X b0 Z cells slots lo en (pc + 1) lv (.int (x + y) :: rest)) : GO l X b0 Z cells slots lo en pc lv (.int y :: .int x :: rest) := fun H locs ls hS hW hl => lv_iadd hC.1.1 hC.1.2.1 d (kk H locs ls hS hW hl)
theorem g_isub (hC : MC X Z rm cc nL own ret) {x y : Int32} (d : decode cc pc = .ok (.isub, 1))  (kk : GO l X b0 Z cells slots lo en (pc + 1) lv (.int (x - y) :: rest)) : GO l X b0 Z cells slots lo en pc lv (.int y :: .int x :: rest) := fun H locs ls hS hW hl => lv_isub hC.1.1 hC.1.2.1 d (kk H locs ls hS hW hl)
theorem g_imul (hC : MC X Z rm cc nL own ret) {x y : Int32} (d : decode cc pc = .ok (.imul, 1))  (kk : GO l X b0 Z cells slots lo en (pc + 1) lv (.int (x * y) :: rest)) : GO l X b0 Z cells slots lo en pc lv (.int y :: .int x :: rest) := fun H locs ls hS hW hl => lv_imul hC.1.1 hC.1.2.1 d (kk H locs ls hS hW hl)
theorem g_iand (hC : MC X Z rm cc nL own ret) {x y : Int32} (d : decode cc pc = .ok (.iand, 1))  (kk : GO l X b0 Z cells slots lo en (pc + 1) lv (.int (x &&& y) :: rest)) : GO l X b0 Z cells slots lo en pc lv (.int y :: .int x :: rest) := fun H locs ls hS hW hl => lv_iand hC.1.1 hC.1.2.1 d (kk H locs ls hS hW hl)
theorem g_ior (hC : MC X Z rm cc nL own ret) {x y : Int32} (d : decode cc pc = .ok (.ior, 1))  (kk : GO l X b0 Z cells slots lo en (pc + 1) lv (.int (x ||| y) :: rest)) : GO l X b0 Z cells slots lo en pc lv (.int y :: .int x :: rest) := fun H locs ls hS hW hl => lv_ior hC.1.1 hC.1.2.1 d (kk H locs ls hS hW hl)
theorem g_idiv (hC : MC X Z rm cc nL own ret) {x y : Int32} (d : decode cc pc = .ok (.idiv, 1)) (hne : ¬ y = 0) (kk : GO l X b0 Z cells slots lo en (pc + 1) lv (.int (x / y) :: rest)) : GO l X b0 Z cells slots lo en pc lv (.int y :: .int x :: rest) := fun H locs ls hS hW hl => lv_idiv hC.1.1 hC.1.2.1 d hne (kk H locs ls hS hW hl)
theorem g_ineg (hC : MC X Z rm cc nL own ret) {x : Int32} (d : decode cc pc = .ok (.ineg, 1))  (kk : GO l X b0 Z cells slots lo en (pc + 1) lv (.int (-x) :: rest)) : GO l X b0 Z cells slots lo en pc lv (.int x :: rest) := fun H locs ls hS hW hl => lv_ineg hC.1.1 hC.1.2.1 d (kk H locs ls hS hW hl)
theorem g_ishl (hC : MC X Z rm cc nL own ret) {x y : Int32} (d : decode cc pc = .ok (.ishl, 1))  (kk : GO l X b0 Z cells slots lo en (pc + 1) lv (.int (x <<< (y &&& 31)) :: rest)) : GO l X b0 Z cells slots lo en pc lv (.int y :: .int x :: rest) := fun H locs ls hS hW hl => lv_ishl hC.1.1 hC.1.2.1 d (kk H locs ls hS hW hl)
theorem g_dup (hC : MC X Z rm cc nL own ret) {va : Value} (d : decode cc pc = .ok (.dup, 1)) (hva : va.category = 1) (kk : GO l X b0 Z cells slots lo en (pc + 1) lv (va :: va :: rest)) : GO l X b0 Z cells slots lo en pc lv (va :: rest) := fun H locs ls hS hW hl => lv_dup hC.1.1 hC.1.2.1 d hva (kk H locs ls hS hW hl)
theorem g_dup2 (hC : MC X Z rm cc nL own ret) {va vb : Value} (d : decode cc pc = .ok (.dup2, 1)) (hva : va.category = 1) (hvb : vb.category = 1) (kk : GO l X b0 Z cells slots lo en (pc + 1) lv (va :: vb :: va :: vb :: rest)) : GO l X b0 Z cells slots lo en pc lv (va :: vb :: rest) := fun H locs ls hS hW hl => lv_dup2_11 hC.1.1 hC.1.2.1 d hva hvb (kk H locs ls hS hW hl)
theorem g_top {x : Int32} (kk : ∀ y : Int32, y = x → GO l X b0 Z cells slots lo en pc lv (.int y :: rest)) : GO l X b0 Z cells slots lo en pc lv (.int x :: rest) := kk x rfl
theorem g_val {x y : Int32} (h : x = y) (kk : GO l X b0 Z cells slots lo en pc lv (.int y :: rest)) : GO l X b0 Z cells slots lo en pc lv (.int x :: rest) := h ▸ kk
theorem g_lv {lv' : List (Nat × Value)} (h : lsub lv lv') (kk : GO l X b0 Z cells slots lo en pc lv' rest) : GO l X b0 Z cells slots lo en pc lv rest := fun H locs ls hS hW hl => kk H locs ls hS hW (lh_sub hl h)
theorem g_if_eq (hC : MC X Z rm cc nL own ret) {x : Int32} {off : Int} {tgt : Nat} (d : decode cc pc = .ok (.ifCond .eq off, 3)) (ht : (pc : Int) + off = (tgt : Int)) (kt : x = 0 → GO l X b0 Z cells slots lo en tgt lv rest) (kf : ¬ x = 0 → GO l X b0 Z cells slots lo en (pc + 3) lv rest) : GO l X b0 Z cells slots lo en pc lv (.int x :: rest) := fun H locs ls hS hW hl => lv_if_eq hC.1.1 hC.1.2.1 d ht (fun h => kt h H locs ls hS hW hl) (fun h => kf h H locs ls hS hW hl)
theorem g_icmp_eq (hC : MC X Z rm cc nL own ret) {x y : Int32} {off : Int} {tgt : Nat} (d : decode cc pc = .ok (.if_icmp .eq off, 3)) (ht : (pc : Int) + off = (tgt : Int)) (kt : x = y → GO l X b0 Z cells slots lo en tgt lv rest) (kf : ¬ x = y → GO l X b0 Z cells slots lo en (pc + 3) lv rest) : GO l X b0 Z cells slots lo en pc lv (.int y :: .int x :: rest) := fun H locs ls hS hW hl => lv_icmp_eq hC.1.1 hC.1.2.1 d ht (fun h => kt h H locs ls hS hW hl) (fun h => kf h H locs ls hS hW hl)
theorem g_if_ne (hC : MC X Z rm cc nL own ret) {x : Int32} {off : Int} {tgt : Nat} (d : decode cc pc = .ok (.ifCond .ne off, 3)) (ht : (pc : Int) + off = (tgt : Int)) (kt : ¬ x = 0 → GO l X b0 Z cells slots lo en tgt lv rest) (kf : x = 0 → GO l X b0 Z cells slots lo en (pc + 3) lv rest) : GO l X b0 Z cells slots lo en pc lv (.int x :: rest) := fun H locs ls hS hW hl => lv_if_ne hC.1.1 hC.1.2.1 d ht (fun h => kt h H locs ls hS hW hl) (fun h => kf h H locs ls hS hW hl)
theorem g_icmp_ne (hC : MC X Z rm cc nL own ret) {x y : Int32} {off : Int} {tgt : Nat} (d : decode cc pc = .ok (.if_icmp .ne off, 3)) (ht : (pc : Int) + off = (tgt : Int)) (kt : ¬ x = y → GO l X b0 Z cells slots lo en tgt lv rest) (kf : x = y → GO l X b0 Z cells slots lo en (pc + 3) lv rest) : GO l X b0 Z cells slots lo en pc lv (.int y :: .int x :: rest) := fun H locs ls hS hW hl => lv_icmp_ne hC.1.1 hC.1.2.1 d ht (fun h => kt h H locs ls hS hW hl) (fun h => kf h H locs ls hS hW hl)
theorem g_if_lt (hC : MC X Z rm cc nL own ret) {x : Int32} {off : Int} {tgt : Nat} (d : decode cc pc = .ok (.ifCond .lt off, 3)) (ht : (pc : Int) + off = (tgt : Int)) (kt : x < 0 → GO l X b0 Z cells slots lo en tgt lv rest) (kf : ¬ x < 0 → GO l X b0 Z cells slots lo en (pc + 3) lv rest) : GO l X b0 Z cells slots lo en pc lv (.int x :: rest) := fun H locs ls hS hW hl => lv_if_lt hC.1.1 hC.1.2.1 d ht (fun h => kt h H locs ls hS hW hl) (fun h => kf h H locs ls hS hW hl)
theorem g_icmp_lt (hC : MC X Z rm cc nL own ret) {x y : Int32} {off : Int} {tgt : Nat} (d : decode cc pc = .ok (.if_icmp .lt off, 3)) (ht : (pc : Int) + off = (tgt : Int)) (kt : x < y → GO l X b0 Z cells slots lo en tgt lv rest) (kf : ¬ x < y → GO l X b0 Z cells slots lo en (pc + 3) lv rest) : GO l X b0 Z cells slots lo en pc lv (.int y :: .int x :: rest) := fun H locs ls hS hW hl => lv_icmp_lt hC.1.1 hC.1.2.1 d ht (fun h => kt h H locs ls hS hW hl) (fun h => kf h H locs ls hS hW hl)
theorem g_if_ge (hC : MC X Z rm cc nL own ret) {x : Int32} {off : Int} {tgt : Nat} (d : decode cc pc = .ok (.ifCond .ge off, 3)) (ht : (pc : Int) + off = (tgt : Int)) (kt : 0 ≤ x → GO l X b0 Z cells slots lo en tgt lv rest) (kf : ¬ 0 ≤ x → GO l X b0 Z cells slots lo en (pc + 3) lv rest) : GO l X b0 Z cells slots lo en pc lv (.int x :: rest) := fun H locs ls hS hW hl => lv_if_ge hC.1.1 hC.1.2.1 d ht (fun h => kt h H locs ls hS hW hl) (fun h => kf h H locs ls hS hW hl)
theorem g_icmp_ge (hC : MC X Z rm cc nL own ret) {x y : Int32} {off : Int} {tgt : Nat} (d : decode cc pc = .ok (.if_icmp .ge off, 3)) (ht : (pc : Int) + off = (tgt : Int)) (kt : y ≤ x → GO l X b0 Z cells slots lo en tgt lv rest) (kf : ¬ y ≤ x → GO l X b0 Z cells slots lo en (pc + 3) lv rest) : GO l X b0 Z cells slots lo en pc lv (.int y :: .int x :: rest) := fun H locs ls hS hW hl => lv_icmp_ge hC.1.1 hC.1.2.1 d ht (fun h => kt h H locs ls hS hW hl) (fun h => kf h H locs ls hS hW hl)
theorem g_if_gt (hC : MC X Z rm cc nL own ret) {x : Int32} {off : Int} {tgt : Nat} (d : decode cc pc = .ok (.ifCond .gt off, 3)) (ht : (pc : Int) + off = (tgt : Int)) (kt : 0 < x → GO l X b0 Z cells slots lo en tgt lv rest) (kf : ¬ 0 < x → GO l X b0 Z cells slots lo en (pc + 3) lv rest) : GO l X b0 Z cells slots lo en pc lv (.int x :: rest) := fun H locs ls hS hW hl => lv_if_gt hC.1.1 hC.1.2.1 d ht (fun h => kt h H locs ls hS hW hl) (fun h => kf h H locs ls hS hW hl)
theorem g_icmp_gt (hC : MC X Z rm cc nL own ret) {x y : Int32} {off : Int} {tgt : Nat} (d : decode cc pc = .ok (.if_icmp .gt off, 3)) (ht : (pc : Int) + off = (tgt : Int)) (kt : y < x → GO l X b0 Z cells slots lo en tgt lv rest) (kf : ¬ y < x → GO l X b0 Z cells slots lo en (pc + 3) lv rest) : GO l X b0 Z cells slots lo en pc lv (.int y :: .int x :: rest) := fun H locs ls hS hW hl => lv_icmp_gt hC.1.1 hC.1.2.1 d ht (fun h => kt h H locs ls hS hW hl) (fun h => kf h H locs ls hS hW hl)
theorem g_if_le (hC : MC X Z rm cc nL own ret) {x : Int32} {off : Int} {tgt : Nat} (d : decode cc pc = .ok (.ifCond .le off, 3)) (ht : (pc : Int) + off = (tgt : Int)) (kt : x ≤ 0 → GO l X b0 Z cells slots lo en tgt lv rest) (kf : ¬ x ≤ 0 → GO l X b0 Z cells slots lo en (pc + 3) lv rest) : GO l X b0 Z cells slots lo en pc lv (.int x :: rest) := fun H locs ls hS hW hl => lv_if_le hC.1.1 hC.1.2.1 d ht (fun h => kt h H locs ls hS hW hl) (fun h => kf h H locs ls hS hW hl)
theorem g_icmp_le (hC : MC X Z rm cc nL own ret) {x y : Int32} {off : Int} {tgt : Nat} (d : decode cc pc = .ok (.if_icmp .le off, 3)) (ht : (pc : Int) + off = (tgt : Int)) (kt : x ≤ y → GO l X b0 Z cells slots lo en tgt lv rest) (kf : ¬ x ≤ y → GO l X b0 Z cells slots lo en (pc + 3) lv rest) : GO l X b0 Z cells slots lo en pc lv (.int y :: .int x :: rest) := fun H locs ls hS hW hl => lv_icmp_le hC.1.1 hC.1.2.1 d ht (fun h => kt h H locs ls hS hW hl) (fun h => kf h H locs ls hS hW hl)
theorem g_goto (hC : MC X Z rm cc nL own ret) {off : Int} {tgt : Nat} (d : decode cc pc = .ok (.goto off, 3)) (ht : (pc : Int) + off = (tgt : Int)) (kk : GO l X b0 Z cells slots lo en tgt lv rest) : GO l X b0 Z cells slots lo en pc lv rest := fun H locs ls hS hW hl => lv_goto hC.1.1 hC.1.2.1 d ht (kk H locs ls hS hW hl)
theorem g_ifnonnull (hC : MC X Z rm cc nL own ret) {x : Nat} {off : Int} {tgt : Nat} (d : decode cc pc = .ok (.ifnonnull off, 3)) (ht : (pc : Int) + off = (tgt : Int)) (kk : GO l X b0 Z cells slots lo en tgt lv rest) : GO l X b0 Z cells slots lo en pc lv (.ref x :: rest) := fun H locs ls hS hW hl => lv_ifnonnull hC.1.1 hC.1.2.1 d ht (kk H locs ls hS hW hl)
theorem g_ifnonnullN (hC : MC X Z rm cc nL own ret) {off : Int} (d : decode cc pc = .ok (.ifnonnull off, 3))  (kk : GO l X b0 Z cells slots lo en (pc + 3) lv rest) : GO l X b0 Z cells slots lo en pc lv (.null :: rest) := fun H locs ls hS hW hl => lv_ifnonnullN hC.1.1 hC.1.2.1 d (kk H locs ls hS hW hl)
theorem g_ifnull (hC : MC X Z rm cc nL own ret) {x : Nat} {off : Int} (d : decode cc pc = .ok (.ifnull off, 3))  (kk : GO l X b0 Z cells slots lo en (pc + 3) lv rest) : GO l X b0 Z cells slots lo en pc lv (.ref x :: rest) := fun H locs ls hS hW hl => lv_ifnull hC.1.1 hC.1.2.1 d (kk H locs ls hS hW hl)
theorem g_ifnullN (hC : MC X Z rm cc nL own ret) {off : Int} {tgt : Nat} (d : decode cc pc = .ok (.ifnull off, 3)) (ht : (pc : Int) + off = (tgt : Int)) (kk : GO l X b0 Z cells slots lo en tgt lv rest) : GO l X b0 Z cells slots lo en pc lv (.null :: rest) := fun H locs ls hS hW hl => lv_ifnullN hC.1.1 hC.1.2.1 d ht (kk H locs ls hS hW hl)
theorem g_tableOut (hC : MC X Z rm cc nL own ret) {dflt lo0 hi : Int} {offs : Array Int} {len : Nat} {x : Int32} {tgt : Nat} (d : decode cc pc = .ok (.tableswitch dflt lo0 hi offs, len)) (h : x.toInt < lo0 ∨ hi < x.toInt) (ht : (pc : Int) + dflt = (tgt : Int)) (kk : GO l X b0 Z cells slots lo en tgt lv rest) : GO l X b0 Z cells slots lo en pc lv (.int x :: rest) := fun H locs ls hS hW hl => lv_tableOut hC.1.1 hC.1.2.1 d h ht (kk H locs ls hS hW hl)
theorem g_tableIn (hC : MC X Z rm cc nL own ret) {dflt lo0 hi : Int} {offs : Array Int} {len : Nat} {x : Int32} {off : Int} {tgt : Nat} (d : decode cc pc = .ok (.tableswitch dflt lo0 hi offs, len)) (h1 : ¬ x.toInt < lo0) (h2 : ¬ hi < x.toInt) (ho : offs[(x.toInt - lo0).toNat]? = some off) (ht : (pc : Int) + off = (tgt : Int)) (kk : GO l X b0 Z cells slots lo en tgt lv rest) : GO l X b0 Z cells slots lo en pc lv (.int x :: rest) := fun H locs ls hS hW hl => lv_tableIn hC.1.1 hC.1.2.1 d h1 h2 ho ht (kk H locs ls hS hW hl)
theorem g_get (hC : MC X Z rm cc nL own ret) {k ci a : Nat} {fs : List Value} (ha : a = lo k) (he : en k = some (.inr (ci, fs))) {C : String} {T : u_T} {N : Nat} (hc : vwCl[ci]? = some (C, T, N)) (hin : ∀ w ∈ u_ws C T N, w ∈ gAll) (j : Nat) (hj : j < N) {index : Nat} {ref : String} (hlink : Cond.fieldLink own index ref (T j).2.1 (T j).2.2.1 ∈ gAll) (hsame : ref = (T j).1) {v : Value} (hv : fs[j]? = some v) (d : decode cc pc = .ok (.getfield index, 3))  (kk : GO l X b0 Z cells slots lo en (pc + 3) lv (v :: rest)) : GO l X b0 Z cells slots lo en pc lv (.ref a :: rest) := by
  intro H locs ls hS hW hl
  subst ha
  have hP : va_P X.1 vwCl [(lo k, .inr (ci, fs))] H := fun i q hq => by
    match i, hq with
    | 0, hq => cases hq; exact (hW.2.1 k _ he).2
    | i + 1, hq => simp at hq
  subst hsame
  exact va_get (D := X.1) (ci := ci) (C := C) (T := T) (N := N) hC.1.1 hC.1.2.1 hC.1.2.2.2.2 hin hC.1.2.2.2.1 hC.2.1.1 hP 0 rfl hc j hj (hC.1.2.2.2.2 _ hlink) (fun _ h9 => h9) hv d (kk H locs ls hS hW hl)
theorem g_put (hC : MC X Z rm cc nL own ret) {k ci a : Nat} {fs : List Value} (ha : a = lo k) (he : en k = some (.inr (ci, fs))) {C : String} {T : u_T} {N : Nat} (hc : vwCl[ci]? = some (C, T, N)) (hin : ∀ w ∈ u_ws C T N, w ∈ gAll) (j : Nat) (hj : j < N) {index : Nat} {ref : String} (hlink : Cond.fieldLink own index ref (T j).2.1 (T j).2.2.1 ∈ gAll) (hsame : ref = (T j).1) (ty0 : Nat → FieldType) (hty : ∀ k, k < N → parseFieldDescriptor (T k).2.2.1 = some (ty0 k)) (hnm : ∀ a, a < N → ∀ b, b < N → a ≠ b → (T a).2.1 ≠ (T b).2.1) (hfin : (T j).2.2.2 = false) {ty : FieldType} {v : Value} (hd : parseFieldDescriptor (T j).2.2.1 = some ty) (hn : narrow ty v = v) (hfit : fits ty v = true) (hl2 : j < fs.length) (d : decode cc pc = .ok (.putfield index, 3))  (kk : ∀ en1 : gE, en1 = eup en k (.inr (ci, fs.set j v)) → GO l X b0 Z cells slots lo en1 (pc + 3) lv rest) : GO l X b0 Z cells slots lo en pc lv (v :: .ref a :: rest) := by
  intro H locs ls hS0 hW hl
  subst ha
  have hts := hC.1.2.2.2.2
  have hown := hC.1.2.2.2.1
  have hap := va_apart (own := own) hts hin ty0 hty hnm hC.2.1.1 hc
  obtain ⟨r, h1, cell, q1, q2, q3, q4⟩ := (hW.2.1 k _ he).2
  have hr : r = (C, T, N) := Option.some.inj (h1.symm.trans hc)
  subst hr
  subst hsame
  obtain ⟨hS, hfc, kC, hkC, hkind⟩ := hC.2.1.1.1 ci _ hc
  obtain ⟨cf, kf, fi, f, hi, hsl⟩ := hS j hj
  have hlay := hts _ (hin _ (u_in_lay hj))
  unfold u_lay at hlay
  rw [if_neg (by rw [hfin]; decide)] at hlay
  have hst := (u_facts hfc hkC (u_lays hts hin hj) hi).1
  have h6 := u_store hfc hkC hkind hlay hi hd hn hfit
  refine W.putK hC.1.1 hC.1.2.1 (f := f) ⟨hown, hts _ hlink, ⟨_, _, _, hi⟩, hst⟩ (by rw [q2]; exact h6) q1 q3 (by rw [hsl]; exact k2_hasslot (q4 j hj)) rfl rfl d fun H' e1 e2 e3 => ?_
  rw [hsl] at e1 ⊢
  exact kk _ rfl H' _ ls (hS0.put e2 e3 (hW.2.1 k _ he).1) (hW.set he ⟨_, hc, t_OB.to (V := updV (vp_V fs) j v) ⟨_, e1, q2, q3, t_set q4 hap hj v⟩ (fun i _ => vp_updV_set hl2 v i)⟩ e2 e3) hl
theorem g_putF (hC : MC X Z rm cc nL own ret) {k ci a : Nat} {fs : List Value} (ha : a = lo k) (he : en k = some (.inr (ci, fs))) {C : String} {T : u_T} {N : Nat} (hc : vwCl[ci]? = some (C, T, N)) (hin : ∀ w ∈ u_ws C T N, w ∈ gAll) (j : Nat) (hj : j < N) {index : Nat} {ref : String} (hlink : Cond.fieldLink own index ref (T j).2.1 (T j).2.2.1 ∈ gAll) (hsame : ref = (T j).1) (ty0 : Nat → FieldType) (hty : ∀ k, k < N → parseFieldDescriptor (T k).2.2.1 = some (ty0 k)) (hnm : ∀ a, a < N → ∀ b, b < N → a ≠ b → (T a).2.1 ≠ (T b).2.1) (hfin : (T j).2.2.2 = true) (hin2 : (zh Z).name = "<init>") (hdecl : (T j).1 = own) {ty : FieldType} {v : Value} (hd : parseFieldDescriptor (T j).2.2.1 = some ty) (hn : narrow ty v = v) (hfit : fits ty v = true) (hl2 : j < fs.length) (d : decode cc pc = .ok (.putfield index, 3))  (kk : ∀ en1 : gE, en1 = eup en k (.inr (ci, fs.set j v)) → GO l X b0 Z cells slots lo en1 (pc + 3) lv rest) : GO l X b0 Z cells slots lo en pc lv (v :: .ref a :: rest) := by
  intro H locs ls hS0 hW hl
  subst ha
  have hts := hC.1.2.2.2.2
  have hown := hC.1.2.2.2.1
  have hap := va_apart (own := own) hts hin ty0 hty hnm hC.2.1.1 hc
  obtain ⟨r, h1, cell, q1, q2, q3, q4⟩ := (hW.2.1 k _ he).2
  have hr : r = (C, T, N) := Option.some.inj (h1.symm.trans hc)
  subst hr
  subst hsame
  obtain ⟨hS, hfc, kC, hkC, hkind⟩ := hC.2.1.1.1 ci _ hc
  obtain ⟨cf, kf, fi, f, hi, hsl⟩ := hS j hj
  have hlay := hts _ (hin _ (u_in_lay hj))
  unfold u_lay at hlay
  rw [if_pos hfin] at hlay
  have hst := (u_facts hfc hkC (u_lays hts hin hj) hi).1
  have hcf : (zm Z).cls = cf := by
    obtain ⟨_, _, c', _, _, _, -, -, hf', -, -, -, hown2, -⟩ := Cond.laysFinal_spec hlay
    have e1 : c' = cf := by have := hi.symm.trans hf'; simp at this; exact this.1.symm
    rw [hdecl] at hown2
    rw [← e1]; exact Option.some.inj (hown.symm.trans hown2)
  have h6 := u_fits hfc hkC hkind (Or.inr hlay) hi hd hn hfit
  refine W.putFinK hC.1.1 hC.1.2.1 hown (hts _ hlink) hi hst hcf hin2 (by rw [q2]; exact h6) q1 q3 (by rw [hsl]; exact k2_hasslot (q4 j hj)) rfl rfl d fun H' e1 e2 e3 => ?_
  rw [hsl] at e1 ⊢
  exact kk _ rfl H' _ ls (hS0.put e2 e3 (hW.2.1 k _ he).1) (hW.set he ⟨_, hc, t_OB.to (V := updV (vp_V fs) j v) ⟨_, e1, q2, q3, t_set q4 hap hj v⟩ (fun i _ => vp_updV_set hl2 v i)⟩ e2 e3) hl
theorem g_iald (hC : MC X Z rm cc nL own ret) {k n a : Nat} {f : Nat → Int32} (ha : a = lo k) (he : en k = some (.inl (X.2 0, n, .inl f))) (i : Nat) {x : Int32} (hi : x = nI i) (hin : i < n) (hn : n < 2 ^ 31) (d : decode cc pc = .ok (.iaload, 1))  (kk : GO l X b0 Z cells slots lo en (pc + 1) lv (.int (f i) :: rest)) : GO l X b0 Z cells slots lo en pc lv (.int x :: .ref a :: rest) := by
  intro H locs ls hS hW hl
  subst ha
  have hP : va_P X.1 vwCl [(lo k, .inl (X.2 0, n, .inl f))] H := fun i q hq => by
    match i, hq with
    | 0, hq => cases hq; exact (hW.2.1 k _ he).2
    | i + 1, hq => simp at hq
  subst hi
  have hc : (nI i).toNatClampNeg = i := nI_clamp (by omega)
  refine va_iald (D := X.1) (tys := g_tys X.2) hC.1.1 hC.1.2.1 hC.2.1.1 hP 0 0 rfl rfl (vp_in_nI hin hn) d ?_
  rw [hc]
  exact kk H locs ls hS hW hl
theorem g_alenI (hC : MC X Z rm cc nL own ret) {k n a : Nat} {f : Nat → Int32} (ha : a = lo k) (he : en k = some (.inl (X.2 0, n, .inl f))) (d : decode cc pc = .ok (.arraylength, 1))  (kk : GO l X b0 Z cells slots lo en (pc + 1) lv (.int (nI n) :: rest)) : GO l X b0 Z cells slots lo en pc lv (.ref a :: rest) := by
  intro H locs ls hS hW hl
  subst ha
  have hP : va_P X.1 vwCl [(lo k, .inl (X.2 0, n, .inl f))] H := fun i q hq => by
    match i, hq with
    | 0, hq => cases hq; exact (hW.2.1 k _ he).2
    | i + 1, hq => simp at hq
  exact va_alen (D := X.1) (tys := g_tys X.2) hC.1.1 hC.1.2.1 hC.2.1.1 hP 0 0 rfl rfl rfl d (kk H locs ls hS hW hl)
theorem g_iast (hC : MC X Z rm cc nL own ret) {k n a : Nat} {f : Nat → Int32} (ha : a = lo k) (he : en k = some (.inl (X.2 0, n, .inl f))) (i : Nat) {x v : Int32} (hi : x = nI i) (hin : i < n) (hn : n < 2 ^ 31) (d : decode cc pc = .ok (.iastore, 1))  (kk : ∀ en1 : gE, en1 = eup en k (.inl (X.2 0, n, .inl (upd f i v))) → GO l X b0 Z cells slots lo en1 (pc + 1) lv rest) : GO l X b0 Z cells slots lo en pc lv (.int v :: .int x :: .ref a :: rest) := by
  intro H locs ls hS hW hl
  subst ha
  subst hi
  have hc : (nI i).toNatClampNeg = i := nI_clamp (by omega)
  have hin' : vp_in (nI i) n := vp_in_nI hin hn
  refine W.iast hC.1.1 hC.1.2.1 (hW.2.1 k _ he).2 ((hC.2.1.1.2 0 (X.2 0, .int) rfl).1 n (fun j => .int (f j))) (fun q => by cases q) (by show ¬ (nI i < 0 ∨ (arrV _ _ _).slots.size ≤ _); rw [arrV_size]; exact hin') rfl rfl d fun H1 e z oq => ?_
  refine kk _ rfl H1 _ ls (hS.put z oq (hW.2.1 k _ he).1) (hW.set he ?_ z oq) hl
  show H1[lo k]? = some (vp_cell _ _)
  rw [e]
  rw [vp_cell_i, vp_cell_i, arrV_store, hc]
  congr 2
  funext q
  by_cases hq : q = i
  · subst hq
    simp [updV, upd]
  · simp [updV, upd, hq]
theorem g_aald (hC : MC X Z rm cc nL own ret) {k n t0 a : Nat} {cA : ClassId} {CC : String} {f : Nat → Option Nat} (ha : a = lo k) (he : en k = some (.inl (cA, n, .inr (.inr (.inr (.inr f)))))) (ht : (g_tys X.2)[t0]? = some (cA, .object CC)) (i : Nat) {x : Int32} (hi : x = nI i) (hin : i < n) (hn : n < 2 ^ 31) {q : Nat} (hf : f i = some q) (d : decode cc pc = .ok (.aaload, 1))  (kk : GO l X b0 Z cells slots lo en (pc + 1) lv (.ref q :: rest)) : GO l X b0 Z cells slots lo en pc lv (.int x :: .ref a :: rest) := by
  intro H locs ls hS hW hl
  subst ha
  have hP : va_P X.1 vwCl [(lo k, .inl (cA, n, .inr (.inr (.inr (.inr f)))))] H := fun i q hq => by
    match i, hq with
    | 0, hq => cases hq; exact (hW.2.1 k _ he).2
    | i + 1, hq => simp at hq
  subst hi
  have hc : (nI i).toNatClampNeg = i := nI_clamp (by omega)
  refine va_aldq (D := X.1) (tys := g_tys X.2) hC.1.1 hC.1.2.1 hC.2.1.1 hP 0 t0 rfl ht (vp_in_nI hin hn) d ?_
  rw [hc, hf]
  exact kk H locs ls hS hW hl
theorem g_aast (hC : MC X Z rm cc nL own ret) {k n t0 a av : Nat} {cA : ClassId} {f : Nat → Option Nat} {kv ci : Nat} {vs : List Value} {r : vw_C} (ha : a = lo k) (hav : av = lo kv) (he : en k = some (.inl (cA, n, .inr (.inr (.inr (.inr f)))))) (hev : en kv = some (.inr (ci, vs))) (hcv : vwCl[ci]? = some r) (ht : (g_tys X.2)[t0]? = some (cA, .object r.1)) (i : Nat) {x : Int32} (hi : x = nI i) (hin : i < n) (hn : n < 2 ^ 31) (d : decode cc pc = .ok (.aastore, 1))  (kk : ∀ en1 : gE, en1 = eup en k (.inl (cA, n, .inr (.inr (.inr (.inr (va_up f i (some av))))))) → GO l X b0 Z cells slots lo en1 (pc + 1) lv rest) : GO l X b0 Z cells slots lo en pc lv (.ref av :: .int x :: .ref a :: rest) := by
  intro H locs ls hS hW hl
  subst ha
  subst hav
  subst hi
  have hc : (nI i).toNatClampNeg = i := nI_clamp (by omega)
  have hin' : vp_in (nI i) n := vp_in_nI hin hn
  have hlt : (nI i).toNatClampNeg < n := by rw [hc]; exact hin
  have h0 : ¬ nI i < 0 := fun q => hin' (Or.inl q)
  obtain ⟨r', hr', cellV, g1, g2, g3, -⟩ := (hW.2.1 kv _ hev).2
  have hcls := (hC.2.1.1.1 ci r hcv).2
  obtain ⟨kA, comp, k1, k2, k3, -⟩ := (hC.2.1.1.2 t0 _ ht).2
  have hcomp : comp = X.1.1 ci := Option.some.inj (k3.symm.trans hcls.1)
  subst hcomp
  obtain ⟨kC, hkC, -⟩ := hcls.2
  refine W.aast hC.1.1 hC.1.2.1 (hW.2.1 k _ he).2 (fun q h => by cases h) (fun h => by cases h) k1 k2 rfl hkC ⟨h0, by show _ < (arrV _ _ _).slots.size; rw [arrV_size]; exact hlt⟩ g1 (fun q h => by rw [g3] at h; cases h) (by rw [g2]; exact hkC) (by rw [g2]; exact va_assign hcls) rfl rfl d fun H1 e z oq => ?_
  refine kk _ rfl H1 _ ls (hS.put z oq (hW.2.1 k _ he).1) (hW.set he ?_ z oq) hl
  show H1[lo k]? = some (vp_cell _ _)
  rw [e]
  rw [vp_cell_q, vp_cell_q, arrV_store, hc]
  congr 2
  funext q
  by_cases hq : q = i
  · subst hq
    simp [updV, va_up, va_rf]
  · simp [updV, va_up, hq]
theorem g_newI (hC : MC X Z rm cc nL own ret) (k : Nat) (hk : en k = none) {n : Nat} {x : Int32} (hn : x = nI n) (hb : n < 1000000) (hcells : cells + 1 ≤ (zR Z).cells) (hslots : slots + n ≤ (zR Z).slots) (d : decode cc pc = .ok (.newarray .int, 2))  (kk : ∀ (q : Nat) (lo1 : gL) (en1 : gE), lo1 = lup lo k q → en1 = eup en k (.inl (X.2 0, n, .inl (fun _ => 0))) → GO l X b0 Z (cells + 1) (slots + n) lo1 en1 (pc + 2) lv (.ref q :: rest)) : GO l X b0 Z cells slots lo en pc lv (.int x :: rest) := by
  intro H locs ls hS hW hl
  subst hn
  have hc : (nI n).toNatClampNeg = n := nI_clamp (by omega)
  refine va_newaK (atype := .int) (h := H.size) (g := F0 (zm Z) pc ls (.int (nI n) :: rest)) hC.1.1 hC.1.2.1 (hC.1.2.2.2.2 _ ka_int) rfl d rfl (nI_pos (by omega)) hc (by show n * 4 ≤ _; omega) hcells hslots rfl fun H1 cA e1 z1 o1 hAr hNm => ?_
  have hcA : cA = X.2 0 := by
    have h2 := (hC.2.1.1.2 0 (X.2 0, .int) rfl).2
    exact Option.some.inj (hNm.symm.trans h2)
  subst hcA
  have := kk H.size _ _ rfl rfl H1 locs ls ⟨Nat.le_trans hS.1 (by omega), fun x h1 h2 => (o1 x (Nat.lt_of_lt_of_le h1 hS.1)).trans (hS.2.1 x h1 h2), hS.2.2⟩ (hW.push (k := k) hk (e := .inl (X.2 0, n, .inl (fun _ => 0))) (by show H1[H.size]? = some (vp_cell _ _); rw [vp_cell_i]; exact e1) z1 o1) hl
  exact this
theorem g_newQ (hC : MC X Z rm cc nL own ret) {index t0 : Nat} {CC : String} {cA : ClassId} (k : Nat) (hk : en k = none) (hclink : Cond.classLink own index CC ∈ gAll) (hover : va_AO CC (zs Z)) (ht : (g_tys X.2)[t0]? = some (cA, .object CC)) {n : Nat} {x : Int32} (hn : x = nI n) (hb : n < 1000000) (hcells : cells + 1 ≤ (zR Z).cells) (hslots : slots + n ≤ (zR Z).slots) (d : decode cc pc = .ok (.anewarray index, 3))  (kk : ∀ (q : Nat) (lo1 : gL) (en1 : gE), lo1 = lup lo k q → en1 = eup en k (.inl (cA, n, .inr (.inr (.inr (.inr (fun _ => none)))))) → GO l X b0 Z (cells + 1) (slots + n) lo1 en1 (pc + 3) lv (.ref q :: rest)) : GO l X b0 Z cells slots lo en pc lv (.int x :: rest) := by
  intro H locs ls hS hW hl
  subst hn
  have hc : (nI n).toNatClampNeg = n := nI_clamp (by omega)
  refine W.anew (g := F0 (zm Z) pc ls (.int (nI n) :: rest)) hC.1.1 hC.1.2.1 hC.1.2.2.2.1 (hC.1.2.2.2.2 _ hclink) (va_AO.use hover) rfl d rfl (nI_pos (by omega)) (by rw [hc]; omega) hcells (by rw [hc]; exact hslots) fun cA' kA comp f1 f2 f3 f4 => ?_
  rw [hc]
  have hcA : cA' = cA := by
    obtain ⟨_, _, -, -, -, h2⟩ := (hC.2.1.1.2 t0 _ ht).2
    exact Option.some.inj (f1.symm.trans h2)
  subst hcA
  generalize hH1 : H.push ({ cls := cA', slots := Array.replicate n .null, vm := .none } : Cell) = H1
  have z1 : H1.size = H.size + 1 := by rw [← hH1, Array.size_push]
  have e1 : H1[H.size]? = some (arrV cA' n (fun _ => .null)) := by rw [← hH1, Array.getElem?_push_size, ← arrV_new]
  have o1 : ∀ q : Nat, q < H.size → H1[q]? = H[q]? := fun q hq => by rw [← hH1, Array.getElem?_push, if_neg (Nat.ne_of_lt hq)]
  have := kk H.size _ _ rfl rfl H1 locs ls ⟨Nat.le_trans hS.1 (by omega), fun x h1 h2 => (o1 x (Nat.lt_of_lt_of_le h1 hS.1)).trans (hS.2.1 x h1 h2), hS.2.2⟩ (hW.push (k := k) hk (e := .inl (cA', n, .inr (.inr (.inr (.inr (fun _ => none)))))) (by show H1[H.size]? = some (vp_cell _ _); rw [vp_cell_q]; exact e1) z1 o1) hl
  exact this
theorem g_new (hC : MC X Z rm cc nL own ret) {index ci N : Nat} {C : String} {T : u_T} (k : Nat) (hk : en k = none) (hc : vwCl[ci]? = some (C, T, N)) (hin : ∀ w ∈ u_ws C T N, w ∈ gAll) (ty : Nat → FieldType) (hty : ∀ k, k < N → parseFieldDescriptor (T k).2.2.1 = some (ty k)) (hcl : Cond.classLink own index C ∈ gAll) (hinst : Cond.instantiable C N ∈ gAll) (hini : Cond.initialized C ∈ gAll) (fs : List Value) (hfs : ∀ j, j < N → defaultValue (ty j) = vp_V fs j) (hcells : cells + 1 ≤ (zR Z).cells) (hslots : slots + N ≤ (zR Z).slots) (d : decode cc pc = .ok (.new index, 3))  (kk : ∀ (q : Nat) (lo1 : gL) (en1 : gE), lo1 = lup lo k q → en1 = eup en k (.inr (ci, fs)) → GO l X b0 Z (cells + 1) (slots + N) lo1 en1 (pc + 3) lv (.ref q :: rest)) : GO l X b0 Z cells slots lo en pc lv rest := by
  intro H locs ls hS hW hl
  have hKn := hC.2.1.1.1 ci _ hc
  refine W.newcK hC.1.1 hC.1.2.1 hC.1.2.2.2.1 (hC.1.2.2.2.2 _ hcl) (hC.1.2.2.2.2 _ hinst) (hC.1.2.2.2.2 _ hini) rfl d hcells hslots hKn.2.1 rfl fun H1 kC hkC e1 z1 o1 => ?_
  exact kk H.size _ _ rfl rfl H1 locs ls ⟨Nat.le_trans hS.1 (by omega), fun x h1 h2 => (o1 x (Nat.lt_of_lt_of_le h1 hS.1)).trans (hS.2.1 x h1 h2), hS.2.2⟩ (hW.push (k := k) hk (e := .inr (ci, fs)) ⟨_, hc, (u_born ty hC.1.2.2.2.2 hin hKn hkC e1 hty).to hfs⟩ z1 o1) hl
theorem g_objInit (hC : MC X Z rm cc nL own ret) {idx a : Nat} (hm : Cond.methodLink own idx objectInit ∈ gAll) (hf : 1 ≤ (zR Z).frames) (hlo : 2 * (F0 (zm Z) pc (#[] : Array Slot) (.ref a :: rest)).monitorRoom + (rest.map fun v => v.category).sum + 12 ≤ (zR Z).locals) (d : decode cc pc = .ok (.invokespecial idx, 3))  (kk : GO l X b0 Z cells slots lo en (pc + 3) lv rest) : GO l X b0 Z cells slots lo en pc lv (.ref a :: rest) := by
  intro H locs ls hS hW hl
  exact W.objInit (g := F0 (zm Z) pc ls (.ref a :: rest)) hC.1.1 hC.1.2.1 hC.1.2.2.2.1 (hC.1.2.2.2.2 _ hm) (hC.1.2.2.2.2 _ ki_objinit) (hC.1.2.2.2.2 _ kc_objinit) rfl (by show ls.size = _; rw [hl.1, hC.2.2.2.2.2]; exact hC.1.2.2.1.symm) rfl d hf hlo (kk H locs ls hS hW hl)
theorem g_mmax (hC : MC X Z rm cc nL own ret) {idx : Nat} {x y : Int32} (hm : Cond.methodLink own idx yJ9_max_7cf53 ∈ gAll) (hR : 1 ≤ rm.frames ∧ (rest.map fun v => v.category).sum + 13 ≤ rm.locals) (hf : cells ≤ rm.cells ∧ slots ≤ rm.slots) (d : decode cc pc = .ok (.invokestatic idx, 3))  (kk : GO l X b0 Z cells slots lo en (pc + 3) lv (.int (if x < y then y else x) :: rest)) : GO l X b0 Z cells slots lo en pc lv (.int y :: .int x :: rest) := by
  intro H locs ls hS hW hl
  exact va_mmax hC.1.1 hC.1.2.1 (by rw [hl.1, hC.2.2.2.2.2]; exact hC.1.2.2.1) hC.1.2.2.2.1 (hC.1.2.2.2.2 _ hm) (hC.1.2.2.2.2 _ ki_J9_max_7cf53) (hC.1.2.2.2.2 _ kz_J9) (hC.1.2.2.2.2 _ kc_J9_max_7cf53) (by rw [hC.2.2.1]; exact hR.1) (by rw [hC.2.2.1]; exact hR.2) (by rw [hC.2.2.1]; exact hf.1) (by rw [hC.2.2.1]; exact hf.2) d (kk H locs ls hS hW hl)
theorem g_mmin (hC : MC X Z rm cc nL own ret) {idx : Nat} {x y : Int32} (hm : Cond.methodLink own idx yJ9_min_7cf53 ∈ gAll) (hR : 1 ≤ rm.frames ∧ (rest.map fun v => v.category).sum + 13 ≤ rm.locals) (hf : cells ≤ rm.cells ∧ slots ≤ rm.slots) (d : decode cc pc = .ok (.invokestatic idx, 3))  (kk : GO l X b0 Z cells slots lo en (pc + 3) lv (.int (if y < x then y else x) :: rest)) : GO l X b0 Z cells slots lo en pc lv (.int y :: .int x :: rest) := by
  intro H locs ls hS hW hl
  exact va_mmin hC.1.1 hC.1.2.1 (by rw [hl.1, hC.2.2.2.2.2]; exact hC.1.2.2.1) hC.1.2.2.2.1 (hC.1.2.2.2.2 _ hm) (hC.1.2.2.2.2 _ ki_J9_min_7cf53) (hC.1.2.2.2.2 _ kz_J9) (hC.1.2.2.2.2 _ kc_J9_min_7cf53) (by rw [hC.2.2.1]; exact hR.1) (by rw [hC.2.2.1]; exact hR.2) (by rw [hC.2.2.1]; exact hf.1) (by rw [hC.2.2.1]; exact hf.2) d (kk H locs ls hS hW hl)
theorem g_mabs (hC : MC X Z rm cc nL own ret) {idx : Nat} {x : Int32} (hm : Cond.methodLink own idx yJ9_abs_0f7a4 ∈ gAll) (hR : 1 ≤ rm.frames ∧ (rest.map fun v => v.category).sum + 13 ≤ rm.locals) (hf : cells ≤ rm.cells ∧ slots ≤ rm.slots) (d : decode cc pc = .ok (.invokestatic idx, 3))  (kk : GO l X b0 Z cells slots lo en (pc + 3) lv (.int (if 0 ≤ x then x else 0 - x) :: rest)) : GO l X b0 Z cells slots lo en pc lv (.int x :: rest) := by
  intro H locs ls hS hW hl
  exact va_mabs hC.1.1 hC.1.2.1 (by rw [hl.1, hC.2.2.2.2.2]; exact hC.1.2.2.1) hC.1.2.2.2.1 (hC.1.2.2.2.2 _ hm) (hC.1.2.2.2.2 _ ki_J9_abs_0f7a4) (hC.1.2.2.2.2 _ kz_J9) (hC.1.2.2.2.2 _ kc_J9_abs_0f7a4) (by rw [hC.2.2.1]; exact hR.1) (by rw [hC.2.2.1]; exact hR.2) (by rw [hC.2.2.1]; exact hf.1) (by rw [hC.2.2.1]; exact hf.2) d (kk H locs ls hS hW hl)
theorem g_widen {k n : Nat} (hk : cells ≤ k) (hn : slots ≤ n) (kk : GO l X b0 Z k n lo en pc lv rest) : GO l X b0 Z cells slots lo en pc lv rest := fun H locs ls hS hW hl => W.widen hk hn (kk H locs ls hS hW hl)
end GROWS
