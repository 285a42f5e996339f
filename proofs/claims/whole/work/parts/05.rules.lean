/-! THE ROWS OF V: an instruction each -/
section RV
variable {l : Launch} {g : GT} {sc : State → Prop} {μ : MT} {d : Nat} {ρ : RT} {pc : Nat} {ls ls1 : List (Nat × Value)} {st rest : List Value} {f f1 : HF} {sz : Option Nat} {cells slots : Nat}
theorem v_iconst {n : Int} {v : Int32} (hd : decode μ.2.1 pc = .ok (.iconst n, 1)) (hv : Int32.ofInt n = v) (k : V l g sc μ d ρ (pc + 1) ls (.int v :: st) f sz cells slots) : V l g sc μ d ρ pc ls st f sz cells slots := by
  intro p e R s m args below meth c H locs LS C hw hS hl
  exact lv_iconst C.1 C.2.1 hd hv (k p e R s m args below meth c H locs LS C hw hS hl)
theorem v_bipush {n : Int} {v : Int32} (hd : decode μ.2.1 pc = .ok (.bipush n, 2)) (hv : (Int8.ofInt n).toInt32 = v) (k : V l g sc μ d ρ (pc + 2) ls (.int v :: st) f sz cells slots) : V l g sc μ d ρ pc ls st f sz cells slots := by
  intro p e R s m args below meth c H locs LS C hw hS hl
  exact lv_bipush C.1 C.2.1 hd hv (k p e R s m args below meth c H locs LS C hw hS hl)
theorem v_sipush {n : Int} {v : Int32} (hd : decode μ.2.1 pc = .ok (.sipush n, 3)) (hv : (Int16.ofInt n).toInt32 = v) (k : V l g sc μ d ρ (pc + 3) ls (.int v :: st) f sz cells slots) : V l g sc μ d ρ pc ls st f sz cells slots := by
  intro p e R s m args below meth c H locs LS C hw hS hl
  exact lv_sipush C.1 C.2.1 hd hv (k p e R s m args below meth c H locs LS C hw hS hl)
theorem v_lconst {n : Fin 2} {v : Int64} (hd : decode μ.2.1 pc = .ok (.lconst n, 1)) (hv : Int64.ofNat (n : Nat) = v) (k : V l g sc μ d ρ (pc + 1) ls (.long v :: st) f sz cells slots) : V l g sc μ d ρ pc ls st f sz cells slots := by
  intro p e R s m args below meth c H locs LS C hw hS hl
  exact lv_lconst C.1 C.2.1 hd hv (k p e R s m args below meth c H locs LS C hw hS hl)
theorem v_iload_n {k : Fin 4} {i : Nat} {x : Int32} (hd : decode μ.2.1 pc = .ok (.iload_n k, 1)) (hi : (k : Nat) = i) (h : lk ls i = some (.int x)) (k : V l g sc μ d ρ (pc + 1) ls (.int x :: st) f sz cells slots) : V l g sc μ d ρ pc ls st f sz cells slots := by
  intro p e R s m args below meth c H locs LS C hw hS hl
  exact lv_iload_n C.1 C.2.1 hd hi (lk_at hl h) (k p e R s m args below meth c H locs LS C hw hS hl)
theorem v_iload {i : Nat} {x : Int32} (hd : decode μ.2.1 pc = .ok (.iload i, 2)) (h : lk ls i = some (.int x)) (k : V l g sc μ d ρ (pc + 2) ls (.int x :: st) f sz cells slots) : V l g sc μ d ρ pc ls st f sz cells slots := by
  intro p e R s m args below meth c H locs LS C hw hS hl
  exact lv_iload C.1 C.2.1 hd (lk_at hl h) (k p e R s m args below meth c H locs LS C hw hS hl)
theorem v_istore_n {k : Fin 4} {i : Nat} {x : Int32} (hd : decode μ.2.1 pc = .ok (.istore_n k, 1)) (hi : (k : Nat) = i) (hn : i < μ.2.2.1) (h : stl1 ls i (.int x) = ls1) (k : V l g sc μ d ρ (pc + 1) ls1 st f sz cells slots) : V l g sc μ d ρ pc ls (.int x :: st) f sz cells slots := by
  intro p e R s m args below meth c H locs LS C hw hS hl
  exact lv_istore_n C.1 C.2.1 hd hi hl hn h (fun LS1 hl1 => k p e R s m args below meth c H locs LS1 C hw hS hl1)
theorem v_istore {i : Nat} {x : Int32} (hd : decode μ.2.1 pc = .ok (.istore i, 2)) (hn : i < μ.2.2.1) (h : stl1 ls i (.int x) = ls1) (k : V l g sc μ d ρ (pc + 2) ls1 st f sz cells slots) : V l g sc μ d ρ pc ls (.int x :: st) f sz cells slots := by
  intro p e R s m args below meth c H locs LS C hw hS hl
  exact lv_istore C.1 C.2.1 hd hl hn h (fun LS1 hl1 => k p e R s m args below meth c H locs LS1 C hw hS hl1)
theorem v_lload_n {k : Fin 4} {i : Nat} {x : Int64} (hd : decode μ.2.1 pc = .ok (.lload_n k, 1)) (hi : (k : Nat) = i) (h : lk ls i = some (.long x)) (k : V l g sc μ d ρ (pc + 1) ls (.long x :: st) f sz cells slots) : V l g sc μ d ρ pc ls st f sz cells slots := by
  intro p e R s m args below meth c H locs LS C hw hS hl
  exact lv_lload_n C.1 C.2.1 hd hi (lk_at hl h) (k p e R s m args below meth c H locs LS C hw hS hl)
theorem v_lload {i : Nat} {x : Int64} (hd : decode μ.2.1 pc = .ok (.lload i, 2)) (h : lk ls i = some (.long x)) (k : V l g sc μ d ρ (pc + 2) ls (.long x :: st) f sz cells slots) : V l g sc μ d ρ pc ls st f sz cells slots := by
  intro p e R s m args below meth c H locs LS C hw hS hl
  exact lv_lload C.1 C.2.1 hd (lk_at hl h) (k p e R s m args below meth c H locs LS C hw hS hl)
theorem v_lstore_n {k : Fin 4} {i : Nat} {x : Int64} (hd : decode μ.2.1 pc = .ok (.lstore_n k, 1)) (hi : (k : Nat) = i) (hn : i + 1 < μ.2.2.1) (h : stl2 ls i (.long x) = ls1) (k : V l g sc μ d ρ (pc + 1) ls1 st f sz cells slots) : V l g sc μ d ρ pc ls (.long x :: st) f sz cells slots := by
  intro p e R s m args below meth c H locs LS C hw hS hl
  exact lv_lstore_n C.1 C.2.1 hd hi hl hn h (fun LS1 hl1 => k p e R s m args below meth c H locs LS1 C hw hS hl1)
theorem v_lstore {i : Nat} {x : Int64} (hd : decode μ.2.1 pc = .ok (.lstore i, 2)) (hn : i + 1 < μ.2.2.1) (h : stl2 ls i (.long x) = ls1) (k : V l g sc μ d ρ (pc + 2) ls1 st f sz cells slots) : V l g sc μ d ρ pc ls (.long x :: st) f sz cells slots := by
  intro p e R s m args below meth c H locs LS C hw hS hl
  exact lv_lstore C.1 C.2.1 hd hl hn h (fun LS1 hl1 => k p e R s m args below meth c H locs LS1 C hw hS hl1)
theorem v_aload_n {k : Fin 4} {i : Nat} {x : Nat} (hd : decode μ.2.1 pc = .ok (.aload_n k, 1)) (hi : (k : Nat) = i) (h : lk ls i = some (.ref x)) (k : V l g sc μ d ρ (pc + 1) ls (.ref x :: st) f sz cells slots) : V l g sc μ d ρ pc ls st f sz cells slots := by
  intro p e R s m args below meth c H locs LS C hw hS hl
  exact lv_aload_n C.1 C.2.1 hd hi (lk_at hl h) (k p e R s m args below meth c H locs LS C hw hS hl)
theorem v_aload {i : Nat} {x : Nat} (hd : decode μ.2.1 pc = .ok (.aload i, 2)) (h : lk ls i = some (.ref x)) (k : V l g sc μ d ρ (pc + 2) ls (.ref x :: st) f sz cells slots) : V l g sc μ d ρ pc ls st f sz cells slots := by
  intro p e R s m args below meth c H locs LS C hw hS hl
  exact lv_aload C.1 C.2.1 hd (lk_at hl h) (k p e R s m args below meth c H locs LS C hw hS hl)
theorem v_astore_n {k : Fin 4} {i : Nat} {x : Nat} (hd : decode μ.2.1 pc = .ok (.astore_n k, 1)) (hi : (k : Nat) = i) (hn : i < μ.2.2.1) (h : stl1 ls i (.ref x) = ls1) (k : V l g sc μ d ρ (pc + 1) ls1 st f sz cells slots) : V l g sc μ d ρ pc ls (.ref x :: st) f sz cells slots := by
  intro p e R s m args below meth c H locs LS C hw hS hl
  exact lv_astore_n C.1 C.2.1 hd hi hl hn h (fun LS1 hl1 => k p e R s m args below meth c H locs LS1 C hw hS hl1)
theorem v_astore {i : Nat} {x : Nat} (hd : decode μ.2.1 pc = .ok (.astore i, 2)) (hn : i < μ.2.2.1) (h : stl1 ls i (.ref x) = ls1) (k : V l g sc μ d ρ (pc + 2) ls1 st f sz cells slots) : V l g sc μ d ρ pc ls (.ref x :: st) f sz cells slots := by
  intro p e R s m args below meth c H locs LS C hw hS hl
  exact lv_astore C.1 C.2.1 hd hl hn h (fun LS1 hl1 => k p e R s m args below meth c H locs LS1 C hw hS hl1)
theorem lk_ix : ∀ {ls : List (Nat × Value)} {i : Nat} {v : Value}, lk ls i = some v → ∃ k : Nat, ls[k]? = some (i, v) := fun h => List.getElem?_of_mem (lk_mem h)
theorem v_iinc {i : Nat} {n : Int} {x v : Int32} (hd : decode μ.2.1 pc = .ok (.iinc i n, 3)) (h : lk ls i = some (.int x)) (hv : x + Int32.ofInt n = v) (hn : i < μ.2.2.1) (h1 : stl1 ls i (.int v) = ls1) (k : V l g sc μ d ρ (pc + 3) ls1 st f sz cells slots) : V l g sc μ d ρ pc ls st f sz cells slots := by
  intro p e R s m args below meth c H locs LS C hw hS hl
  obtain ⟨j, hj⟩ := lk_ix h
  exact lv_iinc C.1 C.2.1 hd hl hj hv hn h1 (fun LS1 hl1 => k p e R s m args below meth c H locs LS1 C hw hS hl1)
theorem v_iadd {x y : Int32} (hd : decode μ.2.1 pc = .ok (.iadd, 1)) (k : V l g sc μ d ρ (pc + 1) ls (.int (x + y) :: st) f sz cells slots) : V l g sc μ d ρ pc ls (.int y :: .int x :: st) f sz cells slots := by
  intro p e R s m args below meth c H locs LS C hw hS hl
  exact lv_iadd C.1 C.2.1 hd (k p e R s m args below meth c H locs LS C hw hS hl)
theorem v_isub {x y : Int32} (hd : decode μ.2.1 pc = .ok (.isub, 1)) (k : V l g sc μ d ρ (pc + 1) ls (.int (x - y) :: st) f sz cells slots) : V l g sc μ d ρ pc ls (.int y :: .int x :: st) f sz cells slots := by
  intro p e R s m args below meth c H locs LS C hw hS hl
  exact lv_isub C.1 C.2.1 hd (k p e R s m args below meth c H locs LS C hw hS hl)
theorem v_imul {x y : Int32} (hd : decode μ.2.1 pc = .ok (.imul, 1)) (k : V l g sc μ d ρ (pc + 1) ls (.int (x * y) :: st) f sz cells slots) : V l g sc μ d ρ pc ls (.int y :: .int x :: st) f sz cells slots := by
  intro p e R s m args below meth c H locs LS C hw hS hl
  exact lv_imul C.1 C.2.1 hd (k p e R s m args below meth c H locs LS C hw hS hl)
theorem v_iand {x y : Int32} (hd : decode μ.2.1 pc = .ok (.iand, 1)) (k : V l g sc μ d ρ (pc + 1) ls (.int (x &&& y) :: st) f sz cells slots) : V l g sc μ d ρ pc ls (.int y :: .int x :: st) f sz cells slots := by
  intro p e R s m args below meth c H locs LS C hw hS hl
  exact lv_iand C.1 C.2.1 hd (k p e R s m args below meth c H locs LS C hw hS hl)
theorem v_ior {x y : Int32} (hd : decode μ.2.1 pc = .ok (.ior, 1)) (k : V l g sc μ d ρ (pc + 1) ls (.int (x ||| y) :: st) f sz cells slots) : V l g sc μ d ρ pc ls (.int y :: .int x :: st) f sz cells slots := by
  intro p e R s m args below meth c H locs LS C hw hS hl
  exact lv_ior C.1 C.2.1 hd (k p e R s m args below meth c H locs LS C hw hS hl)
theorem v_ixor {x y : Int32} (hd : decode μ.2.1 pc = .ok (.ixor, 1)) (k : V l g sc μ d ρ (pc + 1) ls (.int (x ^^^ y) :: st) f sz cells slots) : V l g sc μ d ρ pc ls (.int y :: .int x :: st) f sz cells slots := by
  intro p e R s m args below meth c H locs LS C hw hS hl
  exact lv_ixor C.1 C.2.1 hd (k p e R s m args below meth c H locs LS C hw hS hl)
theorem v_idiv {x y : Int32} (hd : decode μ.2.1 pc = .ok (.idiv, 1)) (hz : ¬ y = 0) (k : V l g sc μ d ρ (pc + 1) ls (.int (x / y) :: st) f sz cells slots) : V l g sc μ d ρ pc ls (.int y :: .int x :: st) f sz cells slots := by
  intro p e R s m args below meth c H locs LS C hw hS hl
  exact lv_idiv C.1 C.2.1 hd hz (k p e R s m args below meth c H locs LS C hw hS hl)
theorem v_irem {x y : Int32} (hd : decode μ.2.1 pc = .ok (.irem, 1)) (hz : ¬ y = 0) (k : V l g sc μ d ρ (pc + 1) ls (.int (x - x / y * y) :: st) f sz cells slots) : V l g sc μ d ρ pc ls (.int y :: .int x :: st) f sz cells slots := by
  intro p e R s m args below meth c H locs LS C hw hS hl
  exact lv_irem C.1 C.2.1 hd hz (k p e R s m args below meth c H locs LS C hw hS hl)
theorem v_ineg {x : Int32} (hd : decode μ.2.1 pc = .ok (.ineg, 1)) (k : V l g sc μ d ρ (pc + 1) ls (.int (-x) :: st) f sz cells slots) : V l g sc μ d ρ pc ls (.int x :: st) f sz cells slots := by
  intro p e R s m args below meth c H locs LS C hw hS hl
  exact lv_ineg C.1 C.2.1 hd (k p e R s m args below meth c H locs LS C hw hS hl)
theorem v_ladd {x y : Int64} (hd : decode μ.2.1 pc = .ok (.ladd, 1)) (k : V l g sc μ d ρ (pc + 1) ls (.long (x + y) :: st) f sz cells slots) : V l g sc μ d ρ pc ls (.long y :: .long x :: st) f sz cells slots := by
  intro p e R s m args below meth c H locs LS C hw hS hl
  exact lv_ladd C.1 C.2.1 hd (k p e R s m args below meth c H locs LS C hw hS hl)
theorem v_lsub {x y : Int64} (hd : decode μ.2.1 pc = .ok (.lsub, 1)) (k : V l g sc μ d ρ (pc + 1) ls (.long (x - y) :: st) f sz cells slots) : V l g sc μ d ρ pc ls (.long y :: .long x :: st) f sz cells slots := by
  intro p e R s m args below meth c H locs LS C hw hS hl
  exact lv_lsub C.1 C.2.1 hd (k p e R s m args below meth c H locs LS C hw hS hl)
theorem v_lmul {x y : Int64} (hd : decode μ.2.1 pc = .ok (.lmul, 1)) (k : V l g sc μ d ρ (pc + 1) ls (.long (x * y) :: st) f sz cells slots) : V l g sc μ d ρ pc ls (.long y :: .long x :: st) f sz cells slots := by
  intro p e R s m args below meth c H locs LS C hw hS hl
  exact lv_lmul C.1 C.2.1 hd (k p e R s m args below meth c H locs LS C hw hS hl)
theorem v_land {x y : Int64} (hd : decode μ.2.1 pc = .ok (.land, 1)) (k : V l g sc μ d ρ (pc + 1) ls (.long (x &&& y) :: st) f sz cells slots) : V l g sc μ d ρ pc ls (.long y :: .long x :: st) f sz cells slots := by
  intro p e R s m args below meth c H locs LS C hw hS hl
  exact lv_land C.1 C.2.1 hd (k p e R s m args below meth c H locs LS C hw hS hl)
theorem v_lor {x y : Int64} (hd : decode μ.2.1 pc = .ok (.lor, 1)) (k : V l g sc μ d ρ (pc + 1) ls (.long (x ||| y) :: st) f sz cells slots) : V l g sc μ d ρ pc ls (.long y :: .long x :: st) f sz cells slots := by
  intro p e R s m args below meth c H locs LS C hw hS hl
  exact lv_lor C.1 C.2.1 hd (k p e R s m args below meth c H locs LS C hw hS hl)
theorem v_lxor {x y : Int64} (hd : decode μ.2.1 pc = .ok (.lxor, 1)) (k : V l g sc μ d ρ (pc + 1) ls (.long (x ^^^ y) :: st) f sz cells slots) : V l g sc μ d ρ pc ls (.long y :: .long x :: st) f sz cells slots := by
  intro p e R s m args below meth c H locs LS C hw hS hl
  exact lv_lxor C.1 C.2.1 hd (k p e R s m args below meth c H locs LS C hw hS hl)
theorem v_ldiv {x y : Int64} (hd : decode μ.2.1 pc = .ok (.ldiv, 1)) (hz : ¬ y = 0) (k : V l g sc μ d ρ (pc + 1) ls (.long (x / y) :: st) f sz cells slots) : V l g sc μ d ρ pc ls (.long y :: .long x :: st) f sz cells slots := by
  intro p e R s m args below meth c H locs LS C hw hS hl
  exact lv_ldiv C.1 C.2.1 hd hz (k p e R s m args below meth c H locs LS C hw hS hl)
theorem v_lrem {x y : Int64} (hd : decode μ.2.1 pc = .ok (.lrem, 1)) (hz : ¬ y = 0) (k : V l g sc μ d ρ (pc + 1) ls (.long (x - x / y * y) :: st) f sz cells slots) : V l g sc μ d ρ pc ls (.long y :: .long x :: st) f sz cells slots := by
  intro p e R s m args below meth c H locs LS C hw hS hl
  exact lv_lrem C.1 C.2.1 hd hz (k p e R s m args below meth c H locs LS C hw hS hl)
theorem v_lneg {x : Int64} (hd : decode μ.2.1 pc = .ok (.lneg, 1)) (k : V l g sc μ d ρ (pc + 1) ls (.long (-x) :: st) f sz cells slots) : V l g sc μ d ρ pc ls (.long x :: st) f sz cells slots := by
  intro p e R s m args below meth c H locs LS C hw hS hl
  exact lv_lneg C.1 C.2.1 hd (k p e R s m args below meth c H locs LS C hw hS hl)
theorem v_lshl {x : Int64} {y : Int32} (hd : decode μ.2.1 pc = .ok (.lshl, 1)) (k : V l g sc μ d ρ (pc + 1) ls (.long (x <<< (y.toInt64 &&& 63)) :: st) f sz cells slots) : V l g sc μ d ρ pc ls (.int y :: .long x :: st) f sz cells slots := by
  intro p e R s m args below meth c H locs LS C hw hS hl
  exact lv_lshl C.1 C.2.1 hd rfl (k p e R s m args below meth c H locs LS C hw hS hl)
theorem v_i2l {x : Int32} (hd : decode μ.2.1 pc = .ok (.i2l, 1)) (k : V l g sc μ d ρ (pc + 1) ls (.long x.toInt64 :: st) f sz cells slots) : V l g sc μ d ρ pc ls (.int x :: st) f sz cells slots := by
  intro p e R s m args below meth c H locs LS C hw hS hl
  exact lv_i2l C.1 C.2.1 hd rfl (k p e R s m args below meth c H locs LS C hw hS hl)
theorem v_l2i {x : Int64} (hd : decode μ.2.1 pc = .ok (.l2i, 1)) (k : V l g sc μ d ρ (pc + 1) ls (.int x.toInt32 :: st) f sz cells slots) : V l g sc μ d ρ pc ls (.long x :: st) f sz cells slots := by
  intro p e R s m args below meth c H locs LS C hw hS hl
  exact lv_l2i C.1 C.2.1 hd rfl (k p e R s m args below meth c H locs LS C hw hS hl)
theorem v_dup {va : Value} (hd : decode μ.2.1 pc = .ok (.dup, 1)) (h1 : va.category = 1) (k : V l g sc μ d ρ (pc + 1) ls (va :: va :: st) f sz cells slots) : V l g sc μ d ρ pc ls (va :: st) f sz cells slots := by
  intro p e R s m args below meth c H locs LS C hw hS hl
  exact lv_dup C.1 C.2.1 hd h1 (k p e R s m args below meth c H locs LS C hw hS hl)
theorem v_pop {va : Value} (hd : decode μ.2.1 pc = .ok (.pop, 1)) (h1 : va.category = 1) (k : V l g sc μ d ρ (pc + 1) ls st f sz cells slots) : V l g sc μ d ρ pc ls (va :: st) f sz cells slots := by
  intro p e R s m args below meth c H locs LS C hw hS hl
  exact lv_pop C.1 C.2.1 hd h1 (k p e R s m args below meth c H locs LS C hw hS hl)
theorem v_dup2_11 {va vb : Value} (hd : decode μ.2.1 pc = .ok (.dup2, 1)) (h1 : va.category = 1) (h2 : vb.category = 1) (k : V l g sc μ d ρ (pc + 1) ls (va :: vb :: va :: vb :: st) f sz cells slots) : V l g sc μ d ρ pc ls (va :: vb :: st) f sz cells slots := by
  intro p e R s m args below meth c H locs LS C hw hS hl
  exact lv_dup2_11 C.1 C.2.1 hd h1 h2 (k p e R s m args below meth c H locs LS C hw hS hl)
theorem v_goto {off : Int} {tgt : Nat} (hd : decode μ.2.1 pc = .ok (.goto off, 3)) (ht : (pc : Int) + off = (tgt : Int)) (k : V l g sc μ d ρ tgt ls st f sz cells slots) : V l g sc μ d ρ pc ls st f sz cells slots := by
  intro p e R s m args below meth c H locs LS C hw hS hl
  exact lv_goto C.1 C.2.1 hd ht (k p e R s m args below meth c H locs LS C hw hS hl)
theorem v_if_eq {x : Int32} {off : Int} {tgt : Nat} (hd : decode μ.2.1 pc = .ok (.ifCond .eq off, 3)) (ht : (pc : Int) + off = (tgt : Int)) (kt : x = 0 → V l g sc μ d ρ tgt ls st f sz cells slots) (kf : ¬ x = 0 → V l g sc μ d ρ (pc + 3) ls st f sz cells slots) : V l g sc μ d ρ pc ls (.int x :: st) f sz cells slots := by
  intro p e R s m args below meth c H locs LS C hw hS hl
  exact lv_if_eq C.1 C.2.1 hd ht (fun c1 => kt c1 p e R s m args below meth c H locs LS C hw hS hl) (fun c1 => kf c1 p e R s m args below meth c H locs LS C hw hS hl)
theorem v_icmp_eq {x y : Int32} {off : Int} {tgt : Nat} (hd : decode μ.2.1 pc = .ok (.if_icmp .eq off, 3)) (ht : (pc : Int) + off = (tgt : Int)) (kt : x = y → V l g sc μ d ρ tgt ls st f sz cells slots) (kf : ¬ x = y → V l g sc μ d ρ (pc + 3) ls st f sz cells slots) : V l g sc μ d ρ pc ls (.int y :: .int x :: st) f sz cells slots := by
  intro p e R s m args below meth c H locs LS C hw hS hl
  exact lv_icmp_eq C.1 C.2.1 hd ht (fun c1 => kt c1 p e R s m args below meth c H locs LS C hw hS hl) (fun c1 => kf c1 p e R s m args below meth c H locs LS C hw hS hl)
theorem v_lcmp_eq {x y : Int64} {off : Int} {tgt : Nat} (hd : decode μ.2.1 pc = .ok (.lcmp, 1)) (hd2 : decode μ.2.1 (pc + 1) = .ok (.ifCond .eq off, 3)) (ht : ((pc + 1 : Nat) : Int) + off = (tgt : Int)) (kt : x = y → V l g sc μ d ρ tgt ls st f sz cells slots) (kf : ¬ x = y → V l g sc μ d ρ (pc + 1 + 3) ls st f sz cells slots) : V l g sc μ d ρ pc ls (.long y :: .long x :: st) f sz cells slots := by
  intro p e R s m args below meth c H locs LS C hw hS hl
  exact W.lcmp C.1 C.2.1 hd (lv_if_eq C.1 C.2.1 hd2 ht (fun c1 => kt ((lg_cmp_eq x y).mp c1) p e R s m args below meth c H locs LS C hw hS hl) (fun c1 => kf (fun c2 => c1 ((lg_cmp_eq x y).mpr c2)) p e R s m args below meth c H locs LS C hw hS hl))
theorem v_if_ne {x : Int32} {off : Int} {tgt : Nat} (hd : decode μ.2.1 pc = .ok (.ifCond .ne off, 3)) (ht : (pc : Int) + off = (tgt : Int)) (kt : ¬ x = 0 → V l g sc μ d ρ tgt ls st f sz cells slots) (kf : x = 0 → V l g sc μ d ρ (pc + 3) ls st f sz cells slots) : V l g sc μ d ρ pc ls (.int x :: st) f sz cells slots := by
  intro p e R s m args below meth c H locs LS C hw hS hl
  exact lv_if_ne C.1 C.2.1 hd ht (fun c1 => kt c1 p e R s m args below meth c H locs LS C hw hS hl) (fun c1 => kf c1 p e R s m args below meth c H locs LS C hw hS hl)
theorem v_icmp_ne {x y : Int32} {off : Int} {tgt : Nat} (hd : decode μ.2.1 pc = .ok (.if_icmp .ne off, 3)) (ht : (pc : Int) + off = (tgt : Int)) (kt : ¬ x = y → V l g sc μ d ρ tgt ls st f sz cells slots) (kf : x = y → V l g sc μ d ρ (pc + 3) ls st f sz cells slots) : V l g sc μ d ρ pc ls (.int y :: .int x :: st) f sz cells slots := by
  intro p e R s m args below meth c H locs LS C hw hS hl
  exact lv_icmp_ne C.1 C.2.1 hd ht (fun c1 => kt c1 p e R s m args below meth c H locs LS C hw hS hl) (fun c1 => kf c1 p e R s m args below meth c H locs LS C hw hS hl)
theorem v_lcmp_ne {x y : Int64} {off : Int} {tgt : Nat} (hd : decode μ.2.1 pc = .ok (.lcmp, 1)) (hd2 : decode μ.2.1 (pc + 1) = .ok (.ifCond .ne off, 3)) (ht : ((pc + 1 : Nat) : Int) + off = (tgt : Int)) (kt : ¬ x = y → V l g sc μ d ρ tgt ls st f sz cells slots) (kf : x = y → V l g sc μ d ρ (pc + 1 + 3) ls st f sz cells slots) : V l g sc μ d ρ pc ls (.long y :: .long x :: st) f sz cells slots := by
  intro p e R s m args below meth c H locs LS C hw hS hl
  exact W.lcmp C.1 C.2.1 hd (lv_if_ne C.1 C.2.1 hd2 ht (fun c1 => kt (fun c2 => c1 ((lg_cmp_eq x y).mpr c2)) p e R s m args below meth c H locs LS C hw hS hl) (fun c1 => kf ((lg_cmp_eq x y).mp c1) p e R s m args below meth c H locs LS C hw hS hl))
theorem v_if_lt {x : Int32} {off : Int} {tgt : Nat} (hd : decode μ.2.1 pc = .ok (.ifCond .lt off, 3)) (ht : (pc : Int) + off = (tgt : Int)) (kt : x < 0 → V l g sc μ d ρ tgt ls st f sz cells slots) (kf : ¬ x < 0 → V l g sc μ d ρ (pc + 3) ls st f sz cells slots) : V l g sc μ d ρ pc ls (.int x :: st) f sz cells slots := by
  intro p e R s m args below meth c H locs LS C hw hS hl
  exact lv_if_lt C.1 C.2.1 hd ht (fun c1 => kt c1 p e R s m args below meth c H locs LS C hw hS hl) (fun c1 => kf c1 p e R s m args below meth c H locs LS C hw hS hl)
theorem v_icmp_lt {x y : Int32} {off : Int} {tgt : Nat} (hd : decode μ.2.1 pc = .ok (.if_icmp .lt off, 3)) (ht : (pc : Int) + off = (tgt : Int)) (kt : x < y → V l g sc μ d ρ tgt ls st f sz cells slots) (kf : ¬ x < y → V l g sc μ d ρ (pc + 3) ls st f sz cells slots) : V l g sc μ d ρ pc ls (.int y :: .int x :: st) f sz cells slots := by
  intro p e R s m args below meth c H locs LS C hw hS hl
  exact lv_icmp_lt C.1 C.2.1 hd ht (fun c1 => kt c1 p e R s m args below meth c H locs LS C hw hS hl) (fun c1 => kf c1 p e R s m args below meth c H locs LS C hw hS hl)
theorem v_lcmp_lt {x y : Int64} {off : Int} {tgt : Nat} (hd : decode μ.2.1 pc = .ok (.lcmp, 1)) (hd2 : decode μ.2.1 (pc + 1) = .ok (.ifCond .lt off, 3)) (ht : ((pc + 1 : Nat) : Int) + off = (tgt : Int)) (kt : x < y → V l g sc μ d ρ tgt ls st f sz cells slots) (kf : ¬ x < y → V l g sc μ d ρ (pc + 1 + 3) ls st f sz cells slots) : V l g sc μ d ρ pc ls (.long y :: .long x :: st) f sz cells slots := by
  intro p e R s m args below meth c H locs LS C hw hS hl
  exact W.lcmp C.1 C.2.1 hd (lv_if_lt C.1 C.2.1 hd2 ht (fun c1 => kt ((lg_cmp_lt x y).mp c1) p e R s m args below meth c H locs LS C hw hS hl) (fun c1 => kf (fun c2 => c1 ((lg_cmp_lt x y).mpr c2)) p e R s m args below meth c H locs LS C hw hS hl))
theorem v_if_ge {x : Int32} {off : Int} {tgt : Nat} (hd : decode μ.2.1 pc = .ok (.ifCond .ge off, 3)) (ht : (pc : Int) + off = (tgt : Int)) (kt : 0 ≤ x → V l g sc μ d ρ tgt ls st f sz cells slots) (kf : ¬ 0 ≤ x → V l g sc μ d ρ (pc + 3) ls st f sz cells slots) : V l g sc μ d ρ pc ls (.int x :: st) f sz cells slots := by
  intro p e R s m args below meth c H locs LS C hw hS hl
  exact lv_if_ge C.1 C.2.1 hd ht (fun c1 => kt c1 p e R s m args below meth c H locs LS C hw hS hl) (fun c1 => kf c1 p e R s m args below meth c H locs LS C hw hS hl)
theorem v_icmp_ge {x y : Int32} {off : Int} {tgt : Nat} (hd : decode μ.2.1 pc = .ok (.if_icmp .ge off, 3)) (ht : (pc : Int) + off = (tgt : Int)) (kt : y ≤ x → V l g sc μ d ρ tgt ls st f sz cells slots) (kf : ¬ y ≤ x → V l g sc μ d ρ (pc + 3) ls st f sz cells slots) : V l g sc μ d ρ pc ls (.int y :: .int x :: st) f sz cells slots := by
  intro p e R s m args below meth c H locs LS C hw hS hl
  exact lv_icmp_ge C.1 C.2.1 hd ht (fun c1 => kt c1 p e R s m args below meth c H locs LS C hw hS hl) (fun c1 => kf c1 p e R s m args below meth c H locs LS C hw hS hl)
theorem v_lcmp_ge {x y : Int64} {off : Int} {tgt : Nat} (hd : decode μ.2.1 pc = .ok (.lcmp, 1)) (hd2 : decode μ.2.1 (pc + 1) = .ok (.ifCond .ge off, 3)) (ht : ((pc + 1 : Nat) : Int) + off = (tgt : Int)) (kt : y ≤ x → V l g sc μ d ρ tgt ls st f sz cells slots) (kf : ¬ y ≤ x → V l g sc μ d ρ (pc + 1 + 3) ls st f sz cells slots) : V l g sc μ d ρ pc ls (.long y :: .long x :: st) f sz cells slots := by
  intro p e R s m args below meth c H locs LS C hw hS hl
  exact W.lcmp C.1 C.2.1 hd (lv_if_ge C.1 C.2.1 hd2 ht (fun c1 => kt ((lg_cmp_ge x y).mp c1) p e R s m args below meth c H locs LS C hw hS hl) (fun c1 => kf (fun c2 => c1 ((lg_cmp_ge x y).mpr c2)) p e R s m args below meth c H locs LS C hw hS hl))
theorem v_if_gt {x : Int32} {off : Int} {tgt : Nat} (hd : decode μ.2.1 pc = .ok (.ifCond .gt off, 3)) (ht : (pc : Int) + off = (tgt : Int)) (kt : 0 < x → V l g sc μ d ρ tgt ls st f sz cells slots) (kf : ¬ 0 < x → V l g sc μ d ρ (pc + 3) ls st f sz cells slots) : V l g sc μ d ρ pc ls (.int x :: st) f sz cells slots := by
  intro p e R s m args below meth c H locs LS C hw hS hl
  exact lv_if_gt C.1 C.2.1 hd ht (fun c1 => kt c1 p e R s m args below meth c H locs LS C hw hS hl) (fun c1 => kf c1 p e R s m args below meth c H locs LS C hw hS hl)
theorem v_icmp_gt {x y : Int32} {off : Int} {tgt : Nat} (hd : decode μ.2.1 pc = .ok (.if_icmp .gt off, 3)) (ht : (pc : Int) + off = (tgt : Int)) (kt : y < x → V l g sc μ d ρ tgt ls st f sz cells slots) (kf : ¬ y < x → V l g sc μ d ρ (pc + 3) ls st f sz cells slots) : V l g sc μ d ρ pc ls (.int y :: .int x :: st) f sz cells slots := by
  intro p e R s m args below meth c H locs LS C hw hS hl
  exact lv_icmp_gt C.1 C.2.1 hd ht (fun c1 => kt c1 p e R s m args below meth c H locs LS C hw hS hl) (fun c1 => kf c1 p e R s m args below meth c H locs LS C hw hS hl)
theorem v_lcmp_gt {x y : Int64} {off : Int} {tgt : Nat} (hd : decode μ.2.1 pc = .ok (.lcmp, 1)) (hd2 : decode μ.2.1 (pc + 1) = .ok (.ifCond .gt off, 3)) (ht : ((pc + 1 : Nat) : Int) + off = (tgt : Int)) (kt : y < x → V l g sc μ d ρ tgt ls st f sz cells slots) (kf : ¬ y < x → V l g sc μ d ρ (pc + 1 + 3) ls st f sz cells slots) : V l g sc μ d ρ pc ls (.long y :: .long x :: st) f sz cells slots := by
  intro p e R s m args below meth c H locs LS C hw hS hl
  exact W.lcmp C.1 C.2.1 hd (lv_if_gt C.1 C.2.1 hd2 ht (fun c1 => kt ((lg_cmp_gt x y).mp c1) p e R s m args below meth c H locs LS C hw hS hl) (fun c1 => kf (fun c2 => c1 ((lg_cmp_gt x y).mpr c2)) p e R s m args below meth c H locs LS C hw hS hl))
theorem v_if_le {x : Int32} {off : Int} {tgt : Nat} (hd : decode μ.2.1 pc = .ok (.ifCond .le off, 3)) (ht : (pc : Int) + off = (tgt : Int)) (kt : x ≤ 0 → V l g sc μ d ρ tgt ls st f sz cells slots) (kf : ¬ x ≤ 0 → V l g sc μ d ρ (pc + 3) ls st f sz cells slots) : V l g sc μ d ρ pc ls (.int x :: st) f sz cells slots := by
  intro p e R s m args below meth c H locs LS C hw hS hl
  exact lv_if_le C.1 C.2.1 hd ht (fun c1 => kt c1 p e R s m args below meth c H locs LS C hw hS hl) (fun c1 => kf c1 p e R s m args below meth c H locs LS C hw hS hl)
theorem v_icmp_le {x y : Int32} {off : Int} {tgt : Nat} (hd : decode μ.2.1 pc = .ok (.if_icmp .le off, 3)) (ht : (pc : Int) + off = (tgt : Int)) (kt : x ≤ y → V l g sc μ d ρ tgt ls st f sz cells slots) (kf : ¬ x ≤ y → V l g sc μ d ρ (pc + 3) ls st f sz cells slots) : V l g sc μ d ρ pc ls (.int y :: .int x :: st) f sz cells slots := by
  intro p e R s m args below meth c H locs LS C hw hS hl
  exact lv_icmp_le C.1 C.2.1 hd ht (fun c1 => kt c1 p e R s m args below meth c H locs LS C hw hS hl) (fun c1 => kf c1 p e R s m args below meth c H locs LS C hw hS hl)
theorem v_lcmp_le {x y : Int64} {off : Int} {tgt : Nat} (hd : decode μ.2.1 pc = .ok (.lcmp, 1)) (hd2 : decode μ.2.1 (pc + 1) = .ok (.ifCond .le off, 3)) (ht : ((pc + 1 : Nat) : Int) + off = (tgt : Int)) (kt : x ≤ y → V l g sc μ d ρ tgt ls st f sz cells slots) (kf : ¬ x ≤ y → V l g sc μ d ρ (pc + 1 + 3) ls st f sz cells slots) : V l g sc μ d ρ pc ls (.long y :: .long x :: st) f sz cells slots := by
  intro p e R s m args below meth c H locs LS C hw hS hl
  exact W.lcmp C.1 C.2.1 hd (lv_if_le C.1 C.2.1 hd2 ht (fun c1 => kt ((lg_cmp_le x y).mp c1) p e R s m args below meth c H locs LS C hw hS hl) (fun c1 => kf (fun c2 => c1 ((lg_cmp_le x y).mpr c2)) p e R s m args below meth c H locs LS C hw hS hl))
theorem v_ldc {idx : Nat} {v : Int32} (hd : decode μ.2.1 pc = .ok (.ldc idx, 2)) (hk : Cond.constant μ.1 idx v ∈ TB) (k : V l g sc μ d ρ (pc + 2) ls (.int v :: st) f sz cells slots) : V l g sc μ d ρ pc ls st f sz cells slots := by
  intro p e R s m args below meth c H locs LS C hw hS hl
  exact lv_ldc C.1 C.2.1 C.2.2.2.1 (C.2.2.2.2.1 _ hk) hd (k p e R s m args below meth c H locs LS C hw hS hl)
theorem v_ldc2 {idx : Nat} {v : Int64} (hd : decode μ.2.1 pc = .ok (.ldc2_w idx, 3)) (hk : Cond.constantLong μ.1 idx v ∈ TB) (k : V l g sc μ d ρ (pc + 3) ls (.long v :: st) f sz cells slots) : V l g sc μ d ρ pc ls st f sz cells slots := by
  intro p e R s m args below meth c H locs LS C hw hS hl
  exact lv_ldc2 C.1 C.2.1 C.2.2.2.1 (C.2.2.2.2.1 _ hk) hd (k p e R s m args below meth c H locs LS C hw hS hl)
theorem v_tableOut {dflt lo hi : Int} {offs : Array Int} {len : Nat} {x : Int32} {tgt : Nat} (hd : decode μ.2.1 pc = .ok (.tableswitch dflt lo hi offs, len)) (h : x.toInt < lo ∨ hi < x.toInt) (ht : (pc : Int) + dflt = (tgt : Int)) (k : V l g sc μ d ρ tgt ls st f sz cells slots) : V l g sc μ d ρ pc ls (.int x :: st) f sz cells slots := by
  intro p e R s m args below meth c H locs LS C hw hS hl
  exact lv_tableOut C.1 C.2.1 hd h ht (k p e R s m args below meth c H locs LS C hw hS hl)
theorem v_tableIn {dflt lo hi : Int} {offs : Array Int} {len : Nat} {x : Int32} {off : Int} {tgt : Nat} (hd : decode μ.2.1 pc = .ok (.tableswitch dflt lo hi offs, len)) (h1 : ¬ x.toInt < lo) (h2 : ¬ hi < x.toInt) (ho : offs[(x.toInt - lo).toNat]? = some off) (ht : (pc : Int) + off = (tgt : Int)) (k : V l g sc μ d ρ tgt ls st f sz cells slots) : V l g sc μ d ρ pc ls (.int x :: st) f sz cells slots := by
  intro p e R s m args below meth c H locs LS C hw hS hl
  exact lv_tableIn C.1 C.2.1 hd h1 h2 ho ht (k p e R s m args below meth c H locs LS C hw hS hl)
theorem v_lookup {dflt : Int} {ps : Array (Int × Int)} {len : Nat} {x : Int32} {off : Int} {tgt : Nat} (hd : decode μ.2.1 pc = .ok (.lookupswitch dflt ps, len)) (hp : (ps.toList.zip (ps.toList.drop 1)).all (fun (a, next) => a.1 < next.1) = true) (ho : Op.lookupswitch.offset ps.toList dflt x.toInt = off) (ht : (pc : Int) + off = (tgt : Int)) (k : V l g sc μ d ρ tgt ls st f sz cells slots) : V l g sc μ d ρ pc ls (.int x :: st) f sz cells slots := by
  intro p e R s m args below meth c H locs LS C hw hS hl
  exact lv_lookup C.1 C.2.1 hd hp ho ht (k p e R s m args below meth c H locs LS C hw hS hl)
/-- fewer locals, in another order -/
theorem v_sub (h : ∀ q ∈ ls1, lk ls q.1 = some q.2) (k : V l g sc μ d ρ pc ls1 st f sz cells slots) : V l g sc μ d ρ pc ls st f sz cells slots := by
  intro p e R s m args below meth c H locs LS C hw hS hl
  exact k p e R s m args below meth c H locs LS C hw hS ⟨hl.1, hl.2.1, fun q hq => lk_at hl (h q hq)⟩
theorem vs_n : ∀ q ∈ ([] : List (Nat × Value)), lk ls q.1 = some q.2 := fun _ h => nomatch h
theorem vs_c {i : Nat} {v : Value} {t : List (Nat × Value)} (h : lk ls i = some v) (ht : ∀ q ∈ t, lk ls q.1 = some q.2) : ∀ q ∈ (i, v) :: t, lk ls q.1 = some q.2 := fun q hq => (List.mem_cons.mp hq).elim (fun e => by rw [e]; exact h) (ht q)
theorem v_getV {idx ci k : Nat} {a : Nat} {v : Value} (hd : decode μ.2.1 pc = .ok (.getfield idx, 3)) (F : FL μ.1 idx ci k) (h : gV f a ci k = some v) (k : V l g sc μ d ρ (pc + 3) ls (v :: st) f sz cells slots) : V l g sc μ d ρ pc ls (.ref a :: st) f sz cells slots := by
  intro p e R s m args below meth c H locs LS C hw hS hl
  obtain ⟨fs, hf, hv⟩ := gV_some h
  obtain ⟨hA, hat⟩ := hw.1 a _ hf
  obtain ⟨⟨Cn, T, N⟩, hc, hk, hlk⟩ := F
  rcases hlk with h1 | ⟨host, h2⟩
  · exact va_get C.1 C.2.1 (Ts := TB) C.2.2.2.2.1 (cl_in hc) C.2.2.2.1 C.2.2.2.2.2.2.2.2.2.1.1 (va_P1 hat) 0 rfl hc _ hk (C.2.2.2.2.1 _ h1) (fun _ h => h) hv hd (k p e R s m args below meth c H locs LS C hw hS hl)
  · exact va_getN C.1 C.2.1 (Ts := TB) C.2.2.2.2.1 (cl_in hc) C.2.2.2.1 C.2.2.2.2.2.2.2.2.2.1.1 (va_P1 hat) 0 rfl hc _ hk (va_Nw.use (nb_tab h2) (C.2.2.2.2.2.2.2.2.2.1.2.1 _ h2)) (fun _ h => h) hv hd (k p e R s m args below meth c H locs LS C hw hS hl)
theorem v_getI {idx ci k : Nat} {a : Nat} {x : Int32} (hd : decode μ.2.1 pc = .ok (.getfield idx, 3)) (F : FL μ.1 idx ci k) (h : gI f a ci k = some x) (k : V l g sc μ d ρ (pc + 3) ls (.int x :: st) f sz cells slots) : V l g sc μ d ρ pc ls (.ref a :: st) f sz cells slots := v_getV hd F (gI_some h) k
theorem v_getL {idx ci k : Nat} {a : Nat} {x : Int64} (hd : decode μ.2.1 pc = .ok (.getfield idx, 3)) (F : FL μ.1 idx ci k) (h : gL f a ci k = some x) (k : V l g sc μ d ρ (pc + 3) ls (.long x :: st) f sz cells slots) : V l g sc μ d ρ pc ls (.ref a :: st) f sz cells slots := v_getV hd F (gL_some h) k
theorem v_getR {idx ci k : Nat} {a : Nat} {x : Nat} (hd : decode μ.2.1 pc = .ok (.getfield idx, 3)) (F : FL μ.1 idx ci k) (h : gR f a ci k = some x) (k : V l g sc μ d ρ (pc + 3) ls (.ref x :: st) f sz cells slots) : V l g sc μ d ρ pc ls (.ref a :: st) f sz cells slots := v_getV hd F (gR_some h) k
theorem v_putV {idx ci k : Nat} {ty : FieldType} {a : Nat} {v : Value} (hd : decode μ.2.1 pc = .ok (.putfield idx, 3)) (F : FP μ.1 idx ci k ty) (hn : narrow ty v = v) (hfit : fits ty v = true) (h : pV f a ci k v = some f1) (k : V l g sc μ d ρ (pc + 3) ls st f1 sz cells slots) : V l g sc μ d ρ pc ls (v :: .ref a :: st) f sz cells slots := by
  intro p e R s m args below meth c H locs LS C hw hS hl
  obtain ⟨fs, hf, hkl, rfl⟩ := pV_some h
  obtain ⟨hA, hat⟩ := hw.1 a _ hf
  obtain ⟨⟨Cn, T, N⟩, hc, hk, hlk, hfin, hty⟩ := F
  obtain ⟨ty0, ht0, hnm⟩ := cl_ty hc
  have hts := C.2.2.2.2.1
  have hK := C.2.2.2.2.2.2.2.2.2.1.1
  have hap := va_apart (own := μ.1) hts (cl_in hc) ty0 ht0 hnm hK hc
  obtain ⟨r, h1, cell, q1, q2, q3, q4⟩ := hat
  have hr : r = (Cn, T, N) := Option.some.inj (h1.symm.trans hc)
  subst hr
  obtain ⟨hS9, hfc, kC, hkC, hkind⟩ := hK.1 ci _ hc
  obtain ⟨cf, kf, fi, f9, hi, hsl⟩ := hS9 _ hk
  have hlay := hts _ (cl_in hc _ (u_in_lay hk))
  unfold u_lay at hlay
  rw [if_neg (by rw [hfin]; decide)] at hlay
  have hst := (u_facts hfc hkC (u_lays hts (cl_in hc) hk) hi).1
  have h6 := u_store hfc hkC hkind hlay hi hty hn hfit
  rcases hlk with h1 | ⟨host, h2⟩
  · refine W.putK C.1 C.2.1 (f := f9) ⟨C.2.2.2.1, hts _ h1, ⟨_, _, _, hi⟩, hst⟩ (by rw [q2]; exact h6) q1 q3 (by rw [hsl]; exact k2_hasslot (q4 _ hk)) rfl rfl hd fun H' e1 e2 e3 => ?_
    rw [hsl] at e1 ⊢
    exact k p e R s m args below meth c H' _ LS C (hw.up hA e2 e3 ⟨_, hc, t_OB.to (V := updV (vp_V fs) _ v) ⟨_, e1, q2, q3, t_set q4 hap hk v⟩ (fun j _ => vp_updV_set hkl v j)⟩) (hS.put e2 e3 hA) hl
  · refine va_WputK C.1 C.2.1 (f := f9) C.2.2.2.1 (va_Nw.use (nb_tab h2) (C.2.2.2.2.2.2.2.2.2.1.2.1 _ h2)) hi hst (by rw [q2]; exact h6) q1 q3 (by rw [hsl]; exact k2_hasslot (q4 _ hk)) rfl rfl hd fun H' e1 e2 e3 => ?_
    rw [hsl] at e1 ⊢
    exact k p e R s m args below meth c H' _ LS C (hw.up hA e2 e3 ⟨_, hc, t_OB.to (V := updV (vp_V fs) _ v) ⟨_, e1, q2, q3, t_set q4 hap hk v⟩ (fun j _ => vp_updV_set hkl v j)⟩) (hS.put e2 e3 hA) hl
theorem v_putF {idx ci k : Nat} {ty : FieldType} {a : Nat} {v : Value} (hd : decode μ.2.1 pc = .ok (.putfield idx, 3)) (F : FF μ.1 idx ci k ty) (hin : μ.2.2.2.2.2 = "<init>") (hn : narrow ty v = v) (hfit : fits ty v = true) (h : pV f a ci k v = some f1) (k : V l g sc μ d ρ (pc + 3) ls st f1 sz cells slots) : V l g sc μ d ρ pc ls (v :: .ref a :: st) f sz cells slots := by
  intro p e R s m args below meth c H locs LS C hw hS hl
  obtain ⟨fs, hf, hkl, rfl⟩ := pV_some h
  obtain ⟨hA, hat⟩ := hw.1 a _ hf
  obtain ⟨⟨Cn, T, N⟩, hc, hk, hlk, hfin, hdecl, hty⟩ := F
  obtain ⟨ty0, ht0, hnm⟩ := cl_ty hc
  have hts := C.2.2.2.2.1
  have hown := C.2.2.2.1
  have hK := C.2.2.2.2.2.2.2.2.2.1.1
  have hap := va_apart (own := μ.1) hts (cl_in hc) ty0 ht0 hnm hK hc
  obtain ⟨r, h1, cell, q1, q2, q3, q4⟩ := hat
  have hr : r = (Cn, T, N) := Option.some.inj (h1.symm.trans hc)
  subst hr
  obtain ⟨hS9, hfc, kC, hkC, hkind⟩ := hK.1 ci _ hc
  obtain ⟨cf, kf, fi, f9, hi, hsl⟩ := hS9 _ hk
  have hlay := hts _ (cl_in hc _ (u_in_lay hk))
  unfold u_lay at hlay
  rw [if_pos hfin] at hlay
  have hst := (u_facts hfc hkC (u_lays hts (cl_in hc) hk) hi).1
  have hcf : m.cls = cf := by
    obtain ⟨_, _, c', _, _, _, -, -, hf', -, -, -, hown2, -⟩ := Cond.laysFinal_spec hlay
    have e1 : c' = cf := by have := hi.symm.trans hf'; simp at this; exact this.1.symm
    have hdecl' : (T _).1 = μ.1 := hdecl
    rw [hdecl'] at hown2
    rw [← e1]; exact Option.some.inj (hown.symm.trans hown2)
  have h6 := u_fits hfc hkC hkind (Or.inr hlay) hi hty hn hfit
  refine W.putFinK C.1 C.2.1 hown (hts _ hlk) hi hst hcf (C.2.2.2.2.2.2.2.2.1.trans hin) (by rw [q2]; exact h6) q1 q3 (by rw [hsl]; exact k2_hasslot (q4 _ hk)) rfl rfl hd fun H' e1 e2 e3 => ?_
  rw [hsl] at e1 ⊢
  exact k p e R s m args below meth c H' _ LS C (hw.up hA e2 e3 ⟨_, hc, t_OB.to (V := updV (vp_V fs) _ v) ⟨_, e1, q2, q3, t_set q4 hap hk v⟩ (fun j _ => vp_updV_set hkl v j)⟩) (hS.put e2 e3 hA) hl
theorem v_alen {a t : Nat} {ty : FieldType} {x : Int32} (hd : decode μ.2.1 pc = .ok (.arraylength, 1)) (ht : (ty9 g.2.1)[t]? = some (g.2.1 t, ty)) (h : aLen f a t = some x) (k : V l g sc μ d ρ (pc + 1) ls (.int x :: st) f sz cells slots) : V l g sc μ d ρ pc ls (.ref a :: st) f sz cells slots := by
  intro p e R s m args below meth c H locs LS C hw hS hl
  obtain ⟨n, z, hf, rfl⟩ := aLen_some h
  obtain ⟨hA, hat⟩ := hw.1 a _ hf
  exact va_alen C.1 C.2.1 C.2.2.2.2.2.2.2.2.2.1.1 (va_P1 hat) 0 t rfl ht rfl hd (k p e R s m args below meth c H locs LS C hw hS hl)
theorem v_iald {a : Nat} {i x : Int32} (hd : decode μ.2.1 pc = .ok (.iaload, 1)) (h : aI f a 0 i = some x) (k : V l g sc μ d ρ (pc + 1) ls (.int x :: st) f sz cells slots) : V l g sc μ d ρ pc ls (.int i :: .ref a :: st) f sz cells slots := by
  intro p e R s m args below meth c H locs LS C hw hS hl
  obtain ⟨n, z, hf, hin, rfl⟩ := aI_some h
  obtain ⟨hA, hat⟩ := hw.1 a _ hf
  exact va_iald C.1 C.2.1 C.2.2.2.2.2.2.2.2.2.1.1 (va_P1 hat) 0 0 rfl rfl hin hd (k p e R s m args below meth c H locs LS C hw hS hl)
theorem v_zald {a : Nat} {i x : Int32} (hd : decode μ.2.1 pc = .ok (.baload, 1)) (h : aI f a 2 i = some x) (k : V l g sc μ d ρ (pc + 1) ls (.int x :: st) f sz cells slots) : V l g sc μ d ρ pc ls (.int i :: .ref a :: st) f sz cells slots := by
  intro p e R s m args below meth c H locs LS C hw hS hl
  obtain ⟨n, z, hf, hin, rfl⟩ := aI_some h
  obtain ⟨hA, hat⟩ := hw.1 a _ hf
  exact va_zald C.1 C.2.1 C.2.2.2.2.2.2.2.2.2.1.1 (va_P1 hat) 0 2 rfl rfl hin hd (k p e R s m args below meth c H locs LS C hw hS hl)
theorem v_lald {a : Nat} {i : Int32} {x : Int64} (hd : decode μ.2.1 pc = .ok (.laload, 1)) (h : aL f a i = some x) (k : V l g sc μ d ρ (pc + 1) ls (.long x :: st) f sz cells slots) : V l g sc μ d ρ pc ls (.int i :: .ref a :: st) f sz cells slots := by
  intro p e R s m args below meth c H locs LS C hw hS hl
  obtain ⟨n, z, hf, hin, rfl⟩ := aL_some h
  obtain ⟨hA, hat⟩ := hw.1 a _ hf
  exact va_lald C.1 C.2.1 C.2.2.2.2.2.2.2.2.2.1.1 (va_P1 hat) 0 1 rfl rfl hin hd (k p e R s m args below meth c H locs LS C hw hS hl)
theorem up_at {g : GT} {f : HF} {sz : Option Nat} {H H1 : Heap} {a t n i : Nat} {z z1 : (Nat → Int32) ⊕ (Nat → Int64) ⊕ (Nat → UInt32) ⊕ (Nat → UInt64) ⊕ (Nat → Option Nat)} {v : Value} (hw : Wst g f sz H) (hA : A9 g a) (e : H1[a]? = some ((vp_cell (g.2.1 t) (n, z)).setSlot i v)) (hz : H1.size = H.size) (hq : ∀ q : Nat, q ≠ a → H1[q]? = H[q]?) (he : (vp_cell (g.2.1 t) (n, z)).setSlot i v = vp_cell (g.2.1 t) (n, z1)) : Wst g (hup f a (.inl (t, (n, z1)))) sz H1 := hw.up hA hz hq (by
  show H1[a]? = some (vp_cell (g.2.1 t) (n, z1))
  rw [e, he])
theorem v_iast {a : Nat} {i x : Int32} (hd : decode μ.2.1 pc = .ok (.iastore, 1)) (h : sI f a 0 i x = some f1) (k : V l g sc μ d ρ (pc + 1) ls st f1 sz cells slots) : V l g sc μ d ρ pc ls (.int x :: .int i :: .ref a :: st) f sz cells slots := by
  intro p e R s m args below meth c H locs LS C hw hS hl
  obtain ⟨n, z, hf, hin, rfl⟩ := sI_some h
  obtain ⟨hA, hat⟩ := hw.1 a _ hf
  refine W.iast C.1 C.2.1 hat ((C.2.2.2.2.2.2.2.2.2.1.1.2 0 _ rfl).1 n (fun j => .int (z j))) (fun q => by cases q) (by show ¬ (i < 0 ∨ (arrV _ _ _).slots.size ≤ _); rw [arrV_size]; exact hin) rfl rfl hd fun H1 e1 z1 oq => ?_
  · 
    refine k p e R s m args below meth c H1 _ LS C (up_at hw hA e1 z1 oq ?_) (hS.put z1 oq hA) hl
    show (vp_cell _ _).setSlot _ _ = _
    rw [vp_cell_i, vp_cell_i, arrV_store]
    congr 1
    funext q
    by_cases hq : q = i.toNatClampNeg
    · subst hq
      simp [updV, upd]
    · simp [updV, upd, hq]
theorem v_zast {a : Nat} {i x : Int32} (hd : decode μ.2.1 pc = .ok (.bastore, 1)) (hB : isB x) (h : sI f a 2 i x = some f1) (k : V l g sc μ d ρ (pc + 1) ls st f1 sz cells slots) : V l g sc μ d ρ pc ls (.int x :: .int i :: .ref a :: st) f sz cells slots := by
  intro p e R s m args below meth c H locs LS C hw hS hl
  obtain ⟨n, z, hf, hin, rfl⟩ := sI_some h
  obtain ⟨hA, hat⟩ := hw.1 a _ hf
  refine W.zast C.1 C.2.1 hat ((C.2.2.2.2.2.2.2.2.2.1.1.2 2 _ rfl).1 n (fun j => .int (z j))) (fun q => by cases q) (by show ¬ (i < 0 ∨ (arrV _ _ _).slots.size ≤ _); rw [arrV_size]; exact hin) rfl rfl hd fun H1 e1 z1 oq => ?_
  · 
    have e0 : narrow .boolean (.int x) = .int x := by rcases hB with rfl | rfl <;> rfl
    try rw [e0] at e1
    refine k p e R s m args below meth c H1 _ LS C (up_at hw hA e1 z1 oq ?_) (hS.put z1 oq hA) hl
    show (vp_cell _ _).setSlot _ _ = _
    rw [vp_cell_i, vp_cell_i, arrV_store]
    congr 1
    funext q
    by_cases hq : q = i.toNatClampNeg
    · subst hq
      simp [updV, upd]
    · simp [updV, upd, hq]
theorem v_last {a : Nat} {i : Int32} {x : Int64} (hd : decode μ.2.1 pc = .ok (.lastore, 1)) (h : sL f a i x = some f1) (k : V l g sc μ d ρ (pc + 1) ls st f1 sz cells slots) : V l g sc μ d ρ pc ls (.long x :: .int i :: .ref a :: st) f sz cells slots := by
  intro p e R s m args below meth c H locs LS C hw hS hl
  obtain ⟨n, z, hf, hin, rfl⟩ := sL_some h
  obtain ⟨hA, hat⟩ := hw.1 a _ hf
  refine W.last C.1 C.2.1 hat ((C.2.2.2.2.2.2.2.2.2.1.1.2 1 _ rfl).1 n (fun j => .long (z j))) (fun q => by cases q) (by show ¬ (i < 0 ∨ (arrV _ _ _).slots.size ≤ _); rw [arrV_size]; exact hin) rfl rfl hd fun H1 e1 z1 oq => ?_
  refine k p e R s m args below meth c H1 _ LS C (up_at hw hA e1 z1 oq ?_) (hS.put z1 oq hA) hl
  show (vp_cell _ _).setSlot _ _ = _
  rw [vp_cell_l, vp_cell_l, arrV_store]
  congr 1
  funext q
  by_cases hq : q = i.toNatClampNeg
  · subst hq
    simp [updV, vp_updL]
  · simp [updV, vp_updL, hq]
end RV
