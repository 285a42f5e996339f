/-! ROWS THAT MAKE CELLS -/
theorem met_of_mt {l : Launch} {g : GT} {y : MethodName} {cc : ByteArray} {nL : Nat} {rt : Option FieldType} {d : Nat} {As : List Value} {f f1 : HF} {sz sz1 : Option Nat} {v : Option Value} {k n : Nat} (h : Mt l g y cc nL rt d As f sz (.inl v, f1, sz1, k, n)) : Met l y (.code y cc nL rt :: TB) { frames := d, cells := k, slots := n, locals := 64 * d } (va_Pc As (Pre9 l g f sz)) (Qr g (.inl v) f1 sz1) k n (A9 g) := by
  intro p e ha hc hk s m args below hf happ hP hK
  obtain ⟨n9, o, h1, h2, h3, h4⟩ := h p e ha hc hk s m args below hf happ hP hK
  refine ⟨n9, o, h1, h2, h3, ?_⟩
  rcases h4 with h4 | ⟨q, rfl, E, ce, L, ⟨hx, -⟩, -⟩
  · exact h4
  · cases hx
/-- what a new object of a class begins with -/
def newOk (own : String) (idx ci N : Nat) (fs : List Value) : Prop := ∃ r : vw_C, cl9[ci]? = some r ∧ r.2.2 = N ∧ Cond.classLink own idx r.1 ∈ TB ∧ Cond.instantiable r.1 N ∈ TB ∧ Cond.initialized r.1 ∈ TB ∧ ∃ ty : Nat → FieldType, (∀ k, k < N → parseFieldDescriptor (r.2.1 k).2.2.1 = some (ty k)) ∧ ∀ j, j < N → defaultValue (ty j) = vp_V fs j
theorem Wst.add {g : GT} {f : HF} {n : Nat} {H H1 : Heap} {o : Ob} (h : Wst g f (some n) H) (hA : A9 g n) (hz : H1.size = H.size + 1) (hq : ∀ q : Nat, q < H.size → H1[q]? = H[q]?) (ho : va_at g.1 cl9 (n, obE g.2.1 o) H1) : Wst g (hup f n o) (some (n + 1)) H1 := by
  have hn := h.2 n rfl
  refine ⟨fun q e he => ?_, fun k hk => by cases hk; omega⟩
  unfold hup at he
  by_cases e1 : q = n
  · rw [if_pos e1] at he
    cases he
    subst e1
    exact ⟨hA, ho⟩
  · rw [if_neg e1] at he
    obtain ⟨h1, h2⟩ := h.1 q e he
    exact ⟨h1, h2.kept (hq q h2.lt)⟩
section RA
variable {l : Launch} {g : GT} {sc : State → Prop} {μ : MT} {d : Nat} {ρ : RT} {pc : Nat} {ls ls1 : List (Nat × Value)} {st rest : List Value} {f f1 : HF} {sz sz1 : Option Nat} {cells slots : Nat}
theorem v_new {idx ci N n : Nat} {fs : List Value} (hd : decode μ.2.1 pc = .ok (.new idx, 3)) (W9 : newOk μ.1 idx ci N fs) (hc : cells + 1 ≤ ρ.2.2.2.1) (hs : slots + N ≤ ρ.2.2.2.2) (k : V l g sc μ d ρ (pc + 3) ls (.ref n :: st) (hup f n (.inr (ci, fs))) (some (n + 1)) (cells + 1) (slots + N)) : V l g sc μ d ρ pc ls st f (some n) cells slots := by
  intro p e R s m args below meth c H locs LS C hw hS hl
  obtain ⟨⟨Cn, T, N'⟩, hr, hN, w1, w2, w3, ty, hty, hdf⟩ := W9
  have hN' : N' = N := hN
  subst hN'
  have ok := C.2.2.2.2.1
  have hKn := C.2.2.2.2.2.2.2.2.2.1.1.1 ci _ hr
  have hn := hw.2 n rfl
  have hgs : g.2.2 ≤ s.heap.size := C.2.2.2.2.2.2.2.2.2.2.2.2.2.2.2.2.2
  have hkc : ρ.2.2.2.1 ≤ R.cells := C.2.2.2.2.2.2.2.2.2.2.2.2.2.2.2.1
  have hks : ρ.2.2.2.2 ≤ R.slots := C.2.2.2.2.2.2.2.2.2.2.2.2.2.2.2.2.1
  have hS1 := hS.1
  refine W.newcK C.1 C.2.1 C.2.2.2.1 (ok _ w1) (ok _ w2) (ok _ w3) rfl hd (by omega) (by omega) hKn.2.1 hn fun H1 kC hkC e1 z1 o1 => ?_
  exact k p e R s m args below meth c H1 locs LS C (hw.add (Nat.le_trans hgs (by omega)) (by omega) (fun q hq => o1 q (by omega)) ⟨_, hr, (u_born ty ok (cl_in hr) hKn hkC e1 hty).to hdf⟩) ⟨by omega, fun x h1 h2 => (o1 x (by omega)).trans (hS.2.1 x h1 h2), hS.2.2⟩ hl
theorem v_newI {n : Nat} {x : Int32} {K : Nat} (hd : decode μ.2.1 pc = .ok (.newarray .int, 2)) (w : Cond.arrayClass .int ∈ TB) (h0 : ¬ x < 0) (hK : x.toNatClampNeg = K) (hb : K ≤ 100000) (hc : cells + 1 ≤ ρ.2.2.2.1) (hs : slots + K ≤ ρ.2.2.2.2) (k : V l g sc μ d ρ (pc + 2) ls (.ref n :: st) (hup f n (.inl (0, (K, .inl (fun _ => 0))))) (some (n + 1)) (cells + 1) (slots + K)) : V l g sc μ d ρ pc ls (.int x :: st) f (some n) cells slots := by
  intro p e R s m args below meth c H locs LS C hw hS hl
  have ok := C.2.2.2.2.1
  have hn := hw.2 n rfl
  have hgs : g.2.2 ≤ s.heap.size := C.2.2.2.2.2.2.2.2.2.2.2.2.2.2.2.2.2
  have hkc : ρ.2.2.2.1 ≤ R.cells := C.2.2.2.2.2.2.2.2.2.2.2.2.2.2.2.1
  have hks : ρ.2.2.2.2 ≤ R.slots := C.2.2.2.2.2.2.2.2.2.2.2.2.2.2.2.2.1
  have hS1 := hS.1
  refine va_newaK (atype := .int) C.1 C.2.1 (ok _ w) rfl hd rfl h0 hK (by show K * 4 ≤ 536870912; omega) (by omega) (by omega) hn fun H1 cA e1 z1 o1 hAr hNm => ?_
  have hra := (C.2.2.2.2.2.2.2.2.2.1.1.2 0 _ rfl).2
  have ecA : cA = g.2.1 0 := Option.some.inj (hNm.symm.trans hra)
  subst ecA
  exact k p e R s m args below meth c H1 locs LS C (hw.add (Nat.le_trans hgs (by omega)) (by omega) (fun q hq => o1 q (by omega)) (by show H1[n]? = _; rw [e1]; rfl)) ⟨by omega, fun x h1 h2 => (o1 x (by omega)).trans (hS.2.1 x h1 h2), hS.2.2⟩ hl
theorem v_newL {n : Nat} {x : Int32} {K : Nat} (hd : decode μ.2.1 pc = .ok (.newarray .long, 2)) (w : Cond.arrayClass .long ∈ TB) (h0 : ¬ x < 0) (hK : x.toNatClampNeg = K) (hb : K ≤ 100000) (hc : cells + 1 ≤ ρ.2.2.2.1) (hs : slots + K ≤ ρ.2.2.2.2) (k : V l g sc μ d ρ (pc + 2) ls (.ref n :: st) (hup f n (.inl (1, (K, .inr (.inl (fun _ => 0)))))) (some (n + 1)) (cells + 1) (slots + K)) : V l g sc μ d ρ pc ls (.int x :: st) f (some n) cells slots := by
  intro p e R s m args below meth c H locs LS C hw hS hl
  have ok := C.2.2.2.2.1
  have hn := hw.2 n rfl
  have hgs : g.2.2 ≤ s.heap.size := C.2.2.2.2.2.2.2.2.2.2.2.2.2.2.2.2.2
  have hkc : ρ.2.2.2.1 ≤ R.cells := C.2.2.2.2.2.2.2.2.2.2.2.2.2.2.2.1
  have hks : ρ.2.2.2.2 ≤ R.slots := C.2.2.2.2.2.2.2.2.2.2.2.2.2.2.2.2.1
  have hS1 := hS.1
  refine va_newaK (atype := .long) C.1 C.2.1 (ok _ w) rfl hd rfl h0 hK (by show K * 8 ≤ 536870912; omega) (by omega) (by omega) hn fun H1 cA e1 z1 o1 hAr hNm => ?_
  have hra := (C.2.2.2.2.2.2.2.2.2.1.1.2 1 _ rfl).2
  have ecA : cA = g.2.1 1 := Option.some.inj (hNm.symm.trans hra)
  subst ecA
  exact k p e R s m args below meth c H1 locs LS C (hw.add (Nat.le_trans hgs (by omega)) (by omega) (fun q hq => o1 q (by omega)) (by show H1[n]? = _; rw [e1]; rfl)) ⟨by omega, fun x h1 h2 => (o1 x (by omega)).trans (hS.2.1 x h1 h2), hS.2.2⟩ hl
theorem v_newZ {n : Nat} {x : Int32} {K : Nat} (hd : decode μ.2.1 pc = .ok (.newarray .boolean, 2)) (w : Cond.arrayClass .boolean ∈ TB) (h0 : ¬ x < 0) (hK : x.toNatClampNeg = K) (hb : K ≤ 100000) (hc : cells + 1 ≤ ρ.2.2.2.1) (hs : slots + K ≤ ρ.2.2.2.2) (k : V l g sc μ d ρ (pc + 2) ls (.ref n :: st) (hup f n (.inl (2, (K, .inl (fun _ => 0))))) (some (n + 1)) (cells + 1) (slots + K)) : V l g sc μ d ρ pc ls (.int x :: st) f (some n) cells slots := by
  intro p e R s m args below meth c H locs LS C hw hS hl
  have ok := C.2.2.2.2.1
  have hn := hw.2 n rfl
  have hgs : g.2.2 ≤ s.heap.size := C.2.2.2.2.2.2.2.2.2.2.2.2.2.2.2.2.2
  have hkc : ρ.2.2.2.1 ≤ R.cells := C.2.2.2.2.2.2.2.2.2.2.2.2.2.2.2.1
  have hks : ρ.2.2.2.2 ≤ R.slots := C.2.2.2.2.2.2.2.2.2.2.2.2.2.2.2.2.1
  have hS1 := hS.1
  refine va_newaK (atype := .boolean) C.1 C.2.1 (ok _ w) rfl hd rfl h0 hK (by show K * 1 ≤ 536870912; omega) (by omega) (by omega) hn fun H1 cA e1 z1 o1 hAr hNm => ?_
  have hra := (C.2.2.2.2.2.2.2.2.2.1.1.2 2 _ rfl).2
  have ecA : cA = g.2.1 2 := Option.some.inj (hNm.symm.trans hra)
  subst ecA
  exact k p e R s m args below meth c H1 locs LS C (hw.add (Nat.le_trans hgs (by omega)) (by omega) (fun q hq => o1 q (by omega)) (by show H1[n]? = _; rw [e1]; rfl)) ⟨by omega, fun x h1 h2 => (o1 x (by omega)).trans (hS.2.1 x h1 h2), hS.2.2⟩ hl
theorem v_newF {n idx : Nat} {x : Int32} {K : Nat} (hd : decode μ.2.1 pc = .ok (.anewarray idx, 3)) (w1 : Cond.classLink μ.1 idx "FormFields$Field" ∈ TB) (h0 : ¬ x < 0) (hK : x.toNatClampNeg = K) (hb : K ≤ 100000) (hc : cells + 1 ≤ ρ.2.2.2.1) (hs : slots + K ≤ ρ.2.2.2.2) (k : V l g sc μ d ρ (pc + 3) ls (.ref n :: st) (hup f n (.inl (3, (K, .inr (.inr (.inr (.inr (fun _ => none)))))))) (some (n + 1)) (cells + 1) (slots + K)) : V l g sc μ d ρ pc ls (.int x :: st) f (some n) cells slots := by
  intro p e R s m args below meth c H locs LS C hw hS hl
  subst hK
  have ok := C.2.2.2.2.1
  have hn := hw.2 n rfl
  have hgs : g.2.2 ≤ s.heap.size := C.2.2.2.2.2.2.2.2.2.2.2.2.2.2.2.2.2
  have hkc : ρ.2.2.2.1 ≤ R.cells := C.2.2.2.2.2.2.2.2.2.2.2.2.2.2.2.1
  have hks : ρ.2.2.2.2 ≤ R.slots := C.2.2.2.2.2.2.2.2.2.2.2.2.2.2.2.2.1
  have hS1 := hS.1
  intro T hT X
  obtain ⟨vm₁, cA, kA, comp, -, fA, -, -, -, X', stp⟩ := Stand.anewarrayRef X C.1 (own := μ.1) (C := "FormFields$Field") (index := idx) C.2.2.2.1 (ok _ w1) C.2.2.2.2.2.2.2.2.2.1.2.2.2.1 (g := F0 m pc LS (.int x :: st)) rfl (by rw [C.2.1]; exact hd) (n := x) (rest := st) rfl h0 (by omega) (by omega) (by omega)
  obtain ⟨-, -, -, -, -, fA2⟩ := (C.2.2.2.2.2.2.2.2.2.1.1.2 3 _ rfl).2
  have ecA : cA = g.2.1 3 := Option.some.inj (fA.symm.trans fA2)
  subst ecA
  have hTs : T.heap.size = n := by rw [hT]; exact hn
  have hsz1 : ((T.setVm vm₁).pushCell { cls := g.2.1 3, slots := Array.replicate x.toNatClampNeg .null, vm := .none }).heap.size = H.size + 1 := by
    rw [size_pushCell]; show T.heap.size + 1 = _; rw [hT]
  have hold : ∀ q : Nat, q < H.size → ((T.setVm vm₁).pushCell { cls := g.2.1 3, slots := Array.replicate x.toNatClampNeg .null, vm := .none }).heap[q]? = H[q]? := fun q hq => by
    rw [State.heap_pushCell_of_lt _ _ (show q < (T.setVm vm₁).heap.size by show q < T.heap.size; rw [hT]; exact hq)]
    show T.heap[q]? = _
    rw [hT]
  have hnew : ((T.setVm vm₁).pushCell { cls := g.2.1 3, slots := Array.replicate x.toNatClampNeg .null, vm := .none }).heap[n]? = some (vp_cell (g.2.1 3) (x.toNatClampNeg, .inr (.inr (.inr (.inr (fun _ => none)))))) := by
    have h9 := State.heap_pushCell_size (T.setVm vm₁) { cls := g.2.1 3, slots := Array.replicate x.toNatClampNeg .null, vm := .none }
    have h8 : (T.setVm vm₁).heap.size = n := hTs
    rw [h8] at h9
    rw [h9, vp_cell_q]
    congr 1
    exact arrV_new _ _ _
  obtain ⟨t2, a1, b1⟩ := k p e R s m args below meth c _ locs LS C (hw.add (Nat.le_trans hgs (by omega)) hsz1 hold hnew) ⟨by omega, fun x h1 h2 => (hold x (by omega)).trans (hS.2.1 x h1 h2), hS.2.2⟩ hl _ rfl X'
  refine ⟨t2, stp t2 ?_, b1⟩
  rw [hTs]
  exact a1
end RA
