/-! METHODS WITH HANDLERS, AND THE LAW'S OWN ROWS -/
def MtX (l : Launch) (g : GT) (y : MethodName) (cc : ByteArray) (nL : Nat) (rt : Option FieldType) (hh : List (Nat × Nat × Nat × Nat)) (d : Nat) (As : List Value) (f : HF) (sz : Option Nat) (ρ : RT) : Prop :=
  vx_Met l y (.codeWith y cc nL rt hh :: TB) { frames := d, cells := ρ.2.2.2.1, slots := ρ.2.2.2.2, locals := 64 * d } (va_Pc As (Pre9 l g f sz)) (Qr g ρ.1 ρ.2.1 ρ.2.2.1) (Xr g ρ.1 ρ.2.1) ρ.2.2.2.1 ρ.2.2.2.2 (A9 g)
def mOkX (y : MethodName) (cc : ByteArray) (nL : Nat) (rt : Option FieldType) (hh : List (Nat × Nat × Nat × Nat)) (n : Nat) : Prop := Cond.codeWith y cc nL rt hh ∈ TB ∧ (y.cls ≠ "java/lang/invoke/MethodHandle" ∧ y.cls ≠ "java/lang/invoke/VarHandle" ∧ (parseMethodDescriptor y.desc).map (fun d => d.parameters.length) = some n) ∧ nL ≤ 45
theorem Wst.none {g : GT} {f : HF} {sz : Option Nat} {H : Heap} (h : Wst g f sz H) : Wst g f none H := ⟨h.1, fun _ q => by cases q⟩
section RX
variable {l : Launch} {g : GT} {sc : State → Prop} {μ : MT} {d : Nat} {ρ : RT} {pc : Nat} {ls ls1 : List (Nat × Value)} {st rest : List Value} {f f1 : HF} {sz sz1 : Option Nat} {cells slots : Nat}
theorem v_szn (k : V l g sc μ d ρ pc ls st f none cells slots) : V l g sc μ d ρ pc ls st f sz cells slots := by
  intro p e R s m args below meth c H locs LS C hw hS hl
  exact k p e R s m args below meth c H locs LS C hw.none hS hl
theorem v_wide {c1 s1 : Nat} (hc : cells ≤ c1) (hs : slots ≤ s1) (k : V l g sc μ d ρ pc ls st f sz c1 s1) : V l g sc μ d ρ pc ls st f sz cells slots := by
  intro p e R s m args below meth c H locs LS C hw hS hl
  exact W.widen hc hs (k p e R s m args below meth c H locs LS C hw hS hl)
theorem mtx_of {y : MethodName} {cc : ByteArray} {nL : Nat} {rt : Option FieldType} {hh : List (Nat × Nat × Nat × Nat)} {As : List Value} (hy : plainName y.cls = true) (hlen : (lg_sl As).length ≤ nL)
    (hV : V l g (fun _ => True) (y.cls, cc, nL, rt, hh, y.name) d ρ 0 (lv_args 0 As) [] f sz 0 0) : MtX l g y cc nL rt hh d As f sz ρ := by
  refine vx_ofWH (cc := cc) (maxL := nL) (ret := rt) (hh := hh) hy rfl ?_
  intro p e s m args below meth c s₁ B hml hv
  obtain ⟨rfl, hnt, hE, hSt, hw, hsz⟩ := hv
  have hts := atoms_spec (ws := .codeWith y cc nL rt hh :: TB) B.pre
  have hl := lv_entry As (n := nL) hlen
  rw [lg_entry_eq]
  exact hV p e _ s m _ below meth c s.heap [] _ ⟨B.exec, B.bytes, hml, findClass_of_methodNamed B.named, fun w hw => hts w (List.mem_cons_of_mem _ hw), B.notSynchronized, B.returns, vx_table (x := y) B (hts _ List.mem_cons_self), (name_of_methodNamed B.named B.method).1, hE, hSt, hnt, trivial, Nat.le_refl _, Nat.le_refl _, Nat.le_refl _, Nat.le_refl _, hsz⟩ hw va_S.rf hl
/-- a virtual call that throws, caught by a row of this method's table -/
theorem v_catch {y : MethodName} {cc : ByteArray} {nL idx n d1 ci : Nat} {rt : Option FieldType} {b : Nat} {As : List Value} {E nm : String} {k1 n1 : Nat} {u : Unit} (hd : decode μ.2.1 pc = .ok (.invokevirtual idx, 3)) (ML : mlV μ.1 idx y) (hm : mOk y cc nL rt n) (hM : Mt l g y cc nL rt d1 (.ref b :: As) f sz (.inr E, f1, sz1, k1, n1)) (hck : ck f b ci = some u) (hci : (cl9[ci]?).map (fun r => r.1) = some y.cls) (hd1 : d1 + 1 ≤ d) (hn : As.length = n) (hst : st = As.reverse ++ .ref b :: rest) (hrm : (rest.map fun v => v.category).sum ≤ 8) (hk : cells + k1 ≤ ρ.2.2.2.1 ∧ slots + n1 ≤ ρ.2.2.2.2)
    (pre : List ExceptionTableEntry) (x : ExceptionTableEntry) (suf : List ExceptionTableEntry) (hsplit : tableOf μ.2.2.2.2.1 = pre ++ x :: suf) (hpass : ∀ z ∈ pre, z.catchType ≠ 0 ∧ ∃ nm, Cond.classLink μ.1 z.catchType nm ∈ TB ∧ (E, nm) ∈ NCP) (hx : covers x pc = true) (h0 : x.catchType ≠ 0) (hlink : Cond.classLink μ.1 x.catchType nm ∈ TB) (hcast : Cond.castable E nm ∈ NB)
    (k : ∀ q : Nat, V l g sc μ d ρ x.handlerPc ls [.ref q] f1 none (cells + k1) (slots + n1)) : V l g sc μ d ρ pc ls st f sz cells slots := by
  intro p e R s m args below meth c H locs LS C hw hS hl
  have ok := C.2.2.2.2.1
  have hE := C.2.2.2.2.2.2.2.2.2.1
  refine w_thrown (run_V C hw hS hl hd ML hm hM hck hci hd1 hn hst hrm hk) hS (fun H1 locs1 q ce hw1 hS1 h1 h2 h3 => ?_)
  exact vx_catch C.2.2.2.1 pre x suf (C.2.2.2.2.2.2.2.1.trans hsplit) (fun z hz => by
    obtain ⟨z0, nm9, z1, z2⟩ := hpass z hz
    exact Or.inr ⟨z0, nm9, ok _ z1, hE.2.2.1 _ z2⟩) hx h0 (ok _ hlink) (va_Nw.use (nb_tab hcast) (hE.2.1 _ hcast)) h1 h2 h3 (k q p e R s m args below meth c H1 locs1 LS C hw1 hS1 hl)
theorem good_tbX {y : MethodName} {cc : ByteArray} {nL : Nat} {rt : Option FieldType} {hh : List (Nat × Nat × Nat × Nat)} (h : Cond.codeWith y cc nL rt hh ∈ TB) : GoodIn TB (.codeWith y cc nL rt hh :: TB) := fun w hw => by
  rcases List.mem_cons.mp hw with rfl | hw
  · exact ⟨h, good_of_word (List.all_eq_true.mp tb_good _ h)⟩
  · exact ⟨hw, good_of_word (List.all_eq_true.mp tb_good _ hw)⟩
/-- a static call of a method with handlers, which returns -/
theorem v_callSX {y : MethodName} {cc : ByteArray} {nL idx n d1 : Nat} {rt : Option FieldType} {hh : List (Nat × Nat × Nat × Nat)} {As : List Value} {v : Option Value} {k1 n1 : Nat} (hd : decode μ.2.1 pc = .ok (.invokestatic idx, 3)) (ML : mlS μ.1 idx y) (hm : mOkX y cc nL rt hh n) (hM : MtX l g y cc nL rt hh d1 As f sz (.inl v, f1, sz1, k1, n1)) (hd1 : d1 + 1 ≤ d) (hn : As.length = n) (hst : st = As.reverse ++ rest) (hrm : (rest.map fun v => v.category).sum ≤ 8) (hk : cells + k1 ≤ ρ.2.2.2.1 ∧ slots + n1 ≤ ρ.2.2.2.2)
    (k : V l g sc μ d ρ (pc + 3) ls (v.toList ++ rest) f1 sz1 (cells + k1) (slots + n1)) : V l g sc μ d ρ pc ls st f sz cells slots := by
  intro p e R s m args below meth c H locs LS C hw hS hl
  have ok := C.2.2.2.2.1
  obtain ⟨m1, m2, m3⟩ := ML
  obtain ⟨c1, c2, c3⟩ := hm
  have hkc : ρ.2.2.2.1 ≤ R.cells := C.2.2.2.2.2.2.2.2.2.2.2.2.2.2.2.1
  have hks : ρ.2.2.2.2 ≤ R.slots := C.2.2.2.2.2.2.2.2.2.2.2.2.2.2.2.2.1
  have hG : GoodIn TB (va_wsS μ.1 idx y (.codeWith y cc nL rt hh :: TB)) := fun w hw9 => by
    unfold va_wsS at hw9
    rcases List.mem_append.mp hw9 with h | h
    · have hmem : w ∈ TB := by
        rcases List.mem_cons.mp h with rfl | h
        · exact m1
        rcases List.mem_cons.mp h with rfl | h
        · exact m2
        rcases List.mem_cons.mp h with rfl | h
        · exact m3
        · cases h
      exact ⟨hmem, good_of_word (List.all_eq_true.mp tb_good _ hmem)⟩
    · exact good_tbX c1 w h
  exact w_back (r := .inl v) (vx_runSX (Ts := TB) (hh := hh) ⟨C.1, C.2.1, C.2.2.1, C.2.2.2.1, ok⟩ hM (vx_cwSW n ok hG rfl rfl rfl c2 (roomy hd1 c3 C)) (pre_S C hw hS) rfl hn hl.1 hst (lv_room hrm) hd ⟨Nat.le_trans hk.1 hkc, Nat.le_trans hk.2 hks⟩) hS (fun H1 locs1 hw1 hS1 => k p e R s m args below meth c H1 locs1 LS C hw1 hS1 hl)
theorem v_iretW {x : Int32} (hd : decode μ.2.1 pc = .ok (.ireturn, 1)) (ht : μ.2.2.2.1 = some .int) {K S : Nat} (hr : ρ = (.inl (some (.int x)), f, none, K, S)) (hc : cells ≤ K) (hs : slots ≤ S) : V l g sc μ d ρ pc ls [.int x] f sz cells slots := by
  subst hr
  exact v_wide hc hs (v_szn (v_iret hd ht rfl))
theorem v_zretW {x : Int32} (hd : decode μ.2.1 pc = .ok (.ireturn, 1)) (ht : μ.2.2.2.1 = some .boolean) (hB : isB x) {K S : Nat} (hr : ρ = (.inl (some (.int x)), f, none, K, S)) (hc : cells ≤ K) (hs : slots ≤ S) : V l g sc μ d ρ pc ls [.int x] f sz cells slots := by
  subst hr
  exact v_wide hc hs (v_szn (v_zret hd ht hB rfl))
/-- the script -/
def Scr (g : GT) (b L : Nat) (xs : Nat → Int32) (s : State) : Prop := va_X b L xs s s.heap ∧ b < s.heap.size ∧ ¬ A9 g b
def xsI (L : Nat) (xs : Nat → Int32) (i : Int32) : Option Int32 := if ¬ i < 0 ∧ i.toNatClampNeg < L then some (xs i.toNatClampNeg) else none
theorem v_sld {b L : Nat} {xs : Nat → Int32} {i x : Int32} (hd : decode μ.2.1 pc = .ok (.iaload, 1)) (h : xsI L xs i = some x) (k : V l g (Scr g b L xs) μ d ρ (pc + 1) ls (.int x :: st) f sz cells slots) : V l g (Scr g b L xs) μ d ρ pc ls (.int i :: .ref b :: st) f sz cells slots := by
  intro p e R s m args below meth c H locs LS C hw hS hl
  obtain ⟨h1, h2⟩ := if_some h
  cases h2
  obtain ⟨s1, s2, s3⟩ : Scr g b L xs s := C.2.2.2.2.2.2.2.2.2.2.2.2.1
  exact va_sld C.1 C.2.1 s1 s2 s3 hS (fun q => q.elim h1.1 (fun q => absurd h1.2 (Nat.not_lt.mpr q))) hd (k p e R s m args below meth c H locs LS C hw hS hl)
theorem v_slen {b L : Nat} {xs : Nat → Int32} (hd : decode μ.2.1 pc = .ok (.arraylength, 1)) (k : V l g (Scr g b L xs) μ d ρ (pc + 1) ls (.int (nI L) :: st) f sz cells slots) : V l g (Scr g b L xs) μ d ρ pc ls (.ref b :: st) f sz cells slots := by
  intro p e R s m args below meth c H locs LS C hw hS hl
  obtain ⟨s1, s2, s3⟩ : Scr g b L xs s := C.2.2.2.2.2.2.2.2.2.2.2.2.1
  exact va_slen C.1 C.2.1 s1 s2 s3 hS hd (k p e R s m args below meth c H locs LS C hw hS hl)
end RX
section RY
variable {l : Launch} {g : GT} {sc : State → Prop} {μ : MT} {d : Nat} {ρ : RT} {pc : Nat} {ls ls1 : List (Nat × Value)} {st rest : List Value} {f f1 : HF} {sz sz1 : Option Nat} {cells slots : Nat} {y : MethodName} {cc : ByteArray} {nL idx n d1 ci : Nat} {rt : Option FieldType} {b : Nat} {As : List Value} {u : Unit}
theorem v_gVI {x : Int32} (hd : decode μ.2.1 pc = .ok (.invokevirtual idx, 3)) (ML : mlV μ.1 idx y) (hm : mOk y cc nL rt n) (hM : Mt l g y cc nL rt d1 (.ref b :: As) f sz (.inl (some (.int x)), f1, sz, 0, 0)) (hck : ck f b ci = some u) (hci : (cl9[ci]?).map (fun r => r.1) = some y.cls) (hd1 : d1 + 1 ≤ d) (hn : As.length = n) (hst : st = As.reverse ++ .ref b :: rest) (hrm : (rest.map fun v => v.category).sum ≤ 8) (hk : cells ≤ ρ.2.2.2.1 ∧ slots ≤ ρ.2.2.2.2) (k : V l g sc μ d ρ (pc + 3) ls (.int x :: rest) f1 sz cells slots) : V l g sc μ d ρ pc ls st f sz cells slots := v_callV hd ML hm hM hck hci hd1 hn hst hrm hk k
theorem v_gVU (hd : decode μ.2.1 pc = .ok (.invokevirtual idx, 3)) (ML : mlV μ.1 idx y) (hm : mOk y cc nL rt n) (hM : Mt l g y cc nL rt d1 (.ref b :: As) f sz (.inl none, f1, sz, 0, 0)) (hck : ck f b ci = some u) (hci : (cl9[ci]?).map (fun r => r.1) = some y.cls) (hd1 : d1 + 1 ≤ d) (hn : As.length = n) (hst : st = As.reverse ++ .ref b :: rest) (hrm : (rest.map fun v => v.category).sum ≤ 8) (hk : cells ≤ ρ.2.2.2.1 ∧ slots ≤ ρ.2.2.2.2) (k : V l g sc μ d ρ (pc + 3) ls rest f1 sz cells slots) : V l g sc μ d ρ pc ls st f sz cells slots := v_callV hd ML hm hM hck hci hd1 hn hst hrm hk k
theorem v_gSX {hh : List (Nat × Nat × Nat × Nat)} {x : Int32} (hd : decode μ.2.1 pc = .ok (.invokestatic idx, 3)) (ML : mlS μ.1 idx y) (hm : mOkX y cc nL rt hh n) (hM : MtX l g y cc nL rt hh d1 As f sz (.inl (some (.int x)), f1, none, 1, 6)) (hd1 : d1 + 1 ≤ d) (hn : As.length = n) (hst : st = As.reverse ++ rest) (hrm : (rest.map fun v => v.category).sum ≤ 8) (hk : cells + 1 ≤ ρ.2.2.2.1 ∧ slots + 6 ≤ ρ.2.2.2.2) (k : V l g sc μ d ρ (pc + 3) ls (.int x :: rest) f1 none (cells + 1) (slots + 6)) : V l g sc μ d ρ pc ls st f sz cells slots := v_callSX hd ML hm hM hd1 hn hst hrm hk k
end RY
/-- a call that must not throw -/
def bN {τ σ : Type} (o : Option ((τ ⊕ String) × HF)) (k : τ → HF → Option σ) : Option σ := match o with
  | some (.inl x, f) => k x f
  | _ => none
theorem bN_some {τ σ : Type} {o : Option ((τ ⊕ String) × HF)} {k : τ → HF → Option σ} {r : σ} (h : bN o k = some r) : ∃ x f, o = some (.inl x, f) ∧ k x f = some r := by
  cases o with
  | none => cases h
  | some q =>
    obtain ⟨q1, q2⟩ := q
    cases q1 with
    | inl x => exact ⟨x, q2, rfl, h⟩
    | inr e => cases h
/-- a call whose throws are told by their class's name -/
def bC {τ σ : Type} (o : Option ((τ ⊕ String) × HF)) (k : τ → HF → Option σ) (kx : String → HF → Option σ) : Option σ := match o with
  | none => none
  | some (.inl x, f) => k x f
  | some (.inr e, f) => kx e f
def bCR {τ σ : Type} (o : Option (τ ⊕ String)) (k : τ → Option σ) (kx : String → Option σ) : Option σ := match o with
  | none => none
  | some (.inl x) => k x
  | some (.inr e) => kx e
theorem bC_some {τ σ : Type} {o : Option ((τ ⊕ String) × HF)} {k : τ → HF → Option σ} {kx : String → HF → Option σ} {r : σ} (h : bC o k kx = some r) : (∃ x f, o = some (.inl x, f) ∧ k x f = some r) ∨ ∃ e f, o = some (.inr e, f) ∧ kx e f = some r := by
  cases o with
  | none => cases h
  | some q =>
    obtain ⟨q1, q2⟩ := q
    cases q1 with
    | inl x => exact Or.inl ⟨x, q2, rfl, h⟩
    | inr e => exact Or.inr ⟨e, q2, rfl, h⟩
theorem bCR_some {τ σ : Type} {o : Option (τ ⊕ String)} {k : τ → Option σ} {kx : String → Option σ} {r : σ} (h : bCR o k kx = some r) : (∃ x, o = some (.inl x) ∧ k x = some r) ∨ ∃ e, o = some (.inr e) ∧ kx e = some r := by
  cases o with
  | none => cases h
  | some q =>
    cases q with
    | inl x => exact Or.inl ⟨x, rfl, h⟩
    | inr e => exact Or.inr ⟨e, rfl, h⟩
