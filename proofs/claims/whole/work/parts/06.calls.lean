/-! CALLS, RETURNS, THROWS of V -/
theorem Env9.warm {g : GT} {s U : State} (hW : s.WarmedH U.vm) (h : Env9 g s) : Env9 g U := ⟨va_K.moved hW.alike h.1, fun w hw => nb_warm hw hW (h.2.1 w hw), fun q hq => va_Nc.moved hW.alike (h.2.2.1 q hq), AO9.moved hW.alike h.2.2.2⟩
theorem Env9.same {g : GT} {s U : State} (hv : s.vm = U.vm) (h : Env9 g s) : Env9 g U := ⟨va_K.moved (by rw [← hv]; exact Vm.Alike.refl _) h.1, fun w hw => va_Nw.same (nb_tab hw) hv (h.2.1 w hw), fun q hq => va_Nc.moved (by rw [← hv]; exact Vm.Alike.refl _) (h.2.2.1 q hq), AO9.moved (by rw [← hv]; exact Vm.Alike.refl _) h.2.2.2⟩
theorem Pre9.blind {l : Launch} {g : GT} {As : List Value} {f : HF} {sz : Option Nat} : FrameBlind (va_Pc As (Pre9 l g f sz)) := by
  intro a U fr mk q
  obtain ⟨q0, q1, q2, ⟨q3, q4⟩, q5, q6⟩ := q
  exact ⟨q0, q1, Env9.same (s := U) (U := U.calling fr mk a) rfl q2, ⟨vx_Zq.moved (u := U) (U := U.calling fr mk a) (Vm.Alike.refl U.vm) q3, vx_Zq.moved (u := U) (U := U.calling fr mk a) (Vm.Alike.refl U.vm) q4⟩, q5, q6⟩
section RC
variable {l : Launch} {g : GT} {sc : State → Prop} {μ : MT} {d : Nat} {ρ : RT} {pc : Nat} {ls ls1 : List (Nat × Value)} {st rest : List Value} {f f1 : HF} {sz sz1 : Option Nat} {cells slots : Nat}
variable {p : Program} {e : Env} {R : Room} {s : State} {m : MethodId} {args : Array Value} {below : List Frame} {meth : Method} {c : Code} {H : Heap} {locs : List Loc} {LS : Array Slot} {Q : State → Prop}
/-- the caller's picture meets the callee's start -/
theorem pre_S {As : List Value} (C : Cx l g sc μ d ρ p R s m args meth c) (hw : Wst g f sz H) (hS : va_S (A9 g) s.heap H locs) : PreS s H (va_Pc As (Pre9 l g f sz)) As := by
  refine ⟨Pre9.blind, fun U hU hW => ?_⟩
  obtain ⟨-, -, -, -, -, -, -, -, -, hE, ⟨hZ1, hZ2⟩, hnt, -, -, -, -, -, hsz⟩ := C
  refine ⟨rfl, hnt, Env9.warm hW hE, ⟨?_, ?_⟩, by rw [hU]; exact hw, by rw [hU]; exact Nat.le_trans hsz hS.1⟩
  · rw [hU]; exact vx_Zq.moved hW.alike (hZ1.kept hS.2.1)
  · rw [hU]; exact vx_Zq.moved hW.alike (hZ2.kept hS.2.1)
theorem w_back {r : Rs} {v : Option Value} {k1 n1 : Nat} {a : Array Value} {st0 : List Value} (hr : vx_Run p l e R s m args below meth c H locs cells slots k1 n1 (F0 m pc LS st0) rest (Qr g (.inl v) f1 sz1 a) (Xr g (.inl v) f1) (A9 g)) (hS : va_S (A9 g) s.heap H locs)
    (kk : ∀ (H1 : Heap) (locs1 : List Loc), Wst g f1 sz1 H1 → va_S (A9 g) s.heap H1 locs1 → W p l e R s m args below meth c H1 locs1 (cells + k1) (slots + n1) Q (F0 m (pc + 3) LS (v.toList ++ rest))) : W p l e R s m args below meth c H locs cells slots Q (F0 m pc LS st0) := by
  intro T hT X
  rcases hr T hT X with ⟨v1, st₀, t, T', L, h0, X', hL, e1, e2, ⟨⟨v2, hv, ho⟩, hw1, hF⟩, stp⟩ | ⟨q, st₀, t, T', L, E, ce, h0, X', hL, e1, e2, ⟨hx, -⟩, -⟩
  · cases hv
    cases ho
    obtain ⟨-, -, k3⟩ := vx_keep h0 e1 hS (fun q _ h => h) (fun q h => h) hL hF
    obtain ⟨t2, a1, b1⟩ := kk T'.heap (locs ++ L) (by rw [e1]; exact hw1) k3 T' rfl X'
    exact ⟨t2, stp t2 a1, b1⟩
  · cases hx
theorem w_thrown {E : String} {k1 n1 : Nat} {a : Array Value} {st0 : List Value} {sz2 : Option Nat} (hr : vx_Run p l e R s m args below meth c H locs cells slots k1 n1 (F0 m pc LS st0) rest (Qr g (.inr E) f1 sz2 a) (Xr g (.inr E) f1) (A9 g)) (hS : va_S (A9 g) s.heap H locs)
    (kk : ∀ (H1 : Heap) (locs1 : List Loc) (q : Addr) (ce : Cell), Wst g f1 none H1 → va_S (A9 g) s.heap H1 locs1 → H1[q]? = some ce → ce.vm = .none → s.vm.findClass E = some ce.cls → vx_W p l e R s m args below meth c H1 locs1 (cells + k1) (slots + n1) Q (F0 m pc LS rest) q) : W p l e R s m args below meth c H locs cells slots Q (F0 m pc LS st0) := by
  intro T hT X
  rcases hr T hT X with ⟨v1, st₀, t, T', L, h0, X', hL, e1, e2, ⟨⟨v2, hv, ho⟩, hw1, hF⟩, stp⟩ | ⟨q, st₀, t, T', L, E2, ce, h0, X', hL, e1, e2, ⟨hx, hw1, hF⟩, hce, hcv, hcl, stp⟩
  · cases hv
  · cases hx
    obtain ⟨-, -, k3⟩ := vx_keep h0 e1 hS (fun q _ h => h) (fun q h => h) hL hF
    obtain ⟨t2, a1, b1⟩ := kk T'.heap (locs ++ L) q ce (by rw [e1]; exact hw1) k3 (by rw [e1]; exact hce) hcv hcl T' rfl X'
    exact ⟨t2, stp.trans a1, b1⟩
def mlV (own : String) (idx : Nat) (y : MethodName) : Prop := Cond.methodLink own idx y ∈ TB ∧ Cond.instanceMethod y ∈ TB ∧ Cond.selects y.cls y y ∈ TB ∧ Cond.initialized y.cls ∈ TB
def mlS (own : String) (idx : Nat) (y : MethodName) : Prop := Cond.methodLink own idx y ∈ TB ∧ Cond.static y ∈ TB ∧ Cond.initialized y.cls ∈ TB
def mlI (own : String) (idx : Nat) (y : MethodName) : Prop := (Cond.methodLink own idx y ∈ TB ∨ ∃ host, Cond.methodLinkNest own idx y host ∈ NB) ∧ Cond.instanceMethod y ∈ TB ∧ Cond.initialized y.cls ∈ TB ∧ y.name = "<init>"
/-- of a callee: its code word, its parameters' number, its class's number among the worlds' -/
def mOk (y : MethodName) (cc : ByteArray) (nL : Nat) (rt : Option FieldType) (n : Nat) : Prop := Cond.code y cc nL rt ∈ TB ∧ (y.cls ≠ "java/lang/invoke/MethodHandle" ∧ y.cls ≠ "java/lang/invoke/VarHandle" ∧ (parseMethodDescriptor y.desc).map (fun d => d.parameters.length) = some n) ∧ nL ≤ 45
theorem good_tb {y : MethodName} {cc : ByteArray} {nL : Nat} {rt : Option FieldType} (h : Cond.code y cc nL rt ∈ TB) : GoodIn TB (.code y cc nL rt :: TB) := fun w hw => by
  rcases List.mem_cons.mp hw with rfl | hw
  · exact ⟨h, good_of_word (List.all_eq_true.mp tb_good _ h)⟩
  · exact ⟨hw, good_of_word (List.all_eq_true.mp tb_good _ hw)⟩
theorem roomy {nL d1 : Nat} (hd : d1 + 1 ≤ d) (hn : nL ≤ 45) (C : Cx l g sc μ d ρ p R s m args meth c) : d1 + 1 ≤ R.frames ∧ 8 + (nL + 11) + 64 * d1 ≤ R.locals := by
  obtain ⟨-, -, -, -, -, -, -, -, -, -, -, -, -, h1, h2, -⟩ := C
  constructor <;> omega
theorem run_V {y : MethodName} {cc : ByteArray} {nL idx n d1 ci : Nat} {rt : Option FieldType} {b : Nat} {As : List Value} {ρ1 : RT} {u : Unit} (C : Cx l g sc μ d ρ p R s m args meth c) (hw : Wst g f sz H) (hS : va_S (A9 g) s.heap H locs) (hl : lv_has LS μ.2.2.1 ls)
    (hd : decode μ.2.1 pc = .ok (.invokevirtual idx, 3)) (ML : mlV μ.1 idx y) (hm : mOk y cc nL rt n) (hM : Mt l g y cc nL rt d1 (.ref b :: As) f sz ρ1) (hck : ck f b ci = some u) (hci : (cl9[ci]?).map (fun r => r.1) = some y.cls) (hd1 : d1 + 1 ≤ d) (hn : As.length = n) (hst : st = As.reverse ++ .ref b :: rest) (hrm : (rest.map fun v => v.category).sum ≤ 8) (hk : cells + ρ1.2.2.2.1 ≤ ρ.2.2.2.1 ∧ slots + ρ1.2.2.2.2 ≤ ρ.2.2.2.2) :
    vx_Run p l e R s m args below meth c H locs cells slots ρ1.2.2.2.1 ρ1.2.2.2.2 (F0 m pc LS st) rest (Qr g ρ1.1 ρ1.2.1 ρ1.2.2.1 (Value.ref b :: As).toArray) (Xr g ρ1.1 ρ1.2.1) (A9 g) := by
  obtain ⟨fs, hf⟩ := ck_some hck
  obtain ⟨hA, hat⟩ := hw.1 b _ hf
  obtain ⟨r, hr, cell, q1, q2, q3, -⟩ := hat
  have hr9 : cl9[ci]? = some r := hr
  rw [hr9] at hci
  have hcn : r.1 = y.cls := Option.some.inj hci
  have hfc := (C.2.2.2.2.2.2.2.2.2.1.1.1 ci r hr9).2.1
  rw [hcn] at hfc
  have ok := C.2.2.2.2.1
  obtain ⟨m1, m2, m3, m4⟩ := ML
  obtain ⟨c1, c2, c3⟩ := hm
  have hp := pre_S (As := .ref b :: As) C hw hS
  refine vx_runV (Ts := TB) ⟨C.1, C.2.1, C.2.2.1, C.2.2.2.1, ok⟩ hM (C := y.cls) ⟨callB_of n ok (good_tb c1) rfl rfl rfl (ok _ m4) (ok _ m1) c2 (roomy hd1 c3 C), ok _ m2, ok _ m3⟩ ⟨hp.1, ⟨cell, q1, by rw [q3]; rfl, by rw [q2]; exact hfc⟩, hp.2⟩ rfl hn hl.1 hst (lv_room hrm) hd ?_
  obtain ⟨-, -, -, -, -, -, -, -, -, -, -, -, -, -, -, h1, h2, -⟩ := C
  constructor <;> omega
theorem run_S {y : MethodName} {cc : ByteArray} {nL idx n d1 : Nat} {rt : Option FieldType} {As : List Value} {ρ1 : RT} (C : Cx l g sc μ d ρ p R s m args meth c) (hw : Wst g f sz H) (hS : va_S (A9 g) s.heap H locs) (hl : lv_has LS μ.2.2.1 ls)
    (hd : decode μ.2.1 pc = .ok (.invokestatic idx, 3)) (ML : mlS μ.1 idx y) (hm : mOk y cc nL rt n) (hM : Mt l g y cc nL rt d1 As f sz ρ1) (hd1 : d1 + 1 ≤ d) (hn : As.length = n) (hst : st = As.reverse ++ rest) (hrm : (rest.map fun v => v.category).sum ≤ 8) (hk : cells + ρ1.2.2.2.1 ≤ ρ.2.2.2.1 ∧ slots + ρ1.2.2.2.2 ≤ ρ.2.2.2.2) :
    vx_Run p l e R s m args below meth c H locs cells slots ρ1.2.2.2.1 ρ1.2.2.2.2 (F0 m pc LS st) rest (Qr g ρ1.1 ρ1.2.1 ρ1.2.2.1 As.toArray) (Xr g ρ1.1 ρ1.2.1) (A9 g) := by
  have ok := C.2.2.2.2.1
  obtain ⟨m1, m2, m3⟩ := ML
  obtain ⟨c1, c2, c3⟩ := hm
  refine vx_runS (Ts := TB) ⟨C.1, C.2.1, C.2.2.1, C.2.2.2.1, ok⟩ hM ⟨callB_of n ok (good_tb c1) rfl rfl rfl (ok _ m3) (ok _ m1) c2 (roomy hd1 c3 C), ok _ m2⟩ (pre_S C hw hS) rfl hn hl.1 hst (lv_room hrm) hd ?_
  obtain ⟨-, -, -, -, -, -, -, -, -, -, -, -, -, -, -, h1, h2, -⟩ := C
  constructor <;> omega
/-- a virtual call that returns -/
theorem v_callV {y : MethodName} {cc : ByteArray} {nL idx n d1 ci : Nat} {rt : Option FieldType} {b : Nat} {As : List Value} {v : Option Value} {k1 n1 : Nat} {u : Unit} (hd : decode μ.2.1 pc = .ok (.invokevirtual idx, 3)) (ML : mlV μ.1 idx y) (hm : mOk y cc nL rt n) (hM : Mt l g y cc nL rt d1 (.ref b :: As) f sz (.inl v, f1, sz1, k1, n1)) (hck : ck f b ci = some u) (hci : (cl9[ci]?).map (fun r => r.1) = some y.cls) (hd1 : d1 + 1 ≤ d) (hn : As.length = n) (hst : st = As.reverse ++ .ref b :: rest) (hrm : (rest.map fun v => v.category).sum ≤ 8) (hk : cells + k1 ≤ ρ.2.2.2.1 ∧ slots + n1 ≤ ρ.2.2.2.2)
    (k : V l g sc μ d ρ (pc + 3) ls (v.toList ++ rest) f1 sz1 (cells + k1) (slots + n1)) : V l g sc μ d ρ pc ls st f sz cells slots := by
  intro p e R s m args below meth c H locs LS C hw hS hl
  exact w_back (r := .inl v) (run_V C hw hS hl hd ML hm hM hck hci hd1 hn hst hrm hk) hS (fun H1 locs1 hw1 hS1 => k p e R s m args below meth c H1 locs1 LS C hw1 hS1 hl)
theorem v_callS {y : MethodName} {cc : ByteArray} {nL idx n d1 : Nat} {rt : Option FieldType} {As : List Value} {v : Option Value} {k1 n1 : Nat} (hd : decode μ.2.1 pc = .ok (.invokestatic idx, 3)) (ML : mlS μ.1 idx y) (hm : mOk y cc nL rt n) (hM : Mt l g y cc nL rt d1 As f sz (.inl v, f1, sz1, k1, n1)) (hd1 : d1 + 1 ≤ d) (hn : As.length = n) (hst : st = As.reverse ++ rest) (hrm : (rest.map fun v => v.category).sum ≤ 8) (hk : cells + k1 ≤ ρ.2.2.2.1 ∧ slots + n1 ≤ ρ.2.2.2.2)
    (k : V l g sc μ d ρ (pc + 3) ls (v.toList ++ rest) f1 sz1 (cells + k1) (slots + n1)) : V l g sc μ d ρ pc ls st f sz cells slots := by
  intro p e R s m args below meth c H locs LS C hw hS hl
  exact w_back (r := .inl v) (run_S C hw hS hl hd ML hm hM hd1 hn hst hrm hk) hS (fun H1 locs1 hw1 hS1 => k p e R s m args below meth c H1 locs1 LS C hw1 hS1 hl)
theorem va_F_of {A : Nat → Prop} {s t : State} {H : Heap} {locs : List Loc} (hS : va_S A s.heap H locs) (ht : t.heap = H) : va_F A s t := ⟨by rw [ht]; exact hS.1, fun q h1 h2 => by rw [ht]; exact hS.2.1 q h1 h2⟩
/-- a call that throws, in a method without handlers: it goes on -/
theorem w_on {E : String} (C : Cx l g sc μ d ρ p R s m args meth c) (hh : μ.2.2.2.2.1 = []) (hr : ρ.1 = .inr E) (hf1 : ρ.2.1 = f1) (hS : va_S (A9 g) s.heap H locs) (hw : Wst g f1 none H) {q : Addr} {ce : Cell} (hc : H[q]? = some ce) (hv : ce.vm = .none) (hcl : s.vm.findClass E = some ce.cls) (hk : cells ≤ ρ.2.2.2.1 ∧ slots ≤ ρ.2.2.2.2) : vx_W p l e R s m args below meth c H locs cells slots (ZQ g ρ below args s) (F0 m pc LS rest) q := by
  have htab : c.exceptionTable.toList = tableOf μ.2.2.2.2.1 := C.2.2.2.2.2.2.2.1
  rw [hh] at htab
  exact vx_out (fun x hx => by rw [htab] at hx; cases hx) C.2.2.2.2.2.1 hc hv hcl (fun t ht _ => ⟨hr, by rw [ht, hf1]; exact hw, va_F_of hS ht⟩) hS.2.2 hk.1 hk.2
theorem v_callVx {y : MethodName} {cc : ByteArray} {nL idx n d1 ci : Nat} {rt : Option FieldType} {b : Nat} {As : List Value} {E : String} {k1 n1 : Nat} {u : Unit} (hd : decode μ.2.1 pc = .ok (.invokevirtual idx, 3)) (ML : mlV μ.1 idx y) (hm : mOk y cc nL rt n) (hM : Mt l g y cc nL rt d1 (.ref b :: As) f sz (.inr E, f1, sz1, k1, n1)) (hck : ck f b ci = some u) (hci : (cl9[ci]?).map (fun r => r.1) = some y.cls) (hd1 : d1 + 1 ≤ d) (hn : As.length = n) (hst : st = As.reverse ++ .ref b :: rest) (hrm : (rest.map fun v => v.category).sum ≤ 8) (hk : cells + k1 ≤ ρ.2.2.2.1 ∧ slots + n1 ≤ ρ.2.2.2.2) (hh : μ.2.2.2.2.1 = []) (hr : ρ.1 = .inr E) (hf1 : ρ.2.1 = f1) : V l g sc μ d ρ pc ls st f sz cells slots := by
  intro p e R s m args below meth c H locs LS C hw hS hl
  exact w_thrown (run_V C hw hS hl hd ML hm hM hck hci hd1 hn hst hrm hk) hS (fun H1 locs1 q ce hw1 hS1 h1 h2 h3 => w_on C hh hr hf1 hS1 hw1 h1 h2 h3 hk)
/-! returns -/
theorem q_ret {v : Option Value} (hr : ρ.1 = .inl v) (hf1 : ρ.2.1 = f) (hs1 : ρ.2.2.1 = sz) (hw : Wst g f sz H) (hS : va_S (A9 g) s.heap H locs) : ∀ t : State, t.heap = H → s.WarmedH t.vm → Qr g ρ.1 ρ.2.1 ρ.2.2.1 args s (.returned v) t := fun t ht _ => ⟨⟨v, hr, rfl⟩, by rw [hf1, hs1, ht]; exact hw, va_F_of hS ht⟩
theorem v_iret {x : Int32} (hd : decode μ.2.1 pc = .ok (.ireturn, 1)) (ht : μ.2.2.2.1 = some .int) (hr : ρ = (.inl (some (.int x)), f, sz, cells, slots)) : V l g sc μ d ρ pc ls [.int x] f sz cells slots := by
  intro p e R s m args below meth c H locs LS C hw hS hl
  subst hr
  exact vx_ret (W.iret C.1 C.2.1 (C.2.2.2.2.2.2.1.trans ht) (q_ret rfl rfl rfl hw hS) hS.2.2 hd C.2.2.2.2.2.1)
theorem v_zret {x : Int32} (hd : decode μ.2.1 pc = .ok (.ireturn, 1)) (ht : μ.2.2.2.1 = some .boolean) (hx : isB x) (hr : ρ = (.inl (some (.int x)), f, sz, cells, slots)) : V l g sc μ d ρ pc ls [.int x] f sz cells slots := by
  intro p e R s m args below meth c H locs LS C hw hS hl
  subst hr
  exact vx_ret (W.zret (ty := .boolean) C.1 C.2.1 (C.2.2.2.2.2.2.1.trans ht) (by rcases hx with rfl | rfl <;> rfl) (q_ret rfl rfl rfl hw hS) hS.2.2 hd C.2.2.2.2.2.1)
theorem v_lret {x : Int64} (hd : decode μ.2.1 pc = .ok (.lreturn, 1)) (ht : μ.2.2.2.1 = some .long) (hr : ρ = (.inl (some (.long x)), f, sz, cells, slots)) : V l g sc μ d ρ pc ls [.long x] f sz cells slots := by
  intro p e R s m args below meth c H locs LS C hw hS hl
  subst hr
  exact vx_ret (W.lret C.1 C.2.1 (C.2.2.2.2.2.2.1.trans ht) (q_ret rfl rfl rfl hw hS) hS.2.2 hd C.2.2.2.2.2.1)
theorem v_aret {x : Nat} {n : String} (hd : decode μ.2.1 pc = .ok (.areturn, 1)) (ht : μ.2.2.2.1 = some (.object n)) (hr : ρ = (.inl (some (.ref x)), f, sz, cells, slots)) : V l g sc μ d ρ pc ls [.ref x] f sz cells slots := by
  intro p e R s m args below meth c H locs LS C hw hS hl
  subst hr
  exact vx_ret (W.aret C.1 C.2.1 (C.2.2.2.2.2.2.1.trans ht) (Or.inl ⟨n, rfl⟩) (Or.inr ⟨x, rfl⟩) (q_ret rfl rfl rfl hw hS) hS.2.2 hd C.2.2.2.2.2.1)
theorem v_vret (hd : decode μ.2.1 pc = .ok (.return_, 1)) (ht : μ.2.2.2.1 = none) (hr : ρ = (.inl none, f, sz, cells, slots)) : V l g sc μ d ρ pc ls [] f sz cells slots := by
  intro p e R s m args below meth c H locs LS C hw hS hl
  subst hr
  exact vx_ret (W.vret C.1 C.2.1 (C.2.2.2.2.2.2.1.trans ht) (q_ret rfl rfl rfl hw hS) hS.2.2 hd C.2.2.2.2.2.1)
/-- throw new E() -/
def thr (own : String) (ik ic : Nat) (E : String) (names : List String) : Prop := (Bundle.fit E = true ∧ ∀ n ∈ names, Bundle.fit n = true) ∧ Cond.classLink own ik E ∈ TB ∧ Cond.initialized E ∈ TB ∧ (∀ w ∈ vx_at0 own ic E names, w ∈ TB ∨ w ∈ NB) ∧ names.length ≤ 4
theorem v_throw {E : String} {names : List String} {ik ic : Nat} (d0 : decode μ.2.1 pc = .ok (.new ik, 3)) (d3 : decode μ.2.1 (pc + 3) = .ok (.dup, 1)) (d4 : decode μ.2.1 (pc + 4) = .ok (.invokespecial ic, 3)) (d7 : decode μ.2.1 (pc + 7) = .ok (.athrow, 1)) (T : thr μ.1 ik ic E names) (hd : 8 ≤ d) (hh : μ.2.2.2.2.1 = []) (hrm : (st.map fun v => v.category).sum ≤ 8) (hr : ρ = (.inr E, f, none, cells + 1, slots + 6)) : V l g sc μ d ρ pc ls st f sz cells slots := by
  intro p e R s m args below meth c H locs LS C hw hS hl
  obtain ⟨⟨t1, t2⟩, t3, t4, t5, t6⟩ := T
  subst hr
  obtain ⟨hx, hb, hml, hown, ok, hlk, hrt, htab, hnm, hE, ⟨hZ1, hZ2⟩, hnt, -, hdf, hdl, hkc, hks, hsz⟩ := C
  rw [hh] at htab
  have htw : ∀ w ∈ vx_at0 μ.1 ic E names, w.before args s = true := fun w hw9 => (t5 w hw9).elim (ok w) (fun h => va_Nw.use (nb_tab h) (hE.2.1 w h))
  have hgd : ∀ w ∈ Cond.classLink μ.1 ik E :: Cond.initialized E :: vx_at0 μ.1 ic E names, vx_ot w = true := fun w hw9 => by
    have hgo : ∀ w ∈ TB, vx_ot w = true := fun w h => by
      have h9 := List.all_eq_true.mp tb_good w h
      unfold vx_ot
      rw [h9, Bool.or_true]
    rcases List.mem_cons.mp hw9 with rfl | hw9
    · exact hgo _ t3
    rcases List.mem_cons.mp hw9 with rfl | hw9
    · exact hgo _ t4
    · rcases t5 w hw9 with h | h
      · exact hgo _ h
      · unfold vx_ot
        rw [nb_tab h, Bool.true_or]
  refine vx_throw0 hx hb hnt hown t1 t2 (ok _ t3) (ok _ t4) htw hgd hZ1 hZ2 hS (hl.1.trans hml.symm) d0 d3 d4 d7 (fun x hx => by rw [htab] at hx; cases hx) (by omega) (by omega) hkc hks hlk (fun t _ h1 h2 => ⟨rfl, ?_, ?_⟩) hS.2.2 (Nat.le_refl _) (Nat.le_refl _)
  · refine ⟨fun q e9 he => ?_, fun n hn => by cases hn⟩
    obtain ⟨a1, a2⟩ := hw.1 q e9 he
    exact ⟨a1, a2.kept (h2 q a2.lt)⟩
  · exact ⟨Nat.le_trans hS.1 h1, fun q q1 q2 => (h2 q (Nat.lt_of_lt_of_le q1 hS.1)).trans (hS.2.1 q q1 q2)⟩
/-- a contract out of a walk from the entry -/
theorem mt_of {y : MethodName} {cc : ByteArray} {nL : Nat} {rt : Option FieldType} {As : List Value} (hy : plainName y.cls = true) (hlen : (lg_sl As).length ≤ nL)
    (hV : V l g (fun _ => True) (y.cls, cc, nL, rt, [], y.name) d ρ 0 (lv_args 0 As) [] f sz 0 0) : Mt l g y cc nL rt d As f sz ρ := by
  refine vx_ofW (cc := cc) (maxL := nL) (ret := rt) hy rfl ?_
  intro p e s m args below meth c s₁ B hml htab hv
  obtain ⟨rfl, hnt, hE, hSt, hw, hsz⟩ := hv
  have hts := atoms_spec (ws := .code y cc nL rt :: TB) B.pre
  have hl := lv_entry As (n := nL) hlen
  rw [lg_entry_eq]
  refine hV p e _ s m _ below meth c s.heap [] _ ⟨B.exec, B.bytes, hml, findClass_of_methodNamed B.named, fun w hw => hts w (List.mem_cons_of_mem _ hw), B.notSynchronized, B.returns, ?_, (name_of_methodNamed B.named B.method).1, hE, hSt, hnt, trivial, Nat.le_refl _, Nat.le_refl _, Nat.le_refl _, Nat.le_refl _, hsz⟩ hw va_S.rf hl
  cases h : c.exceptionTable.toList with
  | nil => rfl
  | cons x t => exact (htab x (by rw [h]; exact List.mem_cons_self)).elim
end RC
