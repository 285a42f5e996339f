/-! SHORTER FORMS, for methods that make nothing -/
def roI (r : Int32 ⊕ String) (f : HF) (sz : Option Nat) : RT := match r with
  | .inl x => (.inl (some (.int x)), f, sz, 0, 0)
  | .inr E => (.inr E, f, none, 1, 6)
def roL (r : Int64 ⊕ String) (f : HF) (sz : Option Nat) : RT := match r with
  | .inl x => (.inl (some (.long x)), f, sz, 0, 0)
  | .inr E => (.inr E, f, none, 1, 6)
def roR (r : Nat ⊕ String) (f : HF) (sz : Option Nat) : RT := match r with
  | .inl x => (.inl (some (.ref x)), f, sz, 0, 0)
  | .inr E => (.inr E, f, none, 1, 6)
def roU (r : Unit ⊕ String) (f : HF) (sz : Option Nat) : RT := match r with
  | .inl _ => (.inl none, f, sz, 0, 0)
  | .inr E => (.inr E, f, none, 1, 6)
/-! going on behind a call that may throw -/
def bRT {τ σ : Type} (o : Option (τ ⊕ String)) (k : τ → Option (σ ⊕ String)) : Option (σ ⊕ String) := match o with
  | none => none
  | some (.inl x) => k x
  | some (.inr e) => some (.inr e)
def bRW {τ σ : Type} (o : Option (τ ⊕ String)) (f : HF) (k : τ → Option ((σ ⊕ String) × HF)) : Option ((σ ⊕ String) × HF) := match o with
  | none => none
  | some (.inl x) => k x
  | some (.inr e) => some (.inr e, f)
def bWW {τ σ : Type} (o : Option ((τ ⊕ String) × HF)) (k : τ → HF → Option ((σ ⊕ String) × HF)) : Option ((σ ⊕ String) × HF) := match o with
  | none => none
  | some (.inl x, f) => k x f
  | some (.inr e, f) => some (.inr e, f)
theorem bRT_some {τ σ : Type} {o : Option (τ ⊕ String)} {k : τ → Option (σ ⊕ String)} {r : σ ⊕ String} (h : bRT o k = some r) : (∃ x, o = some (.inl x) ∧ k x = some r) ∨ ∃ e, o = some (.inr e) ∧ r = .inr e := by
  cases o with
  | none => cases h
  | some q =>
    cases q with
    | inl x => exact Or.inl ⟨x, rfl, h⟩
    | inr e => cases h; exact Or.inr ⟨e, rfl, rfl⟩
theorem bRW_some {τ σ : Type} {o : Option (τ ⊕ String)} {f : HF} {k : τ → Option ((σ ⊕ String) × HF)} {r : (σ ⊕ String) × HF} (h : bRW o f k = some r) : (∃ x, o = some (.inl x) ∧ k x = some r) ∨ ∃ e, o = some (.inr e) ∧ r = (.inr e, f) := by
  cases o with
  | none => cases h
  | some q =>
    cases q with
    | inl x => exact Or.inl ⟨x, rfl, h⟩
    | inr e => cases h; exact Or.inr ⟨e, rfl, rfl⟩
theorem bWW_some {τ σ : Type} {o : Option ((τ ⊕ String) × HF)} {k : τ → HF → Option ((σ ⊕ String) × HF)} {r : (σ ⊕ String) × HF} (h : bWW o k = some r) : (∃ x f, o = some (.inl x, f) ∧ k x f = some r) ∨ ∃ e f, o = some (.inr e, f) ∧ r = (.inr e, f) := by
  cases o with
  | none => cases h
  | some q =>
    obtain ⟨q1, q2⟩ := q
    cases q1 with
    | inl x => exact Or.inl ⟨x, q2, rfl, h⟩
    | inr e => cases h; exact Or.inr ⟨e, q2, rfl, rfl⟩
theorem if_some {α : Type} {c : Prop} {inst : Decidable c} {x : Option α} {r : α} (h : (if c then x else none) = some r) : c ∧ x = some r := by
  by_cases e : c
  · rw [if_pos e] at h
    exact ⟨e, h⟩
  · rw [if_neg e] at h
    cases h
section RS
variable {l : Launch} {g : GT} {sc : State → Prop} {μ : MT} {d : Nat} {ρ : RT} {pc : Nat} {ls ls1 : List (Nat × Value)} {st rest : List Value} {f f1 : HF} {sz sz1 : Option Nat} {y : MethodName} {cc : ByteArray} {nL idx n d1 ci : Nat} {rt : Option FieldType} {b : Nat} {As : List Value} {u : Unit}
theorem v_aald {a t x : Nat} {i : Int32} (hd : decode μ.2.1 pc = .ok (.aaload, 1)) (ht : t = 3 ∨ t = 4) (h : aR f a t i = some x) (k : V l g sc μ d ρ (pc + 1) ls (.ref x :: st) f sz 0 0) : V l g sc μ d ρ pc ls (.int i :: .ref a :: st) f sz 0 0 := by
  intro p e R s m args below meth c H locs LS C hw hS hl
  obtain ⟨n, z, hf, hin, hz⟩ := aR_some h
  obtain ⟨hA, hat⟩ := hw.1 a _ hf
  have hlt : i.toNatClampNeg < n := Nat.not_le.mp fun q => hin (Or.inr q)
  have hK := C.2.2.2.2.2.2.2.2.2.1.1
  have kk := k p e R s m args below meth c H locs LS C hw hS hl
  have e9 : Value.ref x = va_rf (z i.toNatClampNeg) := by rw [hz]; rfl
  rw [e9] at kk
  rcases ht with rfl | rfl
  · exact W.aald (v := va_rf (z i.toNatClampNeg)) (ty := .object "FormFields$Field") C.1 C.2.1 hat ((hK.2 3 _ rfl).1 n (fun j => va_rf (z j))) rfl (fun q => by cases q) (by show ¬ (i < 0 ∨ (arrV _ _ _).slots.size ≤ _); rw [arrV_size]; exact hin) (by show (arrV _ _ _).slots[_]? = _; rw [arrV_read _ _ hlt]) rfl rfl hd kk
  · exact W.aald (v := va_rf (z i.toNatClampNeg)) (ty := .array .int) C.1 C.2.1 hat ((hK.2 4 _ rfl).1 n (fun j => va_rf (z j))) rfl (fun q => by cases q) (by show ¬ (i < 0 ∨ (arrV _ _ _).slots.size ≤ _); rw [arrV_size]; exact hin) (by show (arrV _ _ _).slots[_]? = _; rw [arrV_read _ _ hlt]) rfl rfl hd kk
theorem v_pI {idx ci k : Nat} {a : Nat} {x : Int32} (hd : decode μ.2.1 pc = .ok (.putfield idx, 3)) (F : FP μ.1 idx ci k .int) (h : pV f a ci k (.int x) = some f1) (k : V l g sc μ d ρ (pc + 3) ls st f1 sz 0 0) : V l g sc μ d ρ pc ls (.int x :: .ref a :: st) f sz 0 0 := v_putV hd F rfl rfl h k
theorem v_pL {idx ci k : Nat} {a : Nat} {x : Int64} (hd : decode μ.2.1 pc = .ok (.putfield idx, 3)) (F : FP μ.1 idx ci k .long) (h : pV f a ci k (.long x) = some f1) (k : V l g sc μ d ρ (pc + 3) ls st f1 sz 0 0) : V l g sc μ d ρ pc ls (.long x :: .ref a :: st) f sz 0 0 := v_putV hd F rfl rfl h k
theorem v_pZ {idx ci k : Nat} {a : Nat} {x : Int32} (hd : decode μ.2.1 pc = .ok (.putfield idx, 3)) (F : FP μ.1 idx ci k .boolean) (hB : isB x) (h : pV f a ci k (.int x) = some f1) (k : V l g sc μ d ρ (pc + 3) ls st f1 sz 0 0) : V l g sc μ d ρ pc ls (.int x :: .ref a :: st) f sz 0 0 := v_putV hd F (by rcases hB with rfl | rfl <;> rfl) (by rcases hB with rfl | rfl <;> rfl) h k
theorem v_cVI {x : Int32} (hd : decode μ.2.1 pc = .ok (.invokevirtual idx, 3)) (ML : mlV μ.1 idx y) (hm : mOk y cc nL rt n) (hM : Mt l g y cc nL rt d1 (.ref b :: As) f sz (.inl (some (.int x)), f1, sz, 0, 0)) (hck : ck f b ci = some u) (hci : (cl9[ci]?).map (fun r => r.1) = some y.cls) (hd1 : d1 + 1 ≤ d) (hn : As.length = n) (hst : st = As.reverse ++ .ref b :: rest) (hrm : (rest.map fun v => v.category).sum ≤ 8) (k : V l g sc μ d ρ (pc + 3) ls (.int x :: rest) f1 sz 0 0) : V l g sc μ d ρ pc ls st f sz 0 0 := v_callV hd ML hm hM hck hci hd1 hn hst hrm ⟨Nat.zero_le _, Nat.zero_le _⟩ k
theorem v_cVL {x : Int64} (hd : decode μ.2.1 pc = .ok (.invokevirtual idx, 3)) (ML : mlV μ.1 idx y) (hm : mOk y cc nL rt n) (hM : Mt l g y cc nL rt d1 (.ref b :: As) f sz (.inl (some (.long x)), f1, sz, 0, 0)) (hck : ck f b ci = some u) (hci : (cl9[ci]?).map (fun r => r.1) = some y.cls) (hd1 : d1 + 1 ≤ d) (hn : As.length = n) (hst : st = As.reverse ++ .ref b :: rest) (hrm : (rest.map fun v => v.category).sum ≤ 8) (k : V l g sc μ d ρ (pc + 3) ls (.long x :: rest) f1 sz 0 0) : V l g sc μ d ρ pc ls st f sz 0 0 := v_callV hd ML hm hM hck hci hd1 hn hst hrm ⟨Nat.zero_le _, Nat.zero_le _⟩ k
theorem v_cVR {x : Nat} (hd : decode μ.2.1 pc = .ok (.invokevirtual idx, 3)) (ML : mlV μ.1 idx y) (hm : mOk y cc nL rt n) (hM : Mt l g y cc nL rt d1 (.ref b :: As) f sz (.inl (some (.ref x)), f1, sz, 0, 0)) (hck : ck f b ci = some u) (hci : (cl9[ci]?).map (fun r => r.1) = some y.cls) (hd1 : d1 + 1 ≤ d) (hn : As.length = n) (hst : st = As.reverse ++ .ref b :: rest) (hrm : (rest.map fun v => v.category).sum ≤ 8) (k : V l g sc μ d ρ (pc + 3) ls (.ref x :: rest) f1 sz 0 0) : V l g sc μ d ρ pc ls st f sz 0 0 := v_callV hd ML hm hM hck hci hd1 hn hst hrm ⟨Nat.zero_le _, Nat.zero_le _⟩ k
theorem v_cVU (hd : decode μ.2.1 pc = .ok (.invokevirtual idx, 3)) (ML : mlV μ.1 idx y) (hm : mOk y cc nL rt n) (hM : Mt l g y cc nL rt d1 (.ref b :: As) f sz (.inl none, f1, sz, 0, 0)) (hck : ck f b ci = some u) (hci : (cl9[ci]?).map (fun r => r.1) = some y.cls) (hd1 : d1 + 1 ≤ d) (hn : As.length = n) (hst : st = As.reverse ++ .ref b :: rest) (hrm : (rest.map fun v => v.category).sum ≤ 8) (k : V l g sc μ d ρ (pc + 3) ls rest f1 sz 0 0) : V l g sc μ d ρ pc ls st f sz 0 0 := v_callV hd ML hm hM hck hci hd1 hn hst hrm ⟨Nat.zero_le _, Nat.zero_le _⟩ k
theorem v_cVx {E : String} (hd : decode μ.2.1 pc = .ok (.invokevirtual idx, 3)) (ML : mlV μ.1 idx y) (hm : mOk y cc nL rt n) (hM : Mt l g y cc nL rt d1 (.ref b :: As) f sz (.inr E, f1, none, 1, 6)) (hck : ck f b ci = some u) (hci : (cl9[ci]?).map (fun r => r.1) = some y.cls) (hd1 : d1 + 1 ≤ d) (hn : As.length = n) (hst : st = As.reverse ++ .ref b :: rest) (hrm : (rest.map fun v => v.category).sum ≤ 8) (hh : μ.2.2.2.2.1 = []) (hr : ρ = (.inr E, f1, none, 1, 6)) : V l g sc μ d ρ pc ls st f sz 0 0 := by
  subst hr
  exact v_callVx hd ML hm hM hck hci hd1 hn hst hrm ⟨Nat.le_refl _, Nat.le_refl _⟩ hh rfl rfl
theorem v_cSI {x : Int32} (hd : decode μ.2.1 pc = .ok (.invokestatic idx, 3)) (ML : mlS μ.1 idx y) (hm : mOk y cc nL rt n) (hM : Mt l g y cc nL rt d1 As f sz (.inl (some (.int x)), f1, sz, 0, 0)) (hd1 : d1 + 1 ≤ d) (hn : As.length = n) (hst : st = As.reverse ++ rest) (hrm : (rest.map fun v => v.category).sum ≤ 8) (k : V l g sc μ d ρ (pc + 3) ls (.int x :: rest) f1 sz 0 0) : V l g sc μ d ρ pc ls st f sz 0 0 := v_callS hd ML hm hM hd1 hn hst hrm ⟨Nat.zero_le _, Nat.zero_le _⟩ k
theorem v_cSL {x : Int64} (hd : decode μ.2.1 pc = .ok (.invokestatic idx, 3)) (ML : mlS μ.1 idx y) (hm : mOk y cc nL rt n) (hM : Mt l g y cc nL rt d1 As f sz (.inl (some (.long x)), f1, sz, 0, 0)) (hd1 : d1 + 1 ≤ d) (hn : As.length = n) (hst : st = As.reverse ++ rest) (hrm : (rest.map fun v => v.category).sum ≤ 8) (k : V l g sc μ d ρ (pc + 3) ls (.long x :: rest) f1 sz 0 0) : V l g sc μ d ρ pc ls st f sz 0 0 := v_callS hd ML hm hM hd1 hn hst hrm ⟨Nat.zero_le _, Nat.zero_le _⟩ k
theorem v_cSU (hd : decode μ.2.1 pc = .ok (.invokestatic idx, 3)) (ML : mlS μ.1 idx y) (hm : mOk y cc nL rt n) (hM : Mt l g y cc nL rt d1 As f sz (.inl none, f1, sz, 0, 0)) (hd1 : d1 + 1 ≤ d) (hn : As.length = n) (hst : st = As.reverse ++ rest) (hrm : (rest.map fun v => v.category).sum ≤ 8) (k : V l g sc μ d ρ (pc + 3) ls rest f1 sz 0 0) : V l g sc μ d ρ pc ls st f sz 0 0 := v_callS hd ML hm hM hd1 hn hst hrm ⟨Nat.zero_le _, Nat.zero_le _⟩ k
theorem v_thr {E : String} {names : List String} {ik ic : Nat} (d0 : decode μ.2.1 pc = .ok (.new ik, 3)) (d3 : decode μ.2.1 (pc + 3) = .ok (.dup, 1)) (d4 : decode μ.2.1 (pc + 4) = .ok (.invokespecial ic, 3)) (d7 : decode μ.2.1 (pc + 7) = .ok (.athrow, 1)) (T : thr μ.1 ik ic E names) (hd : 8 ≤ d) (hh : μ.2.2.2.2.1 = []) (hrm : (st.map fun v => v.category).sum ≤ 8) (hr : ρ = (.inr E, f, none, 1, 6)) : V l g sc μ d ρ pc ls st f sz 0 0 := v_throw d0 d3 d4 d7 T hd hh hrm hr
end RS
