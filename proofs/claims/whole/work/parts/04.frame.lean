/-! MY OWN FRAME: a picture f of the heap (address to thing), a judgement V over it; all that the machine's rows ask stands here once -/
abbrev Ob : Type := (Nat × vp_A) ⊕ (Nat × List Value)
abbrev HF : Type := Nat → Option Ob
abbrev GT : Type := va_G × (Nat → ClassId) × Nat
abbrev MT : Type := String × ByteArray × Nat × Option FieldType × List (Nat × Nat × Nat × Nat) × String
abbrev Rs : Type := Option Value ⊕ String
abbrev RT : Type := Rs × HF × Option Nat × Nat × Nat
def obE (ta : Nat → ClassId) (o : Ob) : va_E := match o with
  | .inl x => .inl (ta x.1, x.2)
  | .inr x => .inr x
abbrev cl9 : List vw_C := [(RX1, TX1, 5), (RX2, TX2, 17), (RX3, TX3, 3), (RX4, TX4, 2), (RX5, TX5, 2), (RX6, TX6, 2), (RX7, TX7, 1), (RX8, TX8, 3), (RX9, TX9, 7), (RX10, TX10, 38)]
def ty9 (ta : Nat → ClassId) : List (ClassId × FieldType) := [(ta 0, .int), (ta 1, .long), (ta 2, .boolean), (ta 3, .object "FormFields$Field"), (ta 4, .array .int)]
def TB : List Cond := lw_tbl.filter goodWord
def isN (w : Cond) : Bool := match w with
  | .fieldLinkNest .. => true
  | .methodLinkNest .. => true
  | .castable .. => true
  | .declares .. => true
  | _ => false
def NB : List Cond := lw_tbl.filter isN
def NCP : List (String × String) := [("java/lang/IllegalArgumentException", "java/util/NoSuchElementException"), ("java/lang/IllegalStateException", "java/util/NoSuchElementException"), ("java/lang/UnsupportedOperationException", "java/util/NoSuchElementException"), ("java/lang/IllegalStateException", "java/lang/IllegalArgumentException"), ("java/lang/UnsupportedOperationException", "java/lang/IllegalArgumentException"), ("java/lang/UnsupportedOperationException", "java/lang/IllegalStateException")]
theorem tb (i : Nat) {w : Cond} (h : lw_tbl[i]? = some w) (g : goodWord w = true) : w ∈ TB := List.mem_filter.mpr ⟨List.mem_of_getElem? h, g⟩
theorem nb (i : Nat) {w : Cond} (h : lw_tbl[i]? = some w) (g : isN w = true) : w ∈ NB := List.mem_filter.mpr ⟨List.mem_of_getElem? h, g⟩
theorem tbm {w : Cond} (h : w ∈ tables_1) (g : goodWord w = true) : w ∈ TB := List.mem_filter.mpr ⟨List.mem_append_right _ h, g⟩
theorem nbm {w : Cond} (h : w ∈ tables_1) (g : isN w = true) : w ∈ NB := List.mem_filter.mpr ⟨List.mem_append_right _ h, g⟩
theorem tt_1 {w : Cond} (i : Nat) (h : tables_1_1[i]? = some w) : w ∈ tables_1 := List.mem_append_left _ (List.mem_of_getElem? h)
theorem tt_2 {w : Cond} (i : Nat) (h : tables_1_2[i]? = some w) : w ∈ tables_1 := List.mem_append_right _ (List.mem_append_left _ (List.mem_of_getElem? h))
theorem tt_3 {w : Cond} (i : Nat) (h : tables_1_3[i]? = some w) : w ∈ tables_1 := List.mem_append_right _ (List.mem_append_right _ (List.mem_append_left _ (List.mem_of_getElem? h)))
theorem tt_4 {w : Cond} (i : Nat) (h : tables_1_4[i]? = some w) : w ∈ tables_1 := List.mem_append_right _ (List.mem_append_right _ (List.mem_append_right _ (List.mem_append_left _ (List.mem_of_getElem? h))))
theorem tt_5 {w : Cond} (i : Nat) (h : tables_1_5[i]? = some w) : w ∈ tables_1 := List.mem_append_right _ (List.mem_append_right _ (List.mem_append_right _ (List.mem_append_right _ (List.mem_append_left _ (List.mem_of_getElem? h)))))
theorem tt_6 {w : Cond} (i : Nat) (h : tables_1_6[i]? = some w) : w ∈ tables_1 := List.mem_append_right _ (List.mem_append_right _ (List.mem_append_right _ (List.mem_append_right _ (List.mem_append_right _ (List.mem_of_getElem? h)))))
theorem tbp {w : Cond} (i : Nat) (h : (k2_sels lw_privs)[i]? = some w) (g : goodWord w = true) : w ∈ TB := List.mem_filter.mpr ⟨List.mem_append_left _ (List.mem_of_getElem? h), g⟩
theorem tb_good : TB.all goodWord = true := List.all_eq_true.mpr fun w h => (List.mem_filter.mp h).2
theorem nb_tab {w : Cond} (h : w ∈ NB) : w.onTables = true := by
  have h2 := (List.mem_filter.mp h).2
  cases w <;> first | rfl | (simp [isN] at h2)
theorem nb_warm {w : Cond} (h : w ∈ NB) {s U : State} (hW : s.WarmedH U.vm) (hw : va_Nw w s) : va_Nw w U := by
  have h2 := (List.mem_filter.mp h).2
  cases w with
  | fieldLinkNest a i b n d x => exact va_Nw.warmF hW hw
  | methodLinkNest a i x y => exact va_Nw.warmM hW hw
  | castable a b => exact va_Nw.warmC hW hw
  | declares x => exact va_Nw.warmD hW hw
  | _ => simp [isN] at h2
abbrev A9 (g : GT) : Nat → Prop := fun q => g.2.2 ≤ q
def AO9 (U : State) : Prop := (Cond.arrayOver (.object "FormFields$Field")).before #[] U = true ∧ (Cond.arrayOver (.array .int)).before #[] U = true
theorem AO9.moved {u U : State} (h : u.vm.Alike U.vm) (q : AO9 u) : AO9 U := ⟨(Cond.arrayOver_setVmC (args := #[]) (s := u) (vm' := U.vm) h (.object "FormFields$Field")).trans q.1, (Cond.arrayOver_setVmC (args := #[]) (s := u) (vm' := U.vm) h (.array .int)).trans q.2⟩
def Env9 (g : GT) (U : State) : Prop := va_K g.1 cl9 (ty9 g.2.1) U ∧ (∀ w ∈ NB, va_Nw w U) ∧ (∀ q ∈ NCP, va_Nc q.1 q.2 U) ∧ AO9 U
def Sts (g : GT) (U : State) (H : Heap) : Prop := vx_Zq Bundle.tN "UNASSIGNED_STACK" Bundle.steD (A9 g) U H ∧ vx_Zq Bundle.tN "SUPPRESSED_SENTINEL" Bundle.listD (A9 g) U H
def Wst (g : GT) (f : HF) (sz : Option Nat) (H : Heap) : Prop := (∀ q e, f q = some e → A9 g q ∧ va_at g.1 cl9 (q, obE g.2.1 e) H) ∧ ∀ n, sz = some n → H.size = n
def Pre9 (l : Launch) (g : GT) (f : HF) (sz : Option Nat) (U : State) : Prop := l.stackTraces = false ∧ Env9 g U ∧ Sts g U U.heap ∧ Wst g f sz U.heap ∧ g.2.2 ≤ U.heap.size
def Qr (g : GT) (r : Rs) (f' : HF) (sz' : Option Nat) : Array Value → State → Outcome → State → Prop := fun _ st o t => (∃ v, r = .inl v ∧ o = .returned v) ∧ Wst g f' sz' t.heap ∧ va_F (A9 g) st t
def Xr (g : GT) (r : Rs) (f' : HF) : String → State → State → Prop := fun E st t => r = .inr E ∧ Wst g f' none t.heap ∧ va_F (A9 g) st t
/-- a method's contract: from the picture f it ends with ρ.1 and the picture ρ.2.1 -/
def Mt (l : Launch) (g : GT) (y : MethodName) (cc : ByteArray) (nL : Nat) (rt : Option FieldType) (d : Nat) (As : List Value) (f : HF) (sz : Option Nat) (ρ : RT) : Prop :=
  vx_Met l y (.code y cc nL rt :: TB) { frames := d, cells := ρ.2.2.2.1, slots := ρ.2.2.2.2, locals := 64 * d } (va_Pc As (Pre9 l g f sz)) (Qr g ρ.1 ρ.2.1 ρ.2.2.1) (Xr g ρ.1 ρ.2.1) ρ.2.2.2.1 ρ.2.2.2.2 (A9 g)
def MtW (l : Launch) (g : GT) (y : MethodName) (cc : ByteArray) (nL : Nat) (rt : Option FieldType) (hh : List (Nat × Nat × Nat × Nat)) (d : Nat) (As : List Value) (f : HF) (sz : Option Nat) (ρ : RT) : Prop :=
  Met l y (.codeWith y cc nL rt hh :: TB) { frames := d, cells := ρ.2.2.2.1, slots := ρ.2.2.2.2, locals := 64 * d } (va_Pc As (Pre9 l g f sz)) (Qr g ρ.1 ρ.2.1 ρ.2.2.1) ρ.2.2.2.1 ρ.2.2.2.2 (A9 g)
def Cx (l : Launch) (g : GT) (sc : State → Prop) (μ : MT) (d : Nat) (ρ : RT) (p : Program) (R : Room) (s : State) (m : MethodId) (args : Array Value) (meth : Method) (c : Code) : Prop :=
  p.tables.exec = Jvm.exec ∧ c.code = μ.2.1 ∧ c.maxLocals = μ.2.2.1 ∧ s.vm.findClass μ.1 = some m.cls ∧ (∀ w ∈ TB, w.before args s = true) ∧ meth.locks = false ∧ meth.sig.returnType = μ.2.2.2.1 ∧ c.exceptionTable.toList = tableOf μ.2.2.2.2.1 ∧ meth.name = μ.2.2.2.2.2 ∧
  Env9 g s ∧ Sts g s s.heap ∧ l.stackTraces = false ∧ sc s ∧ d ≤ R.frames ∧ 64 * d ≤ R.locals ∧ ρ.2.2.2.1 ≤ R.cells ∧ ρ.2.2.2.2 ≤ R.slots ∧ g.2.2 ≤ s.heap.size
abbrev ZQ (g : GT) (ρ : RT) (below : List Frame) (args : Array Value) (s : State) : State → Prop := vx_MQ below (Qr g ρ.1 ρ.2.1 ρ.2.2.1) (Xr g ρ.1 ρ.2.1) args s ρ.2.2.2.1 ρ.2.2.2.2 (A9 g)
/-- from here, with these locals, this stack, this picture, the method ends as ρ says -/
def V (l : Launch) (g : GT) (sc : State → Prop) (μ : MT) (d : Nat) (ρ : RT) (pc : Nat) (ls : List (Nat × Value)) (st : List Value) (f : HF) (sz : Option Nat) (cells slots : Nat) : Prop :=
  ∀ (p : Program) (e : Env) (R : Room) (s : State) (m : MethodId) (args : Array Value) (below : List Frame) (meth : Method) (c : Code) (H : Heap) (locs : List Loc) (LS : Array Slot),
    Cx l g sc μ d ρ p R s m args meth c → Wst g f sz H → va_S (A9 g) s.heap H locs → lv_has LS μ.2.2.1 ls → W p l e R s m args below meth c H locs cells slots (ZQ g ρ below args s) (F0 m pc LS st)
def lk (ls : List (Nat × Value)) (i : Nat) : Option Value := match ls with
  | [] => none
  | (j, v) :: t => if j = i then some v else lk t i
theorem lk_mem : ∀ {ls : List (Nat × Value)} {i : Nat} {v : Value}, lk ls i = some v → (i, v) ∈ ls
  | [], _, _, h => by simp [lk] at h
  | (j, w) :: t, i, v, h => by
    unfold lk at h
    by_cases e : j = i
    · rw [if_pos e] at h
      cases h
      subst e
      exact List.mem_cons_self
    · rw [if_neg e] at h
      exact List.mem_cons_of_mem _ (lk_mem h)
theorem lk_at {LS : Array Slot} {nL : Nat} {ls : List (Nat × Value)} (h : lv_has LS nL ls) {i : Nat} {v : Value} (hk : lk ls i = some v) : LS[i]? = some (.val v) := h.2.2 _ (lk_mem hk)
def stl1 (ls : List (Nat × Value)) (i : Nat) (v : Value) : List (Nat × Value) := (i, v) :: ls.filter (fun q => !(q.1 == i) && !(q.1 + 1 == i && q.2.category == 2))
def stl2 (ls : List (Nat × Value)) (i : Nat) (v : Value) : List (Nat × Value) := (i, v) :: ls.filter (fun q => !(q.1 == i) && (!(q.1 == i + 1) && !(q.1 + 1 == i && q.2.category == 2)))
def lnk (own : String) (idx : Nat) (r : vw_C) (k : Nat) : Prop := Cond.fieldLink own idx (r.2.1 k).1 (r.2.1 k).2.1 (r.2.1 k).2.2.1 ∈ TB ∨ ∃ host, Cond.fieldLinkNest own idx (r.2.1 k).1 (r.2.1 k).2.1 (r.2.1 k).2.2.1 host ∈ NB
def FL (own : String) (idx ci k : Nat) : Prop := ∃ r : vw_C, cl9[ci]? = some r ∧ k < r.2.2 ∧ lnk own idx r k
def FP (own : String) (idx ci k : Nat) (ty : FieldType) : Prop := ∃ r : vw_C, cl9[ci]? = some r ∧ k < r.2.2 ∧ lnk own idx r k ∧ (r.2.1 k).2.2.2 = false ∧ parseFieldDescriptor (r.2.1 k).2.2.1 = some ty
def FF (own : String) (idx ci k : Nat) (ty : FieldType) : Prop := ∃ r : vw_C, cl9[ci]? = some r ∧ k < r.2.2 ∧ Cond.fieldLink own idx (r.2.1 k).1 (r.2.1 k).2.1 (r.2.1 k).2.2.1 ∈ TB ∧ (r.2.1 k).2.2.2 = true ∧ (r.2.1 k).1 = own ∧ parseFieldDescriptor (r.2.1 k).2.2.1 = some ty
/-! the picture's readers and writers -/
def hup (f : HF) (a : Nat) (o : Ob) : HF := fun q => if q = a then some o else f q
def ck (f : HF) (a ci : Nat) : Option Unit := match f a with
  | some (.inr (c, _)) => if c = ci then some () else none
  | _ => none
def gV (f : HF) (a ci k : Nat) : Option Value := match f a with
  | some (.inr (c, vs)) => if c = ci then vs[k]? else none
  | _ => none
def gI (f : HF) (a ci k : Nat) : Option Int32 := match gV f a ci k with
  | some (.int x) => some x
  | _ => none
def gL (f : HF) (a ci k : Nat) : Option Int64 := match gV f a ci k with
  | some (.long x) => some x
  | _ => none
def gR (f : HF) (a ci k : Nat) : Option Nat := match gV f a ci k with
  | some (.ref x) => some x
  | _ => none
def pV (f : HF) (a ci k : Nat) (v : Value) : Option HF := match f a with
  | some (.inr (c, vs)) => if c = ci ∧ k < vs.length then some (hup f a (.inr (c, vs.set k v))) else none
  | _ => none
def isB (x : Int32) : Prop := x = 0 ∨ x = 1
def inb (i : Int32) (n : Nat) : Prop := ¬ i < 0 ∧ i.toNatClampNeg < n
def aLen (f : HF) (a t : Nat) : Option Int32 := match f a with
  | some (.inl (u, (n, _))) => if u = t then some (nI n) else none
  | _ => none
def aI (f : HF) (a t : Nat) (i : Int32) : Option Int32 := match f a with
  | some (.inl (u, (n, .inl z))) => if u = t ∧ ¬ i < 0 ∧ i.toNatClampNeg < n then some (z i.toNatClampNeg) else none
  | _ => none
def aL (f : HF) (a : Nat) (i : Int32) : Option Int64 := match f a with
  | some (.inl (u, (n, .inr (.inl z)))) => if u = 1 ∧ ¬ i < 0 ∧ i.toNatClampNeg < n then some (z i.toNatClampNeg) else none
  | _ => none
def aR (f : HF) (a t : Nat) (i : Int32) : Option Nat := match f a with
  | some (.inl (u, (n, .inr (.inr (.inr (.inr z)))))) => if u = t ∧ ¬ i < 0 ∧ i.toNatClampNeg < n then z i.toNatClampNeg else none
  | _ => none
def sI (f : HF) (a t : Nat) (i x : Int32) : Option HF := match f a with
  | some (.inl (u, (n, .inl z))) => if u = t ∧ ¬ i < 0 ∧ i.toNatClampNeg < n then some (hup f a (.inl (t, (n, .inl (upd z i.toNatClampNeg x))))) else none
  | _ => none
def sL (f : HF) (a : Nat) (i : Int32) (x : Int64) : Option HF := match f a with
  | some (.inl (u, (n, .inr (.inl z)))) => if u = 1 ∧ ¬ i < 0 ∧ i.toNatClampNeg < n then some (hup f a (.inl (1, (n, .inr (.inl (vp_updL z i.toNatClampNeg x)))))) else none
  | _ => none
theorem ob_some {α β : Type} {o : Option α} {k : α → Option β} {r : β} (h : o.bind k = some r) : ∃ x, o = some x ∧ k x = some r := by
  cases o with
  | none => cases h
  | some x => exact ⟨x, rfl, h⟩
theorem ck_some {f : HF} {a ci : Nat} {u : Unit} (h : ck f a ci = some u) : ∃ fs, f a = some (.inr (ci, fs)) := by
  unfold ck at h
  split at h
  · rename_i c vs e
    split at h
    · rename_i e2
      subst e2
      exact ⟨vs, e⟩
    · cases h
  · cases h
theorem gV_some {f : HF} {a ci k : Nat} {v : Value} (h : gV f a ci k = some v) : ∃ fs, f a = some (.inr (ci, fs)) ∧ fs[k]? = some v := by
  unfold gV at h
  split at h
  · rename_i c vs e
    split at h
    · rename_i e2
      subst e2
      exact ⟨vs, e, h⟩
    · cases h
  · cases h
theorem gI_some {f : HF} {a ci k : Nat} {x : Int32} (h : gI f a ci k = some x) : gV f a ci k = some (.int x) := by
  unfold gI at h
  split at h
  · rename_i y e
    cases h
    exact e
  · cases h
theorem gL_some {f : HF} {a ci k : Nat} {x : Int64} (h : gL f a ci k = some x) : gV f a ci k = some (.long x) := by
  unfold gL at h
  split at h
  · rename_i y e
    cases h
    exact e
  · cases h
theorem gR_some {f : HF} {a ci k : Nat} {x : Nat} (h : gR f a ci k = some x) : gV f a ci k = some (.ref x) := by
  unfold gR at h
  split at h
  · rename_i y e
    cases h
    exact e
  · cases h
theorem pV_some {f f1 : HF} {a ci k : Nat} {v : Value} (h : pV f a ci k v = some f1) : ∃ fs, f a = some (.inr (ci, fs)) ∧ k < fs.length ∧ f1 = hup f a (.inr (ci, fs.set k v)) := by
  unfold pV at h
  split at h
  · rename_i c vs e
    split at h
    · rename_i e2
      obtain ⟨e3, e4⟩ := e2
      subst e3
      cases h
      exact ⟨vs, e, e4, rfl⟩
    · cases h
  · cases h
theorem aLen_some {f : HF} {a t : Nat} {x : Int32} (h : aLen f a t = some x) : ∃ n z, f a = some (.inl (t, (n, z))) ∧ x = nI n := by
  unfold aLen at h
  split at h
  · rename_i u n z e
    split at h
    · rename_i e2
      subst e2
      cases h
      exact ⟨n, z, e, rfl⟩
    · cases h
  · cases h
theorem aI_some {f : HF} {a t : Nat} {i x : Int32} (h : aI f a t i = some x) : ∃ n z, f a = some (.inl (t, (n, .inl z))) ∧ vp_in i n ∧ x = z i.toNatClampNeg := by
  unfold aI at h
  split at h
  · rename_i u n z e
    split at h
    · rename_i e2
      obtain ⟨e3, e4, e5⟩ := e2
      subst e3
      cases h
      exact ⟨n, z, e, fun q => q.elim e4 (fun q => absurd e5 (Nat.not_lt.mpr q)), rfl⟩
    · cases h
  · cases h
theorem aL_some {f : HF} {a : Nat} {i : Int32} {x : Int64} (h : aL f a i = some x) : ∃ n z, f a = some (.inl (1, (n, .inr (.inl z)))) ∧ vp_in i n ∧ x = z i.toNatClampNeg := by
  unfold aL at h
  split at h
  · rename_i u n z e
    split at h
    · rename_i e2
      obtain ⟨e3, e4, e5⟩ := e2
      subst e3
      cases h
      exact ⟨n, z, e, fun q => q.elim e4 (fun q => absurd e5 (Nat.not_lt.mpr q)), rfl⟩
    · cases h
  · cases h
theorem aR_some {f : HF} {a t : Nat} {i : Int32} {x : Nat} (h : aR f a t i = some x) : ∃ n z, f a = some (.inl (t, (n, .inr (.inr (.inr (.inr z)))))) ∧ vp_in i n ∧ z i.toNatClampNeg = some x := by
  unfold aR at h
  split at h
  · rename_i u n z e
    split at h
    · rename_i e2
      obtain ⟨e3, e4, e5⟩ := e2
      subst e3
      exact ⟨n, z, e, fun q => q.elim e4 (fun q => absurd e5 (Nat.not_lt.mpr q)), h⟩
    · cases h
  · cases h
theorem sI_some {f f1 : HF} {a t : Nat} {i x : Int32} (h : sI f a t i x = some f1) : ∃ n z, f a = some (.inl (t, (n, .inl z))) ∧ vp_in i n ∧ f1 = hup f a (.inl (t, (n, .inl (upd z i.toNatClampNeg x)))) := by
  unfold sI at h
  split at h
  · rename_i u n z e
    split at h
    · rename_i e2
      obtain ⟨e3, e4, e5⟩ := e2
      subst e3
      cases h
      exact ⟨n, z, e, fun q => q.elim e4 (fun q => absurd e5 (Nat.not_lt.mpr q)), rfl⟩
    · cases h
  · cases h
theorem sL_some {f f1 : HF} {a : Nat} {i : Int32} {x : Int64} (h : sL f a i x = some f1) : ∃ n z, f a = some (.inl (1, (n, .inr (.inl z)))) ∧ vp_in i n ∧ f1 = hup f a (.inl (1, (n, .inr (.inl (vp_updL z i.toNatClampNeg x))))) := by
  unfold sL at h
  split at h
  · rename_i u n z e
    split at h
    · rename_i e2
      obtain ⟨e3, e4, e5⟩ := e2
      subst e3
      cases h
      exact ⟨n, z, e, fun q => q.elim e4 (fun q => absurd e5 (Nat.not_lt.mpr q)), rfl⟩
    · cases h
  · cases h
/-! the classes of the worlds: facts of all of them -/
theorem cl_in {ci : Nat} {r : vw_C} (h : cl9[ci]? = some r) : ∀ w ∈ u_ws r.1 r.2.1 r.2.2, w ∈ TB := by
  match ci, h with
  | 0, h => cases h; decide +kernel
  | 1, h => cases h; decide +kernel
  | 2, h => cases h; decide +kernel
  | 3, h => cases h; decide +kernel
  | 4, h => cases h; decide +kernel
  | 5, h => cases h; decide +kernel
  | 6, h => cases h; decide +kernel
  | 7, h => cases h; decide +kernel
  | 8, h => cases h; decide +kernel
  | 9, h => cases h; decide +kernel
  | n + 10, h => simp [cl9] at h
theorem cl_ty {ci : Nat} {r : vw_C} (h : cl9[ci]? = some r) : ∃ ty0 : Nat → FieldType, (∀ k, k < r.2.2 → parseFieldDescriptor (r.2.1 k).2.2.1 = some (ty0 k)) ∧ ∀ a, a < r.2.2 → ∀ b, b < r.2.2 → a ≠ b → (r.2.1 a).2.1 ≠ (r.2.1 b).2.1 := by
  match ci, h with
  | 0, h => cases h; exact ⟨_, tyX1_ok, nmX1⟩
  | 1, h => cases h; exact ⟨_, tyX2_ok, nmX2⟩
  | 2, h => cases h; exact ⟨_, tyX3_ok, nmX3⟩
  | 3, h => cases h; exact ⟨_, tyX4_ok, nmX4⟩
  | 4, h => cases h; exact ⟨_, tyX5_ok, nmX5⟩
  | 5, h => cases h; exact ⟨_, tyX6_ok, nmX6⟩
  | 6, h => cases h; exact ⟨_, tyX7_ok, nmX7⟩
  | 7, h => cases h; exact ⟨_, tyX8_ok, nmX8⟩
  | 8, h => cases h; exact ⟨_, tyX9_ok, nmX9⟩
  | 9, h => cases h; exact ⟨_, tyX10_ok, nmX10⟩
  | n + 10, h => simp [cl9] at h
theorem va_P1 {D : va_G} {a : Nat} {e : va_E} {H : Heap} (h : va_at D cl9 (a, e) H) : va_P D cl9 [(a, e)] H := fun k q hk => by
  have h0 : k < 1 := (List.getElem?_eq_some_iff.mp hk).1
  rw [show k = 0 by omega] at hk
  cases hk
  exact h
/-- a store at a: the rest of the picture stays -/
theorem Wst.up {g : GT} {f : HF} {sz : Option Nat} {H H1 : Heap} {a : Nat} {o : Ob} (h : Wst g f sz H) (ha : A9 g a) (hz : H1.size = H.size) (hq : ∀ q : Nat, q ≠ a → H1[q]? = H[q]?) (ho : va_at g.1 cl9 (a, obE g.2.1 o) H1) : Wst g (hup f a o) sz H1 := by
  refine ⟨fun q e he => ?_, fun n hn => hz.trans (h.2 n hn)⟩
  unfold hup at he
  by_cases e1 : q = a
  · rw [if_pos e1] at he
    cases he
    subst e1
    exact ⟨ha, ho⟩
  · rw [if_neg e1] at he
    obtain ⟨h1, h2⟩ := h.1 q e he
    exact ⟨h1, h2.kept (hq q e1)⟩
