/-! MORE ROWS FOR CONSTRUCTORS -/
def sR (f : HF) (a : Nat) (i : Int32) (v : Nat) : Option HF := match f a with
  | some (.inl (u, (n, .inr (.inr (.inr (.inr z)))))) => if u = 3 ∧ ¬ i < 0 ∧ i.toNatClampNeg < n then some (hup f a (.inl (3, (n, .inr (.inr (.inr (.inr (va_up z i.toNatClampNeg (some v))))))))) else none
  | _ => none
theorem sR_some {f f1 : HF} {a v : Nat} {i : Int32} (h : sR f a i v = some f1) : ∃ n z, f a = some (.inl (3, (n, .inr (.inr (.inr (.inr z)))))) ∧ vp_in i n ∧ f1 = hup f a (.inl (3, (n, .inr (.inr (.inr (.inr (va_up z i.toNatClampNeg (some v)))))))) := by
  unfold sR at h
  split at h
  · rename_i u n z e
    split at h
    · rename_i e2
      obtain ⟨e3, e4, e5⟩ := e2
      subst e3
      cases h
      exact ⟨n, z, e, fun q => q.elim e4 (fun q => absurd e5 (Nat.not_lt.mpr q)), rfl⟩
    · cases h
  · cases h
/-- new int[a][b] at n: the outer row at n, the inner ones behind it -/
def mna (f : HF) (n A B : Nat) : HF := fun q => if q = n then some (.inl (4, (A, .inr (.inr (.inr (.inr (fun i => if i < A then some (n + 1 + i) else none))))))) else if n < q ∧ q < n + 1 + A then some (.inl (0, (B, .inl (fun _ => 0)))) else f q
theorem vr_outer (c : ClassId) (N h0 : Nat) : ∀ i : Nat, Jvm.Free.Multi.outerC c N h0 i = arrV c N (fun j => va_rf (if j < i then some (h0 + 1 + j) else none))
  | 0 => by
    show ({ cls := c, slots := Array.replicate N .null, vm := .none } : Cell) = _
    rw [arrV_new]
    refine congrArg (arrV c N) (funext fun j => ?_)
    simp [va_rf]
  | i + 1 => by
    show (Jvm.Free.Multi.outerC c N h0 i).setSlot i (.ref (h0 + 1 + i)) = _
    rw [vr_outer c N h0 i, arrV_store]
    refine congrArg (arrV c N) (funext fun j => ?_)
    by_cases e : j = i
    · subst e
      simp [updV, va_rf]
    · by_cases h : j < i
      · simp [updV, e, h, Nat.lt_succ_of_lt h]
      · simp [updV, e, h, show ¬ j < i + 1 by omega]
section RB
variable {l : Launch} {g : GT} {sc : State → Prop} {μ : MT} {d : Nat} {ρ : RT} {pc : Nat} {ls ls1 : List (Nat × Value)} {st rest : List Value} {f f1 : HF} {sz sz1 : Option Nat} {cells slots : Nat}
theorem v_aast {a v : Nat} {i : Int32} {u : Unit} (hd : decode μ.2.1 pc = .ok (.aastore, 1)) (hck : ck f v 1 = some u) (h : sR f a i v = some f1) (k : V l g sc μ d ρ (pc + 1) ls st f1 sz cells slots) : V l g sc μ d ρ pc ls (.ref v :: .int i :: .ref a :: st) f sz cells slots := by
  intro p e R s m args below meth c H locs LS C hw hS hl
  obtain ⟨n, z, hf, hin, rfl⟩ := sR_some h
  obtain ⟨hA, hat⟩ := hw.1 a _ hf
  obtain ⟨vs, hfv⟩ := ck_some hck
  obtain ⟨-, r', hr', cellV, g1, g2, g3, -⟩ := hw.1 v _ hfv
  have hK := C.2.2.2.2.2.2.2.2.2.1.1
  have hlt : i.toNatClampNeg < n := Nat.not_le.mp fun q => hin (Or.inr q)
  have h0 : ¬ i < 0 := fun q => hin (Or.inl q)
  have hcls := (hK.1 1 (RX2, TX2, 17) rfl).2
  obtain ⟨kA, comp, k1, k2, k3, -⟩ := (hK.2 3 _ rfl).2
  have hcomp : comp = g.1.1 1 := Option.some.inj (k3.symm.trans hcls.1)
  subst hcomp
  obtain ⟨kC, hkC, -⟩ := hcls.2
  refine W.aast C.1 C.2.1 hat (fun q h => by cases h) (fun h => by cases h) k1 k2 rfl hkC ⟨h0, by show _ < (arrV _ _ _).slots.size; rw [arrV_size]; exact hlt⟩ g1 (fun q h => by rw [g3] at h; cases h) (by rw [g2]; exact hkC) (by rw [g2]; exact va_assign hcls) rfl rfl hd fun H1 e1 z1 oq => ?_
  refine k p e R s m args below meth c H1 _ LS C (up_at hw hA e1 z1 oq ?_) (hS.put z1 oq hA) hl
  rw [vp_cell_q, vp_cell_q, arrV_store]
  congr 1
  funext q
  by_cases hq : q = i.toNatClampNeg
  · subst hq
    simp [updV, va_up, va_rf]
  · simp [updV, va_up, hq]
theorem v_mna {idx n : Nat} {x y : Int32} {A B : Nat} (hd : decode μ.2.1 pc = .ok (.multianewarray idx 2, 4)) (w1 : Cond.classLink μ.1 idx "[[I" ∈ TB) (w3 : Cond.arrayClass .int ∈ TB) (hx0 : ¬ x < 0) (hy0 : ¬ y < 0) (hA : x.toNatClampNeg = A) (hB : y.toNatClampNeg = B) (hb : A ≤ 100 ∧ B ≤ 100000) (hc : cells + (1 + A) ≤ ρ.2.2.2.1) (hs : slots + (A + A * B) ≤ ρ.2.2.2.2)
    (k : V l g sc μ d ρ (pc + 4) ls (.ref n :: st) (mna f n A B) (some (n + 1 + A)) (cells + 1 + A) (slots + A + A * B)) : V l g sc μ d ρ pc ls (.int y :: .int x :: st) f (some n) cells slots := by
  intro p e R s m args below meth c H locs LS C hw hS hl
  subst hA
  subst hB
  have ok := C.2.2.2.2.1
  have hn := hw.2 n rfl
  have hgs : g.2.2 ≤ s.heap.size := C.2.2.2.2.2.2.2.2.2.2.2.2.2.2.2.2.2
  have hkc : ρ.2.2.2.1 ≤ R.cells := C.2.2.2.2.2.2.2.2.2.2.2.2.2.2.2.1
  have hks : ρ.2.2.2.2 ≤ R.slots := C.2.2.2.2.2.2.2.2.2.2.2.2.2.2.2.2.1
  have hS1 := hS.1
  intro T hT X
  obtain ⟨vm₁, cA, comp, -, fA, fC, hO, -, X', step⟩ := Jvm.Stand.multianewarray2F X C.1 (own := μ.1) (index := idx) (ty := .int) C.2.2.2.1 (ok _ w1) C.2.2.2.2.2.2.2.2.2.1.2.2.2.2 (ok _ w3) (g := F0 m pc LS (.int y :: .int x :: st)) rfl (by rw [C.2.1]; exact hd) (n := x) (k := y) (rest := st) rfl hx0 hy0 (by omega) (by show y.toNatClampNeg * 4 ≤ 536870912; omega) (by omega) rfl rfl (by omega) (by omega)
  have fA2 := (C.2.2.2.2.2.2.2.2.2.1.1.2 4 _ rfl).2
  have ecA : cA = g.2.1 4 := Option.some.inj (fA.symm.trans fA2)
  subst ecA
  have fC2 := (C.2.2.2.2.2.2.2.2.2.1.1.2 0 _ rfl).2
  have ecC : comp = g.2.1 0 := Option.some.inj (fC.symm.trans fC2)
  subst ecC
  generalize hF : Jvm.Free.Multi.fill (T.setVm vm₁) (g.2.1 4) (g.2.1 0) x.toNatClampNeg y.toNatClampNeg (defaultValue .int) x.toNatClampNeg = F at X' step
  have hTh : (T.setVm vm₁).heap = H := hT
  obtain ⟨f1, f2, -, -⟩ := Jvm.Free.Multi.fill_facts (T.setVm vm₁) (g.2.1 4) (g.2.1 0) x.toNatClampNeg y.toNatClampNeg (defaultValue .int) x.toNatClampNeg
  rw [hF, hTh] at f1 f2
  have hold : ∀ q : Nat, q < H.size → F.heap[q]? = H[q]? := fun q hq => by
    have := Jvm.Free.Multi.fill_old (T.setVm vm₁) (g.2.1 4) (g.2.1 0) x.toNatClampNeg y.toNatClampNeg (defaultValue .int) (a := q) (by rw [hTh]; exact hq) x.toNatClampNeg
    rw [hF, hTh] at this
    exact this
  have hrow : ∀ j : Nat, j < x.toNatClampNeg → F.heap[H.size + 1 + j]? = some (vp_cell (g.2.1 0) (y.toNatClampNeg, .inl (fun _ => 0))) := fun j hj => by
    have := Jvm.Free.Multi.fill_inner (T.setVm vm₁) (g.2.1 4) (g.2.1 0) x.toNatClampNeg y.toNatClampNeg (defaultValue .int) x.toNatClampNeg j hj
    rw [hF, hTh] at this
    rw [this, vp_cell_i]
    congr 1
    exact arrV_new _ _ _
  have hout : F.heap[H.size]? = some (vp_cell (g.2.1 4) (x.toNatClampNeg, .inr (.inr (.inr (.inr (fun i => if i < x.toNatClampNeg then some (H.size + 1 + i) else none)))))) := by
    rw [f2, vp_cell_q]
    congr 1
    exact vr_outer (g.2.1 4) x.toNatClampNeg H.size x.toNatClampNeg
  have hw2 : Wst g (mna f n x.toNatClampNeg y.toNatClampNeg) (some (n + 1 + x.toNatClampNeg)) F.heap := by
    refine ⟨fun q o ho => ?_, fun k9 hk9 => by cases hk9; omega⟩
    unfold mna at ho
    by_cases e1 : q = n
    · rw [if_pos e1] at ho
      cases ho
      subst e1
      refine ⟨Nat.le_trans hgs (by omega), ?_⟩
      show F.heap[q]? = some (vp_cell _ _)
      rw [← hn]
      exact hout
    · rw [if_neg e1] at ho
      by_cases e2 : n < q ∧ q < n + 1 + x.toNatClampNeg
      · rw [if_pos e2] at ho
        cases ho
        refine ⟨Nat.le_trans hgs (by omega), ?_⟩
        show F.heap[q]? = some (vp_cell _ _)
        have h9 := hrow (q - n - 1) (by omega)
        rw [show H.size + 1 + (q - n - 1) = q by omega] at h9
        exact h9
      · rw [if_neg e2] at ho
        obtain ⟨a1, a2⟩ := hw.1 q o ho
        exact ⟨a1, a2.kept (hold q a2.lt)⟩
  obtain ⟨t, a1, b1⟩ := k p e R s m args below meth c F.heap locs LS C hw2 ⟨by omega, fun x h1 h2 => (hold x (by omega)).trans (hS.2.1 x h1 h2), hS.2.2⟩ hl F rfl X'
  refine ⟨t, step t ?_, b1⟩
  have e9 : T.heap.size = n := by rw [hT]; exact hn
  rw [e9]
  exact a1
theorem v_objInit {idx a : Nat} (hd : decode μ.2.1 pc = .ok (.invokespecial idx, 3)) (w : Cond.methodLink μ.1 idx Lib.objectInit ∈ TB ∧ Cond.instanceMethod Lib.objectInit ∈ TB ∧ Cond.code Lib.objectInit ⟨#[0xb1]⟩ 1 none ∈ TB) (h1 : 1 ≤ d) (hrm : (st.map fun v => v.category).sum ≤ 8) (k : V l g sc μ d ρ (pc + 3) ls st f sz cells slots) : V l g sc μ d ρ pc ls (.ref a :: st) f sz cells slots := by
  intro p e R s m args below meth c H locs LS C hw hS hl
  have ok := C.2.2.2.2.1
  have hdf : d ≤ R.frames := C.2.2.2.2.2.2.2.2.2.2.2.2.2.1
  have hdl : 64 * d ≤ R.locals := C.2.2.2.2.2.2.2.2.2.2.2.2.2.2.1
  refine W.objInit C.1 C.2.1 C.2.2.2.1 (ok _ w.1) (ok _ w.2.1) (ok _ w.2.2) (a := a) (rest := st) rfl (hl.1.trans C.2.2.1.symm) rfl hd (by omega) ?_ (k p e R s m args below meth c H locs LS C hw hS hl)
  have := lv_room (m := m) (pc := pc) (ls := LS) (rest := .ref a :: st) hrm
  omega
theorem v_mmaxG {x y : Int32} {idx n : Nat} (hd : decode μ.2.1 pc = .ok (.invokestatic idx, 3)) (ML : mlS μ.1 idx Lib.Math.max.name) (hm : mOk Lib.Math.max.name Lib.Math.max.code 2 (some .int) n) (h1 : 1 ≤ d) (hrm : (st.map fun v => v.category).sum ≤ 8) (hk : cells ≤ ρ.2.2.2.1 ∧ slots ≤ ρ.2.2.2.2) (k : V l g sc μ d ρ (pc + 3) ls (.int (mxI x y) :: st) f sz cells slots) : V l g sc μ d ρ pc ls (.int y :: .int x :: st) f sz cells slots := by
  intro p e R s m args below meth c H locs LS C hw hS hl
  have kk := k p e R s m args below meth c H locs LS C hw hS hl
  obtain ⟨hx, hb, hml, hown, ok, -, -, -, -, -, -, -, -, q1, q2, q3, q4, -⟩ := C
  exact va_mmax hx hb (hml.trans hl.1.symm) hown (ok _ ML.1) (ok _ ML.2.1) (ok _ ML.2.2) (ok _ hm.1) (by omega) (by omega) (by omega) (by omega) hd kk
/-- a constructor's call -/
theorem v_callI {y : MethodName} {cc : ByteArray} {nL idx n d1 : Nat} {b : Nat} {As : List Value} {k1 n1 : Nat} (hd : decode μ.2.1 pc = .ok (.invokespecial idx, 3)) (ML : mlI μ.1 idx y) (hm : mOk y cc nL none n) (hM : Mt l g y cc nL none d1 (.ref b :: As) f sz (.inl none, f1, sz1, k1, n1)) (hd1 : d1 + 1 ≤ d) (hn : As.length = n) (hst : st = As.reverse ++ .ref b :: rest) (hrm : (rest.map fun v => v.category).sum ≤ 8) (hk : cells + k1 ≤ ρ.2.2.2.1 ∧ slots + n1 ≤ ρ.2.2.2.2)
    (k : V l g sc μ d ρ (pc + 3) ls rest f1 sz1 (cells + k1) (slots + n1)) : V l g sc μ d ρ pc ls st f sz cells slots := by
  intro p e R s m args below meth c H locs LS C hw hS hl
  have ok := C.2.2.2.2.1
  obtain ⟨m1, m2, m3, m4⟩ := ML
  obtain ⟨c1, c2, c3⟩ := hm
  have hp := pre_S (As := .ref b :: As) C hw hS
  have hkc : ρ.2.2.2.1 ≤ R.cells := C.2.2.2.2.2.2.2.2.2.2.2.2.2.2.2.1
  have hks : ρ.2.2.2.2 ≤ R.slots := C.2.2.2.2.2.2.2.2.2.2.2.2.2.2.2.2.1
  have hrun : va_Run p l e R s m args below meth c H locs cells slots k1 n1 (F0 m pc LS st) rest (Qr g (.inl none) f1 sz1 (Value.ref b :: As).toArray) (A9 g) := by
    rcases m1 with m1 | ⟨host, m1⟩
    · exact va_runI (Ts := TB) ⟨C.1, C.2.1, C.2.2.1, C.2.2.2.1, ok⟩ (met_of_mt hM) ⟨callB_of n ok (good_tb c1) rfl rfl rfl (ok _ m3) (ok _ m1) c2 (roomy hd1 c3 C), m4, ok _ m2⟩ hp rfl hn hl.1 hst (lv_room hrm) hd ⟨by omega, by omega⟩
    · exact va_runIN (Ts := TB) ⟨C.1, C.2.1, C.2.2.1, C.2.2.2.1, ok⟩ (met_of_mt hM) ⟨va_cnB n ok (good_tb c1) rfl rfl rfl (C.2.2.2.2.2.2.2.2.2.1.2.1 _ m1) (ok _ m3) c2 (roomy hd1 c3 C), m4, ok _ m2⟩ hp rfl hn hl.1 hst (lv_room hrm) hd ⟨by omega, by omega⟩
  intro T hT X
  obtain ⟨v1, st₀, t, T', L, h0, X', hL, e1, e2, ⟨⟨v2, hv, ho⟩, hw1, hF⟩, stp⟩ := hrun T hT X
  cases hv
  cases ho
  obtain ⟨-, -, k3⟩ := vx_keep h0 e1 hS (fun q _ h => h) (fun q h => h) hL hF
  obtain ⟨t2, a1, b1⟩ := k p e R s m args below meth c T'.heap (locs ++ L) LS C (by rw [e1]; exact hw1) k3 hl T' rfl X'
  exact ⟨t2, stp t2 a1, b1⟩
theorem v_vretW (hd : decode μ.2.1 pc = .ok (.return_, 1)) (ht : μ.2.2.2.1 = none) {K S : Nat} (hr : ρ = (.inl none, f, sz, K, S)) (hc : cells ≤ K) (hs : slots ≤ S) : V l g sc μ d ρ pc ls [] f sz cells slots := by
  intro p e R s m args below meth c H locs LS C hw hS hl
  subst hr
  refine W.widen hc hs ?_
  exact vx_ret (W.vret C.1 C.2.1 (C.2.2.2.2.2.2.1.trans ht) (q_ret rfl rfl rfl hw hS) hS.2.2 hd C.2.2.2.2.2.1)
end RB
