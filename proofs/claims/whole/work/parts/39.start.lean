/-! THE CLAIM OUT OF ONE WALK OF THE LAW'S BODY. Your part is whole_start (and what it stands on); all else here is the same for every law, but numbers. -/
def R_law : String := "FormFieldsLaw"
def lw_P (b : Addr) (xs : List Int32) (args : Array Value) (s : State) : Prop := args = #[.ref b] ∧ s.IntsAt b xs ∧ xs.length ≤ 384 ∧ (Jvm.Cond.and given_1 narrow_1).before args s = true
def lw_Q (_ : Array Value) (s : State) (o : Outcome) (t : State) : Prop := o = .returned (some (.int 1)) ∧ Framed s o t [] 600384 7289834
def lw_Z (below : List Frame) (a : Array Value) (s : State) : State → Prop := fun t => ∃ o, t.status = .running ∧ Ended t below o ∧ lw_Q a s o t
/-- the law's own end, with 1 on the stack, nothing written that was there before, its room as the claim has it -/
theorem lw_ret {p : Program} {l : Launch} {e : Env} {s : State} {m : MethodId} {below : List Frame} {meth : Method} {c : Code} {b : Nat} (hx : p.tables.exec = Jvm.exec) (hb : c.code = code) (hr : meth.sig.returnType = ret) (hlocks : meth.locks = false) {pc : Nat} {H : Heap} {ls : Array Slot} (hdg : decode code pc = .ok (.ireturn, 1)) : W p l e room_1 s m #[Value.ref b] below meth c H [] 600384 7289834 (lw_Z below #[Value.ref b] s) (F0 m pc ls [.int 1]) := by
  intro T hT X
  obtain ⟨fs, hret, hrun, hended, hW, hframe⟩ := X.leave (v := some (.int 1)) (hlocks := hlocks) (fun h => by rw [hr] at h; cases h)
  have hmeth' : T.vm.method? m = some meth := X.method'
  refine ⟨T.setFrames fs, ?_, .returned (some (.int 1)), hrun, hended, rfl, ⟨_, rfl⟩, hW, hframe⟩
  jvm_step X.here [X.here.top, hx, hb, hdg, hmeth', hr, ret, narrow_b1]
  (try refine ⟨rfl, ?_⟩); (try refine ⟨rfl, ?_⟩)
  first | (intro acts; rw [hret _ acts rfl rfl rfl]) | rw [hret _ _ rfl rfl rfl]
  exact Steps.refl _
/-- what holds at the law's entry (as the skeleton has it, with the table of handlers and the name besides) -/
def lw_At (p : Program) (s : State) (m : MethodId) (meth : Method) (c : Code) (b L : Nat) (xs : Nat → Int32) : Prop :=
  p.tables.exec = Jvm.exec ∧ c.code = code ∧ meth.sig.returnType = ret ∧ c.maxLocals = 7 ∧ s.vm.findClass R_law = some m.cls ∧ (∀ w ∈ lw_tbl, w.before #[Value.ref b] s = true) ∧ va_X b L xs s s.heap ∧ b < s.heap.size ∧ meth.locks = false ∧ (Jvm.Cond.and given_1 narrow_1).before #[Value.ref b] s = true ∧ c.exceptionTable.toList = [] ∧ meth.name = "law"
theorem nw_L_8 : newOk RL 8 8 7 [.null, .null, .null, .null, .null, .null, .null] := ⟨_, rfl, rfl, tbm (tt_1 23 (by rfl)) rfl, tbm (tt_1 24 (by rfl)) rfl, tbm (tt_1 1 (by rfl)) rfl, tyX9, tyX9_ok, by decide +kernel⟩
theorem nw_L_82 : newOk RL 82 9 38 [.int 0, .int 0, .null, .null, .null, .null, .null, .null, .null, .null, .null, .null, .null, .null, .null, .null, .null, .null, .null, .null, .null, .null, .null, .null, .null, .null, .int 0, .null, .int 0, .null, .int 0, .null, .null, .int 0, .null, .int 0, .null, .int 0] := ⟨_, rfl, rfl, tbm (tt_5 19 (by rfl)) rfl, tbm (tt_5 20 (by rfl)) rfl, tbm (tt_1 11 (by rfl)) rfl, tyX10, tyX10_ok, by decide +kernel⟩
/-- the law: two objects, a row of one long, the loop -/
def DL_law (N L : Nat) (xs : Nat → Int32) (n : Nat) : Option (Int32 × HF) :=
  (DX9_init N n (hup (fun _ => none) n (.inr (8, [.null, .null, .null, .null, .null, .null, .null]))) (n + 1)).bind fun q1 =>
  (DX10_init N q1.2 (hup q1.1 q1.2 (.inr (9, [.int 0, .int 0, .null, .null, .null, .null, .null, .null, .null, .null, .null, .null, .null, .null, .null, .null, .null, .null, .null, .null, .null, .null, .null, .null, .null, .null, .int 0, .null, .int 0, .null, .int 0, .null, .null, .int 0, .null, .int 0, .null, .int 0]))) (q1.2 + 1)).bind fun q2 =>
  DL_law_23 N L xs N n q1.2 q2.2 0 (hup q2.1 q2.2 (.inl (1, (1, .inr (.inl (fun _ => 0)))))) 307 281031
set_option maxRecDepth 20000 in
theorem tL_law {l : Launch} {g : GT} (N b L n : Nat) (xs : Nat → Int32) {r : Int32 × HF} (h : DL_law N L xs n = some r) : V l g (Scr g b L xs) (RL, cL_law, 7, (some .boolean), [], "law") 16 (.inl (some (.int r.1)), r.2, none, 600384, 7289834) 0 [(0, .ref b)] [] (fun _ => none) (some n) 0 0 := by
  unfold DL_law at h
  refine v_new dL_law_0 nw_L_8 (Nat.le_of_ble_eq_true rfl) (Nat.le_of_ble_eq_true rfl) ?_
  refine v_dup dL_law_3 rfl ?_
  obtain ⟨q1, hq1, h⟩ := ob_some h
  have e1 := tX9_init (l := l) (g := g) N n _ _ hq1
  refine v_callI dL_law_4 ml_L_81 ok_X9_init e1 (by decide) rfl (rest := [.ref n]) rfl (Nat.le_of_ble_eq_true rfl) ⟨Nat.le_of_ble_eq_true rfl, Nat.le_of_ble_eq_true rfl⟩ ?_
  refine v_astore_n (ls1 := [(1, .ref n), (0, .ref b)]) dL_law_7 rfl (by decide) rfl ?_
  refine v_new dL_law_8 nw_L_82 (Nat.le_of_ble_eq_true rfl) (Nat.le_of_ble_eq_true rfl) ?_
  refine v_dup dL_law_11 rfl ?_
  obtain ⟨q2, hq2, h⟩ := ob_some h
  have e2 := tX10_init (l := l) (g := g) N q1.2 _ _ hq2
  refine v_callI dL_law_12 ml_L_84 ok_X10_init e2 (by decide) rfl (rest := [.ref q1.2]) rfl (Nat.le_of_ble_eq_true rfl) ⟨Nat.le_of_ble_eq_true rfl, Nat.le_of_ble_eq_true rfl⟩ ?_
  refine v_astore_n (ls1 := [(2, .ref q1.2), (1, .ref n), (0, .ref b)]) dL_law_15 rfl (by decide) rfl ?_
  refine v_iconst (v := 1) dL_law_16 (by decide) ?_
  refine v_newL (K := 1) dL_law_17 ac_L (by decide) (by decide) (by decide) (Nat.le_of_ble_eq_true rfl) (Nat.le_of_ble_eq_true rfl) ?_
  refine v_astore_n (ls1 := [(3, .ref q2.2), (2, .ref q1.2), (1, .ref n), (0, .ref b)]) dL_law_19 rfl (by decide) rfl ?_
  refine v_iconst (v := 0) dL_law_20 (by decide) ?_
  refine v_istore (ls1 := [(4, .int 0), (3, .ref q2.2), (2, .ref q1.2), (1, .ref n), (0, .ref b)]) dL_law_21 (by decide) rfl ?_
  refine v_szn ?_
  exact v_sub (vs_c rfl (vs_c rfl (vs_c rfl (vs_c rfl (vs_c rfl vs_n))))) (v_wide (Nat.le_of_ble_eq_true rfl) (Nat.le_of_ble_eq_true rfl) (tL_law_23 N b L xs N n q1.2 q2.2 0 _ 307 281031 h))
theorem aoI_spec {s : State} (h : (Cond.arrayOver (.array .int)).before #[] s = true) : ∃ comp c k, s.vm.findClass "[I" = some comp ∧ s.vm.classes[c]? = some k ∧ k.kind = .array comp (.array .int) ∧ s.vm.findClass "[[I" = some c := by
  simp only [Cond.before, Cond.holds, Cond.value, beq_iff_eq] at h
  cases hc : s.vm.findClass "[I" with
  | none =>
    have hc' : s.vm.findClass (FieldType.array FieldType.int).toString = none := hc
    simp [hc'] at h
  | some comp =>
    have hc' : s.vm.findClass (FieldType.array FieldType.int).toString = some comp := hc
    simp only [hc', Option.bind_some, Option.bind_eq_some_iff, Option.map_eq_some_iff] at h
    obtain ⟨c, hi, k, hk, hb⟩ := h
    obtain ⟨hlt, hp, -⟩ := Array.findIdx?_eq_some_iff_getElem.mp hi
    have hkk : s.vm.classes[c] = k := (Array.getElem?_eq_some_iff.mp hk).2
    rw [hkk] at hp
    cases hkind : k.kind with
    | array component ty =>
      rw [hkind] at hb hp
      simp at hb hp
      exact ⟨comp, c, k, rfl, hk, by rw [hkind, hp, hb.1], hb.2⟩
    | _ => rw [hkind] at hb; simp at hb
theorem W.mono {p : Program} {l : Launch} {e : Env} {R : Room} {s : State} {m : MethodId} {args : Array Value} {below : List Frame} {meth : Method} {c : Code} {H : Heap} {locs : List Loc} {cells slots : Nat} {Q Q2 : State → Prop} {fr : JFrame} (h : W p l e R s m args below meth c H locs cells slots Q fr) (hq : ∀ t, Q t → Q2 t) : W p l e R s m args below meth c H locs cells slots Q2 fr := fun T hT X => by
  obtain ⟨t, a, b⟩ := h T hT X
  exact ⟨t, a, hq t b⟩
theorem env_of {args : Array Value} {s : State} (hts : ∀ w ∈ lw_tbl, w.before args s = true) (hgv : (Jvm.Cond.and given_1 narrow_1).before args s = true) : ∃ (D : va_G) (ta : Nat → ClassId), Env9 (D, ta, s.heap.size) s := by
  have hTB : ∀ w ∈ TB, w.before args s = true := fun w hw => hts w (List.mem_filter.mp hw).1
  have hgs := flat_of_before _ hgv
  obtain ⟨c0, i0, k0⟩ := u_known (C := RX1) (T := TX1) (N := 5) (n := 5) hTB (cl_in (ci := 0) rfl) (hTB _ (tbm (tt_1 169 (by rfl)) rfl))
  obtain ⟨c1, i1, k1⟩ := u_known (C := RX2) (T := TX2) (N := 17) (n := 17) hTB (cl_in (ci := 1) rfl) (hTB _ (tbm (tt_1 39 (by rfl)) rfl))
  obtain ⟨c2, i2, k2⟩ := u_known (C := RX3) (T := TX3) (N := 3) (n := 3) hTB (cl_in (ci := 2) rfl) (hTB _ (tbm (tt_1 230 (by rfl)) rfl))
  obtain ⟨c3, i3, k3⟩ := u_known (C := RX4) (T := TX4) (N := 2) (n := 2) hTB (cl_in (ci := 3) rfl) (hTB _ (tbm (tt_1 214 (by rfl)) rfl))
  obtain ⟨c4, i4, k4⟩ := u_known (C := RX5) (T := TX5) (N := 2) (n := 2) hTB (cl_in (ci := 4) rfl) (hTB _ (tbm (tt_1 45 (by rfl)) rfl))
  obtain ⟨c5, i5, k5⟩ := u_known (C := RX6) (T := TX6) (N := 2) (n := 2) hTB (cl_in (ci := 5) rfl) (hTB _ (tbm (tt_1 32 (by rfl)) rfl))
  obtain ⟨c6, i6, k6⟩ := u_known (C := RX7) (T := TX7) (N := 1) (n := 1) hTB (cl_in (ci := 6) rfl) (hTB _ (tbm (tt_1 157 (by rfl)) rfl))
  obtain ⟨c7, i7, k7⟩ := u_known (C := RX8) (T := TX8) (N := 3) (n := 3) hTB (cl_in (ci := 7) rfl) (hTB _ (tbm (tt_1 195 (by rfl)) rfl))
  obtain ⟨c8, i8, k8⟩ := u_known (C := RX9) (T := TX9) (N := 7) (n := 7) hTB (cl_in (ci := 8) rfl) (hTB _ (tbm (tt_1 24 (by rfl)) rfl))
  obtain ⟨c9, i9, k9⟩ := u_known (C := RX10) (T := TX10) (N := 38) (n := 38) hTB (cl_in (ci := 9) rfl) (hTB _ (tbm (tt_5 20 (by rfl)) rfl))
  obtain ⟨aI, kI, cI, I1, I2, I3⟩ := Cond.arrayClass_spec (hTB _ ac_I)
  obtain ⟨aL, kL, cL, L1, L2, L3⟩ := Cond.arrayClass_spec (hTB _ ac_L)
  obtain ⟨aZ, kZ, cZ, Z1, Z2, Z3⟩ := Cond.arrayClass_spec (hTB _ ac_Z)
  have hoF : (Cond.arrayOver (.object "FormFields$Field")).before args s = true := hts _ (List.mem_append_right _ (tt_1 38 (by rfl)))
  have hoM : (Cond.arrayOver (.array .int)).before args s = true := hts _ (List.mem_append_right _ (tt_1 237 (by rfl)))
  obtain ⟨cmF, aF, kF, F1, F2, F3, F4, F5⟩ := Cond.arrayOver_spec hoF
  obtain ⟨cmM, aM, kM, M1, M3, M4, M5⟩ := aoI_spec (s := s) hoM
  refine ⟨(fun k => match k with | 0 => c0 | 1 => c1 | 2 => c2 | 3 => c3 | 4 => c4 | 5 => c5 | 6 => c6 | 7 => c7 | 8 => c8 | _ => c9, fun k => match k with | 0 => i0 | 1 => i1 | 2 => i2 | 3 => i3 | 4 => i4 | 5 => i5 | 6 => i6 | 7 => i7 | 8 => i8 | _ => i9), fun k => match k with | 0 => aI | 1 => aL | 2 => aZ | 3 => aF | _ => aM, ⟨?_, ?_⟩, ?_, ?_, ⟨hoF, hoM⟩⟩
  · intro k q hq
    match k, hq with
    | 0, hq => cases hq; exact k0
    | 1, hq => cases hq; exact k1
    | 2, hq => cases hq; exact k2
    | 3, hq => cases hq; exact k3
    | 4, hq => cases hq; exact k4
    | 5, hq => cases hq; exact k5
    | 6, hq => cases hq; exact k6
    | 7, hq => cases hq; exact k7
    | 8, hq => cases hq; exact k8
    | 9, hq => cases hq; exact k9
    | k + 10, hq => simp [cl9] at hq
  · intro k q hq
    match k, hq with
    | 0, hq => cases hq; exact ⟨fun n z => ⟨fun k h => (by cases h), kI, I2, cI, I3⟩, I1⟩
    | 1, hq => cases hq; exact ⟨fun n z => ⟨fun k h => (by cases h), kL, L2, cL, L3⟩, L1⟩
    | 2, hq => cases hq; exact ⟨fun n z => ⟨fun k h => (by cases h), kZ, Z2, cZ, Z3⟩, Z1⟩
    | 3, hq => cases hq; exact ⟨fun n z => ⟨fun k h => (by cases h), kF, F3, cmF, F4⟩, ⟨kF, cmF, F3, F4, F1, F5⟩⟩
    | 4, hq => cases hq; exact ⟨fun n z => ⟨fun k h => (by cases h), kM, M3, cmM, M4⟩, M5⟩
    | k + 5, hq => simp [ty9] at hq
  · intro w hw
    exact va_Nw.of (nb_tab hw) (hts w (List.mem_filter.mp hw).1)
  · intro q hq
    unfold NCP at hq
    simp only [List.mem_cons, List.not_mem_nil, or_false] at hq
    rcases hq with rfl | rfl | rfl | rfl | rfl | rfl <;> exact va_Nc.of (hgs _ (by decide +kernel))
/-- the law's walk out of the pure fact -/
theorem whole_start (HP : ∀ (h L : Nat) (xs : Nat → Int32), L ≤ 384 → ∃ (N : Nat) (f' : HF), DL_law N L xs h = some (1, f')) {p : Program} {e : Env} {s : State} {m : MethodId} {below : List Frame} {meth : Method} {c : Code} (l : Launch) (hlt : l.stackTraces = false) {b L : Nat} {xs : Nat → Int32} (hL : L ≤ 384) (C0 : lw_At p s m meth c b L xs) : W p l e room_1 s m #[Value.ref b] below meth c s.heap [] 0 0 (lw_Z below #[Value.ref b] s) (entryFrame m ([Value.ref b] : List Value).toArray 7) := by
  obtain ⟨hx, hb, hr, hml, hown, hts, hX, hbl, hlocks, hgv, htab, hnm⟩ := C0
  have hTB : ∀ w ∈ TB, w.before #[Value.ref b] s = true := fun w hw => hts w (List.mem_filter.mp hw).1
  obtain ⟨D, ta, hE⟩ := env_of hts hgv
  have hgs := flat_of_before _ hgv
  obtain ⟨N, f', hD⟩ := HP s.heap.size L xs hL
  have hSt : Sts (D, ta, s.heap.size) s s.heap := by
    have hA : ∀ a : Nat, a < s.heap.size → ¬ A9 (D, ta, s.heap.size) a := fun a ha h => absurd ha (Nat.not_lt.mpr h)
    exact ⟨vx_Zqof (hts _ (List.mem_append_right _ (tt_2 77 (by rfl)))) (hTB _ (tbm (tt_1 12 (by rfl)) rfl)) (hgs _ (by decide +kernel)) hA, vx_Zqof (hts _ (List.mem_append_right _ (tt_2 79 (by rfl)))) (hTB _ (tbm (tt_1 12 (by rfl)) rfl)) (hgs _ (by decide +kernel)) hA⟩
  have hV := tL_law (l := l) (g := (D, ta, s.heap.size)) N b L s.heap.size xs hD
  have hl := lv_entry ([.ref b]) (n := 7) (Nat.le_of_ble_eq_true rfl)
  rw [lg_entry_eq]
  refine W.mono (hV p e room_1 s m #[Value.ref b] below meth c s.heap [] _ ⟨hx, hb, hml, hown, hTB, hlocks, hr, htab, hnm, hE, hSt, hlt, ⟨hX, hbl, Nat.not_le.mpr hbl⟩, by decide, by decide, Nat.le_refl _, Nat.le_refl _, Nat.le_refl _⟩ ⟨fun q e9 he => (by cases he), fun n hn => (by cases hn; rfl)⟩ va_S.rf hl) ?_
  intro t ht
  obtain ⟨o, h1, h2, h3⟩ := ht
  refine ⟨o, h1, h2, ?_⟩
  rcases h3 with ⟨⟨⟨v, hv, ho⟩, -, -⟩, L9, hF, hL9⟩ | ⟨q, -, E, ce, L9, ⟨hx9, -⟩, -⟩
  · cases hv
    refine ⟨ho, ?_⟩
    obtain ⟨f1, f2, g1, g2, g3, g4, g5, g6⟩ := hF
    refine ⟨f1, f2, g1, g2, g3, g4, g5, fun a c9 hc9 => ?_⟩
    obtain ⟨c', q1, q2, q3, q4⟩ := g6 a c9 hc9
    refine ⟨c', q1, q2, q3, fun i _ => q4 i (fun hm => ?_)⟩
    have h9 : s.heap.size ≤ a := hL9 _ hm
    have h8 : a < s.heap.size := (Array.getElem?_eq_some_iff.mp hc9).1
    exact absurd h8 (Nat.not_lt.mpr h9)
  · cases hx9
set_option maxHeartbeats 4000000 in
theorem lw_walk (HP : ∀ (h L : Nat) (xs : Nat → Int32), L ≤ 384 → ∃ (N : Nat) (f' : HF), DL_law N L xs h = some (1, f')) (l : Launch) (hlt : l.stackTraces = false) (b : Addr) (xs : List Int32) : MetFree l x (headSpec (Jvm.Cond.code x code maxLocals ret :: tables_1) room_1) (lw_P b xs) (fun _ _ _ _ _ => True) lw_Q := by
  refine MetFree.of_bodyS (code := code) (maxLocals := maxLocals) (ret := ret) (by decide) ?_ ?_
  · intro args s m h hn
    obtain ⟨meth, c, h1, h2, h3, h4, h5, h6, -, -⟩ := Cond.code_spec hn (atoms_spec (ws := Jvm.Cond.code x code maxLocals ret :: tables_1) h _ List.mem_cons_self)
    exact ⟨meth, c, h1, h2, h3, h4, h5, h6⟩
  · intro p e s m args below meth c s₁ B hml0 hP _
    obtain ⟨rfl, hx, hbd, hgv⟩ := hP
    obtain ⟨scr, harrAt, hlist, hof, hsmall⟩ := hx
    obtain ⟨hcb, hkn, -, -⟩ := State.arrayAt?_spec harrAt
    have hown : s.vm.findClass R_law = some m.cls := findClass_of_methodNamed B.named
    have hts0 : ∀ c ∈ (Jvm.Cond.code x code maxLocals ret :: tables_1), c.before #[Value.ref b] s = true := atoms_spec (ws := Jvm.Cond.code x code maxLocals ret :: tables_1) B.pre
    have hts : ∀ w ∈ lw_tbl, w.before #[Value.ref b] s = true := k2_hts_sels lw_privs (fun w hw => hts0 w (List.mem_cons_of_mem _ hw)) lw_privs_ok
    have hml : c.maxLocals = 7 := B.maxLocals_eq (hts0 _ List.mem_cons_self)
    have htab : c.exceptionTable.toList = [] := by
      obtain ⟨meth9, c9, h1, h2, -, -, -, -, h7, -⟩ := Cond.code_spec B.named (hts0 _ List.mem_cons_self)
      cases Option.some.inj (h1.symm.trans B.method)
      cases Option.some.inj (h2.symm.trans (Stand.of_body B).code)
      rw [Array.isEmpty_iff.mp h7]
    have X₀ : Stand p l e room_1 s m #[Value.ref b] below meth c s₁ [] 0 0 := Stand.of_body B
    have hh0 : s₁.heap = s.heap := by rw [B.state]; rfl
    have hsz : scr.slots.size = xs.length := by rw [← Array.length_toList, hlist, List.length_map]
    have hval : ∀ j : Nat, j < xs.length → scr.slots[j]? = some (.int (xs.getD j 0)) := fun j hj => by
      rw [← Array.getElem?_toList, hlist]
      simp [hj]
    have hbl : b < s.heap.size := (Array.getElem?_eq_some_iff.mp hcb).1
    have hX : va_X b xs.length (fun j => xs.getD j 0) s s.heap := ⟨scr, hcb, hof, hkn, hsz, hval⟩
    have K : W p l e room_1 s m #[Value.ref b] below meth c s₁.heap [] 0 0 (lw_Z below #[Value.ref b] s) (entryFrame m ([Value.ref b] : List Value).toArray 7) := by
      rw [hh0]
      exact whole_start HP l hlt hbd ⟨B.exec, B.bytes, B.returns, hml, hown, hts, hX, hbl, B.notSynchronized, hgv, htab, (name_of_methodNamed B.named B.method).1⟩
    obtain ⟨t, a1, o, b1, b2, b3⟩ := K s₁ rfl X₀
    exact ⟨t, o, a1, b1, b2, b3⟩
theorem lw_pre_spec {args : Array Value} {s : State} (h : (Jvm.Cond.and given_1 narrow_1).before args s = true) (hr : rest_1_c.before args s = true) : ∃ (b : Addr) (xs : List Int32), lw_P b xs args s := by
  have hs := flat_of_before _ h
  have hq := flat_of_before _ hr
  have hc : (Cond.count 1).before args s = true := hs _ (by decide +kernel)
  have harr : (Cond.arrayOf (.arg 0) .int).before args s = true := hs _ (by decide +kernel)
  have hle : (Cond.le (.length (.arg 0)) (.int 384)).before args s = true := hs _ (by decide +kernel)
  have hlen : (Cond.isInt (.length (.arg 0))).before args s = true := hq _ (by decide +kernel)
  have hall : (Cond.all (.arg 0) (.isInt (.elem (.arg 0) (.index 0)))).before args s = true := hq _ (by decide +kernel)
  obtain ⟨b, xs, hb, hx⟩ := State.ints_of_pre rfl harr hlen hall
  have hsm : xs.length < 2 ^ 31 := hx.choose_spec.2.2.2
  have hev : (Term.length (.arg 0)).eval args s none [] s = some (.int xs.length.toInt32) := hx.length_eval hb
  have hv := Cond.le_ints hev (show (Term.int 384).eval args s none [] s = some (.int 384) from rfl)
  have hd : xs.length.toInt32 ≤ 384 := by
    simpa [Cond.before, Cond.holds, hv] using hle
  have hN : xs.length ≤ 384 := (Int32.ofNat_le_ofNat hsm (by decide)).mp (show Int32.ofNat xs.length ≤ Int32.ofNat 384 from hd)
  exact ⟨b, xs, Cond.one_arg hc (show args[0]? = some (.ref b) from hb), hx, hN, h⟩
theorem lw_comes (HP : ∀ (h L : Nat) (xs : Nat → Int32), L ≤ 384 → ∃ (N : Nat) (f' : HF), DL_law N L xs h = some (1, f')) (l : Launch) (hlt : l.stackTraces = false) : Comes l x (Jvm.Cond.code x code maxLocals ret :: tables_1) room_1 (fun tb e args s => Calls_1 tb e args s ∧ rest_1 tb e args s ∧ Pre_1 tb e args s)
    (fun _ _ args s o t => lw_Q args s o t) := by
  intro p e ha hc hk s m args below hf hfit hheap happ hpre
  obtain ⟨b, xs, hP⟩ := lw_pre_spec hpre.2.2 hpre.2.1
  obtain ⟨k, o, h1, h2, h3, hQ⟩ := lw_walk HP l hlt b xs p e ha hc hk s m args below hf ((Spec.applies_iff_loose hf).mp happ).1 hP trivial
  exact ⟨k, o, h1, h2, h3, hQ⟩
theorem lw_frame {s t : State} {o : Outcome} {args : Array Value} (h : Framed s o t [] 600384 7289834) :
    Framed s o t (fieldLocs frame_1_writes args s ++ arrayLocs frame_1_arrays args s ++ staticLocs frame_1_statics s) 600384 7289834 := h
theorem lw_limb (HP : ∀ (h L : Nat) (xs : Nat → Int32), L ≤ 384 → ∃ (N : Nat) (f' : HF), DL_law N L xs h = some (1, f')) (L : Cond) (hL : ∀ (args : Array Value) (s t : State), L.after args s (.returned (some (.int 1))) t = true) :
    ArmFor flags0 classFile x code maxLocals ret World_1 tables_1 room_1 Calls_1 rest_1 Pre_1
      (fun tb e a s o t => postC L tb e a s o t ∧ Framed s o t (fieldLocs frame_1_writes a s ++ arrayLocs frame_1_arrays a s ++ staticLocs frame_1_statics s) 600384 7289834) := by
  intro l hfl _ _ p e ha hc hk s m args below hf hfit hheap happ hpre
  obtain ⟨k, o, h1, h2, h3, rfl, hF⟩ := lw_comes HP l (by unfold Launch.stackTraces; rw [hfl]; decide) p e ha hc hk s m args below hf hfit hheap happ hpre
  exact ⟨k, _, h1, h2, h3, hL args s _, lw_frame hF⟩
theorem whole_of (HP : ∀ (h L : Nat) (xs : Nat → Int32), L ≤ 384 → ∃ (N : Nat) (f' : HF), DL_law N L xs h = some (1, f')) : Claimed_1_1 ∧ Claimed_1_2 := ⟨lw_limb HP limb_1_1 (fun args s t => by simp [limb_1_1, Cond.after, Cond.holds, Cond.value]), lw_limb HP limb_1_2 (fun args s t => Cond.after_iff.mpr (by
  first | (rw [show limb_1_2 = Cond.eq .result (.int 1) from rfl, Cond.eq_ints (x := 1) (y := 1) rfl rfl]; simp; done) | (simp [limb_1_2, Cond.value, Term.eval]; done)))⟩
