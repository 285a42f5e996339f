/-! THE LAW'S WRAPPERS -/
theorem cL_13 : Cond.classLink RL 13 "java/util/NoSuchElementException" ∈ TB := tbm (tt_3 52 (by rfl)) rfl
theorem cst_NoSuchElementException : Cond.castable "java/util/NoSuchElementException" "java/util/NoSuchElementException" ∈ NB := nbm (tt_2 52 (by rfl)) rfl
theorem cL_15 : Cond.classLink RL 15 "java/lang/IllegalArgumentException" ∈ TB := tbm (tt_3 53 (by rfl)) rfl
theorem cst_IllegalArgumentException : Cond.castable "java/lang/IllegalArgumentException" "java/lang/IllegalArgumentException" ∈ NB := nbm (tt_3 63 (by rfl)) rfl
theorem cL_17 : Cond.classLink RL 17 "java/lang/IllegalStateException" ∈ TB := tbm (tt_3 54 (by rfl)) rfl
theorem cst_IllegalStateException : Cond.castable "java/lang/IllegalStateException" "java/lang/IllegalStateException" ∈ NB := nbm (tt_3 82 (by rfl)) rfl
theorem cL_19 : Cond.classLink RL 19 "java/lang/UnsupportedOperationException" ∈ TB := tbm (tt_3 55 (by rfl)) rfl
theorem cst_UnsupportedOperationException : Cond.castable "java/lang/UnsupportedOperationException" "java/lang/UnsupportedOperationException" ∈ NB := nbm (tt_3 101 (by rfl)) rfl
theorem cL_43 : Cond.classLink RL 43 "java/lang/IndexOutOfBoundsException" ∈ TB := tbm (tt_3 223 (by rfl)) rfl
theorem cst_IndexOutOfBoundsException : Cond.castable "java/lang/IndexOutOfBoundsException" "java/lang/IndexOutOfBoundsException" ∈ NB := nbm (tt_4 23 (by rfl)) rfl
theorem cL_73 : Cond.classLink RL 73 "java/lang/ArrayIndexOutOfBoundsException" ∈ TB := tbm (tt_4 177 (by rfl)) rfl
theorem cst_ArrayIndexOutOfBoundsException : Cond.castable "java/lang/ArrayIndexOutOfBoundsException" "java/lang/ArrayIndexOutOfBoundsException" ∈ NB := nbm (tt_4 6 (by rfl)) rfl
theorem ok_L_field : mOkX yL_field cL_field 6 (Option.some Jvm.ClassFile.FieldType.int) [(0, 12, 15, 13), (0, 12, 19, 15), (0, 12, 23, 17), (0, 12, 27, 19)] 5 := ⟨tbm (tt_3 51 (by rfl)) rfl, ⟨by decide +kernel, by decide +kernel, by decide +kernel⟩, by decide⟩
def DL_field (N : Nat) (p0 : Nat) (p1 : Int32) (p2 : Int32) (p3 : Int32) (p4 : Nat) (f : HF) : Option (Int32 × HF) :=
  bC (DX9_field N p0 p1 p2 p3 f) (fun x1 f1 =>
    (sL f1 p4 (0 : Int32) (x1.toInt64)).bind fun f2 =>
    some ((0 : Int32), f2)
    ) (fun e1 f1 =>
    if e1 = "java/util/NoSuchElementException" then some ((1 : Int32), f1)
    else
    if e1 = "java/lang/IllegalArgumentException" then some ((2 : Int32), f1)
    else
    if e1 = "java/lang/IllegalStateException" then some ((3 : Int32), f1)
    else
    if e1 = "java/lang/UnsupportedOperationException" then some ((4 : Int32), f1)
    else
    none
    )

set_option maxRecDepth 20000 in
theorem tL_field {l : Launch} {g : GT} {sz : Option Nat} (N : Nat) (p0 : Nat) (p1 : Int32) (p2 : Int32) (p3 : Int32) (p4 : Nat) (f : HF) {r : Int32 × HF} (h : DL_field N p0 p1 p2 p3 p4 f = some r) : MtX l g yL_field cL_field 6 (Option.some Jvm.ClassFile.FieldType.int) [(0, 12, 15, 13), (0, 12, 19, 15), (0, 12, 23, 17), (0, 12, 27, 19)] 11 [.ref p0, .int p1, .int p2, .int p3, .ref p4] f sz (.inl (some (.int r.1)), r.2, none, 1, 6) := by
  unfold DL_field at h
  refine mtx_of (by decide) (Nat.le_of_ble_eq_true rfl) (?_ : V l g (fun _ => True) (RL, cL_field, 6, (Option.some Jvm.ClassFile.FieldType.int), [(0, 12, 15, 13), (0, 12, 19, 15), (0, 12, 23, 17), (0, 12, 27, 19)], "field") 11 (.inl (some (.int r.1)), r.2, none, 1, 6) 0 [(0, .ref p0), (1, .int p1), (2, .int p2), (3, .int p3), (4, .ref p4)] [] f sz 0 0)
  refine v_aload dL_field_0 rfl ?_
  refine v_iconst (v := 0) dL_field_2 (by decide) ?_
  refine v_aload_n dL_field_3 rfl rfl ?_
  refine v_iload_n dL_field_4 rfl rfl ?_
  refine v_iload_n dL_field_5 rfl rfl ?_
  refine v_iload_n dL_field_6 rfl rfl ?_
  rcases bC_some h with ⟨x1, f1, hx, h⟩ | ⟨e1, f1, hx, h⟩
  · have eh := tX9_field (l := l) (g := g) (sz := sz) N p0 p1 p2 p3 f hx
    refine v_cVI dL_field_7 ml_L_7 ok_X9_field eh (kX9_field N p0 p1 p2 p3 f hx) rfl (by decide) rfl (rest := [.int (0 : Int32), .ref p4]) rfl (Nat.le_of_ble_eq_true rfl) ?_
    refine v_i2l dL_field_10 ?_
    obtain ⟨f2, hf2, h⟩ := ob_some h
    refine v_last dL_field_11 hf2 ?_
    refine v_goto (tgt := 31) dL_field_12 (by decide) ?_
    refine v_iconst (v := 0) dL_field_31 (by decide) ?_
    obtain rfl := Option.some.inj h
    exact v_iretW dL_field_32 rfl rfl (Nat.zero_le _) (Nat.zero_le _)
  · have eh := tX9_field (l := l) (g := g) (sz := sz) N p0 p1 p2 p3 f hx
    by_cases c0 : e1 = "java/util/NoSuchElementException"
    · replace h := ip_ c0 h
      subst c0
      obtain rfl := Option.some.inj h
      refine v_catch dL_field_7 ml_L_7 ok_X9_field eh (kX9_field N p0 p1 p2 p3 f hx) rfl (by decide) rfl (rest := [.int (0 : Int32), .ref p4]) rfl (Nat.le_of_ble_eq_true rfl) ⟨Nat.le_of_ble_eq_true rfl, Nat.le_of_ble_eq_true rfl⟩ [] ⟨0, 12, 15, 13⟩ [⟨0, 12, 19, 15⟩, ⟨0, 12, 23, 17⟩, ⟨0, 12, 27, 19⟩] rfl (fun _ h9 => nomatch h9) (by decide) (by decide) cL_13 cst_NoSuchElementException (fun q9 => ?_)
      refine v_astore (ls1 := [(5, .ref q9), (0, .ref p0), (1, .int p1), (2, .int p2), (3, .int p3), (4, .ref p4)]) dL_field_15 (by decide) rfl ?_
      refine v_iconst (v := 1) dL_field_17 (by decide) ?_
      exact v_iretW dL_field_18 rfl rfl (Nat.le_of_ble_eq_true rfl) (Nat.le_of_ble_eq_true rfl)
    replace h := in_ c0 h
    by_cases c1 : e1 = "java/lang/IllegalArgumentException"
    · replace h := ip_ c1 h
      subst c1
      obtain rfl := Option.some.inj h
      refine v_catch dL_field_7 ml_L_7 ok_X9_field eh (kX9_field N p0 p1 p2 p3 f hx) rfl (by decide) rfl (rest := [.int (0 : Int32), .ref p4]) rfl (Nat.le_of_ble_eq_true rfl) ⟨Nat.le_of_ble_eq_true rfl, Nat.le_of_ble_eq_true rfl⟩ [⟨0, 12, 15, 13⟩] ⟨0, 12, 19, 15⟩ [⟨0, 12, 23, 17⟩, ⟨0, 12, 27, 19⟩] rfl (List.forall_mem_cons.mpr ⟨⟨by decide, _, cL_13, by decide⟩, fun _ h9 => nomatch h9⟩) (by decide) (by decide) cL_15 cst_IllegalArgumentException (fun q9 => ?_)
      refine v_astore (ls1 := [(5, .ref q9), (0, .ref p0), (1, .int p1), (2, .int p2), (3, .int p3), (4, .ref p4)]) dL_field_19 (by decide) rfl ?_
      refine v_iconst (v := 2) dL_field_21 (by decide) ?_
      exact v_iretW dL_field_22 rfl rfl (Nat.le_of_ble_eq_true rfl) (Nat.le_of_ble_eq_true rfl)
    replace h := in_ c1 h
    by_cases c2 : e1 = "java/lang/IllegalStateException"
    · replace h := ip_ c2 h
      subst c2
      obtain rfl := Option.some.inj h
      refine v_catch dL_field_7 ml_L_7 ok_X9_field eh (kX9_field N p0 p1 p2 p3 f hx) rfl (by decide) rfl (rest := [.int (0 : Int32), .ref p4]) rfl (Nat.le_of_ble_eq_true rfl) ⟨Nat.le_of_ble_eq_true rfl, Nat.le_of_ble_eq_true rfl⟩ [⟨0, 12, 15, 13⟩, ⟨0, 12, 19, 15⟩] ⟨0, 12, 23, 17⟩ [⟨0, 12, 27, 19⟩] rfl (List.forall_mem_cons.mpr ⟨⟨by decide, _, cL_13, by decide⟩, List.forall_mem_cons.mpr ⟨⟨by decide, _, cL_15, by decide⟩, fun _ h9 => nomatch h9⟩⟩) (by decide) (by decide) cL_17 cst_IllegalStateException (fun q9 => ?_)
      refine v_astore (ls1 := [(5, .ref q9), (0, .ref p0), (1, .int p1), (2, .int p2), (3, .int p3), (4, .ref p4)]) dL_field_23 (by decide) rfl ?_
      refine v_iconst (v := 3) dL_field_25 (by decide) ?_
      exact v_iretW dL_field_26 rfl rfl (Nat.le_of_ble_eq_true rfl) (Nat.le_of_ble_eq_true rfl)
    replace h := in_ c2 h
    by_cases c3 : e1 = "java/lang/UnsupportedOperationException"
    · replace h := ip_ c3 h
      subst c3
      obtain rfl := Option.some.inj h
      refine v_catch dL_field_7 ml_L_7 ok_X9_field eh (kX9_field N p0 p1 p2 p3 f hx) rfl (by decide) rfl (rest := [.int (0 : Int32), .ref p4]) rfl (Nat.le_of_ble_eq_true rfl) ⟨Nat.le_of_ble_eq_true rfl, Nat.le_of_ble_eq_true rfl⟩ [⟨0, 12, 15, 13⟩, ⟨0, 12, 19, 15⟩, ⟨0, 12, 23, 17⟩] ⟨0, 12, 27, 19⟩ [] rfl (List.forall_mem_cons.mpr ⟨⟨by decide, _, cL_13, by decide⟩, List.forall_mem_cons.mpr ⟨⟨by decide, _, cL_15, by decide⟩, List.forall_mem_cons.mpr ⟨⟨by decide, _, cL_17, by decide⟩, fun _ h9 => nomatch h9⟩⟩⟩) (by decide) (by decide) cL_19 cst_UnsupportedOperationException (fun q9 => ?_)
      refine v_astore (ls1 := [(5, .ref q9), (0, .ref p0), (1, .int p1), (2, .int p2), (3, .int p3), (4, .ref p4)]) dL_field_27 (by decide) rfl ?_
      refine v_iconst (v := 4) dL_field_29 (by decide) ?_
      exact v_iretW dL_field_30 rfl rfl (Nat.le_of_ble_eq_true rfl) (Nat.le_of_ble_eq_true rfl)
    replace h := in_ c3 h
    cases h

theorem ok_L_value : mOkX yL_value cL_value 5 (Option.some Jvm.ClassFile.FieldType.int) [(0, 10, 13, 13), (0, 10, 17, 15), (0, 10, 21, 17), (0, 10, 25, 19)] 4 := ⟨tbm (tt_3 124 (by rfl)) rfl, ⟨by decide +kernel, by decide +kernel, by decide +kernel⟩, by decide⟩
def DL_value (N : Nat) (p0 : Nat) (p1 : Int32) (p2 : Int32) (p3 : Nat) (f : HF) : Option (Int32 × HF) :=
  bC (DX9_value N p0 p1 p2 f) (fun x1 f1 =>
    (sL f1 p3 (0 : Int32) (x1.toInt64)).bind fun f2 =>
    some ((0 : Int32), f2)
    ) (fun e1 f1 =>
    if e1 = "java/util/NoSuchElementException" then some ((1 : Int32), f1)
    else
    if e1 = "java/lang/IllegalArgumentException" then some ((2 : Int32), f1)
    else
    if e1 = "java/lang/IllegalStateException" then some ((3 : Int32), f1)
    else
    if e1 = "java/lang/UnsupportedOperationException" then some ((4 : Int32), f1)
    else
    none
    )

set_option maxRecDepth 20000 in
theorem tL_value {l : Launch} {g : GT} {sz : Option Nat} (N : Nat) (p0 : Nat) (p1 : Int32) (p2 : Int32) (p3 : Nat) (f : HF) {r : Int32 × HF} (h : DL_value N p0 p1 p2 p3 f = some r) : MtX l g yL_value cL_value 5 (Option.some Jvm.ClassFile.FieldType.int) [(0, 10, 13, 13), (0, 10, 17, 15), (0, 10, 21, 17), (0, 10, 25, 19)] 11 [.ref p0, .int p1, .int p2, .ref p3] f sz (.inl (some (.int r.1)), r.2, none, 1, 6) := by
  unfold DL_value at h
  refine mtx_of (by decide) (Nat.le_of_ble_eq_true rfl) (?_ : V l g (fun _ => True) (RL, cL_value, 5, (Option.some Jvm.ClassFile.FieldType.int), [(0, 10, 13, 13), (0, 10, 17, 15), (0, 10, 21, 17), (0, 10, 25, 19)], "value") 11 (.inl (some (.int r.1)), r.2, none, 1, 6) 0 [(0, .ref p0), (1, .int p1), (2, .int p2), (3, .ref p3)] [] f sz 0 0)
  refine v_aload_n dL_value_0 rfl rfl ?_
  refine v_iconst (v := 0) dL_value_1 (by decide) ?_
  refine v_aload_n dL_value_2 rfl rfl ?_
  refine v_iload_n dL_value_3 rfl rfl ?_
  refine v_iload_n dL_value_4 rfl rfl ?_
  rcases bC_some h with ⟨x1, f1, hx, h⟩ | ⟨e1, f1, hx, h⟩
  · have eh := tX9_value (l := l) (g := g) (sz := sz) N p0 p1 p2 f hx
    refine v_cVI dL_value_5 ml_L_21 ok_X9_value eh (kX9_value N p0 p1 p2 f hx) rfl (by decide) rfl (rest := [.int (0 : Int32), .ref p3]) rfl (Nat.le_of_ble_eq_true rfl) ?_
    refine v_i2l dL_value_8 ?_
    obtain ⟨f2, hf2, h⟩ := ob_some h
    refine v_last dL_value_9 hf2 ?_
    refine v_goto (tgt := 29) dL_value_10 (by decide) ?_
    refine v_iconst (v := 0) dL_value_29 (by decide) ?_
    obtain rfl := Option.some.inj h
    exact v_iretW dL_value_30 rfl rfl (Nat.zero_le _) (Nat.zero_le _)
  · have eh := tX9_value (l := l) (g := g) (sz := sz) N p0 p1 p2 f hx
    by_cases c0 : e1 = "java/util/NoSuchElementException"
    · replace h := ip_ c0 h
      subst c0
      obtain rfl := Option.some.inj h
      refine v_catch dL_value_5 ml_L_21 ok_X9_value eh (kX9_value N p0 p1 p2 f hx) rfl (by decide) rfl (rest := [.int (0 : Int32), .ref p3]) rfl (Nat.le_of_ble_eq_true rfl) ⟨Nat.le_of_ble_eq_true rfl, Nat.le_of_ble_eq_true rfl⟩ [] ⟨0, 10, 13, 13⟩ [⟨0, 10, 17, 15⟩, ⟨0, 10, 21, 17⟩, ⟨0, 10, 25, 19⟩] rfl (fun _ h9 => nomatch h9) (by decide) (by decide) cL_13 cst_NoSuchElementException (fun q9 => ?_)
      refine v_astore (ls1 := [(4, .ref q9), (0, .ref p0), (1, .int p1), (2, .int p2), (3, .ref p3)]) dL_value_13 (by decide) rfl ?_
      refine v_iconst (v := 1) dL_value_15 (by decide) ?_
      exact v_iretW dL_value_16 rfl rfl (Nat.le_of_ble_eq_true rfl) (Nat.le_of_ble_eq_true rfl)
    replace h := in_ c0 h
    by_cases c1 : e1 = "java/lang/IllegalArgumentException"
    · replace h := ip_ c1 h
      subst c1
      obtain rfl := Option.some.inj h
      refine v_catch dL_value_5 ml_L_21 ok_X9_value eh (kX9_value N p0 p1 p2 f hx) rfl (by decide) rfl (rest := [.int (0 : Int32), .ref p3]) rfl (Nat.le_of_ble_eq_true rfl) ⟨Nat.le_of_ble_eq_true rfl, Nat.le_of_ble_eq_true rfl⟩ [⟨0, 10, 13, 13⟩] ⟨0, 10, 17, 15⟩ [⟨0, 10, 21, 17⟩, ⟨0, 10, 25, 19⟩] rfl (List.forall_mem_cons.mpr ⟨⟨by decide, _, cL_13, by decide⟩, fun _ h9 => nomatch h9⟩) (by decide) (by decide) cL_15 cst_IllegalArgumentException (fun q9 => ?_)
      refine v_astore (ls1 := [(4, .ref q9), (0, .ref p0), (1, .int p1), (2, .int p2), (3, .ref p3)]) dL_value_17 (by decide) rfl ?_
      refine v_iconst (v := 2) dL_value_19 (by decide) ?_
      exact v_iretW dL_value_20 rfl rfl (Nat.le_of_ble_eq_true rfl) (Nat.le_of_ble_eq_true rfl)
    replace h := in_ c1 h
    by_cases c2 : e1 = "java/lang/IllegalStateException"
    · replace h := ip_ c2 h
      subst c2
      obtain rfl := Option.some.inj h
      refine v_catch dL_value_5 ml_L_21 ok_X9_value eh (kX9_value N p0 p1 p2 f hx) rfl (by decide) rfl (rest := [.int (0 : Int32), .ref p3]) rfl (Nat.le_of_ble_eq_true rfl) ⟨Nat.le_of_ble_eq_true rfl, Nat.le_of_ble_eq_true rfl⟩ [⟨0, 10, 13, 13⟩, ⟨0, 10, 17, 15⟩] ⟨0, 10, 21, 17⟩ [⟨0, 10, 25, 19⟩] rfl (List.forall_mem_cons.mpr ⟨⟨by decide, _, cL_13, by decide⟩, List.forall_mem_cons.mpr ⟨⟨by decide, _, cL_15, by decide⟩, fun _ h9 => nomatch h9⟩⟩) (by decide) (by decide) cL_17 cst_IllegalStateException (fun q9 => ?_)
      refine v_astore (ls1 := [(4, .ref q9), (0, .ref p0), (1, .int p1), (2, .int p2), (3, .ref p3)]) dL_value_21 (by decide) rfl ?_
      refine v_iconst (v := 3) dL_value_23 (by decide) ?_
      exact v_iretW dL_value_24 rfl rfl (Nat.le_of_ble_eq_true rfl) (Nat.le_of_ble_eq_true rfl)
    replace h := in_ c2 h
    by_cases c3 : e1 = "java/lang/UnsupportedOperationException"
    · replace h := ip_ c3 h
      subst c3
      obtain rfl := Option.some.inj h
      refine v_catch dL_value_5 ml_L_21 ok_X9_value eh (kX9_value N p0 p1 p2 f hx) rfl (by decide) rfl (rest := [.int (0 : Int32), .ref p3]) rfl (Nat.le_of_ble_eq_true rfl) ⟨Nat.le_of_ble_eq_true rfl, Nat.le_of_ble_eq_true rfl⟩ [⟨0, 10, 13, 13⟩, ⟨0, 10, 17, 15⟩, ⟨0, 10, 21, 17⟩] ⟨0, 10, 25, 19⟩ [] rfl (List.forall_mem_cons.mpr ⟨⟨by decide, _, cL_13, by decide⟩, List.forall_mem_cons.mpr ⟨⟨by decide, _, cL_15, by decide⟩, List.forall_mem_cons.mpr ⟨⟨by decide, _, cL_17, by decide⟩, fun _ h9 => nomatch h9⟩⟩⟩) (by decide) (by decide) cL_19 cst_UnsupportedOperationException (fun q9 => ?_)
      refine v_astore (ls1 := [(4, .ref q9), (0, .ref p0), (1, .int p1), (2, .int p2), (3, .ref p3)]) dL_value_25 (by decide) rfl ?_
      refine v_iconst (v := 4) dL_value_27 (by decide) ?_
      exact v_iretW dL_value_28 rfl rfl (Nat.le_of_ble_eq_true rfl) (Nat.le_of_ble_eq_true rfl)
    replace h := in_ c3 h
    cases h

theorem ok_L_option : mOkX yL_option cL_option 5 (Option.some Jvm.ClassFile.FieldType.int) [(0, 10, 13, 13), (0, 10, 17, 15), (0, 10, 21, 19)] 4 := ⟨tbm (tt_3 167 (by rfl)) rfl, ⟨by decide +kernel, by decide +kernel, by decide +kernel⟩, by decide⟩
def DL_option (N : Nat) (p0 : Nat) (p1 : Int32) (p2 : Int32) (p3 : Nat) (f : HF) : Option (Int32 × HF) :=
  bC (DX9_option N p0 p1 p2 f) (fun x1 f1 =>
    (sL f1 p3 (0 : Int32) (x1.toInt64)).bind fun f2 =>
    some ((0 : Int32), f2)
    ) (fun e1 f1 =>
    if e1 = "java/util/NoSuchElementException" then some ((1 : Int32), f1)
    else
    if e1 = "java/lang/IllegalArgumentException" then some ((2 : Int32), f1)
    else
    if e1 = "java/lang/UnsupportedOperationException" then some ((3 : Int32), f1)
    else
    none
    )

set_option maxRecDepth 20000 in
theorem tL_option {l : Launch} {g : GT} {sz : Option Nat} (N : Nat) (p0 : Nat) (p1 : Int32) (p2 : Int32) (p3 : Nat) (f : HF) {r : Int32 × HF} (h : DL_option N p0 p1 p2 p3 f = some r) : MtX l g yL_option cL_option 5 (Option.some Jvm.ClassFile.FieldType.int) [(0, 10, 13, 13), (0, 10, 17, 15), (0, 10, 21, 19)] 11 [.ref p0, .int p1, .int p2, .ref p3] f sz (.inl (some (.int r.1)), r.2, none, 1, 6) := by
  unfold DL_option at h
  refine mtx_of (by decide) (Nat.le_of_ble_eq_true rfl) (?_ : V l g (fun _ => True) (RL, cL_option, 5, (Option.some Jvm.ClassFile.FieldType.int), [(0, 10, 13, 13), (0, 10, 17, 15), (0, 10, 21, 19)], "option") 11 (.inl (some (.int r.1)), r.2, none, 1, 6) 0 [(0, .ref p0), (1, .int p1), (2, .int p2), (3, .ref p3)] [] f sz 0 0)
  refine v_aload_n dL_option_0 rfl rfl ?_
  refine v_iconst (v := 0) dL_option_1 (by decide) ?_
  refine v_aload_n dL_option_2 rfl rfl ?_
  refine v_iload_n dL_option_3 rfl rfl ?_
  refine v_iload_n dL_option_4 rfl rfl ?_
  rcases bC_some h with ⟨x1, f1, hx, h⟩ | ⟨e1, f1, hx, h⟩
  · have eh := tX9_option (l := l) (g := g) (sz := sz) N p0 p1 p2 f hx
    refine v_cVI dL_option_5 ml_L_25 ok_X9_option eh (kX9_option N p0 p1 p2 f hx) rfl (by decide) rfl (rest := [.int (0 : Int32), .ref p3]) rfl (Nat.le_of_ble_eq_true rfl) ?_
    refine v_i2l dL_option_8 ?_
    obtain ⟨f2, hf2, h⟩ := ob_some h
    refine v_last dL_option_9 hf2 ?_
    refine v_goto (tgt := 25) dL_option_10 (by decide) ?_
    refine v_iconst (v := 0) dL_option_25 (by decide) ?_
    obtain rfl := Option.some.inj h
    exact v_iretW dL_option_26 rfl rfl (Nat.zero_le _) (Nat.zero_le _)
  · have eh := tX9_option (l := l) (g := g) (sz := sz) N p0 p1 p2 f hx
    by_cases c0 : e1 = "java/util/NoSuchElementException"
    · replace h := ip_ c0 h
      subst c0
      obtain rfl := Option.some.inj h
      refine v_catch dL_option_5 ml_L_25 ok_X9_option eh (kX9_option N p0 p1 p2 f hx) rfl (by decide) rfl (rest := [.int (0 : Int32), .ref p3]) rfl (Nat.le_of_ble_eq_true rfl) ⟨Nat.le_of_ble_eq_true rfl, Nat.le_of_ble_eq_true rfl⟩ [] ⟨0, 10, 13, 13⟩ [⟨0, 10, 17, 15⟩, ⟨0, 10, 21, 19⟩] rfl (fun _ h9 => nomatch h9) (by decide) (by decide) cL_13 cst_NoSuchElementException (fun q9 => ?_)
      refine v_astore (ls1 := [(4, .ref q9), (0, .ref p0), (1, .int p1), (2, .int p2), (3, .ref p3)]) dL_option_13 (by decide) rfl ?_
      refine v_iconst (v := 1) dL_option_15 (by decide) ?_
      exact v_iretW dL_option_16 rfl rfl (Nat.le_of_ble_eq_true rfl) (Nat.le_of_ble_eq_true rfl)
    replace h := in_ c0 h
    by_cases c1 : e1 = "java/lang/IllegalArgumentException"
    · replace h := ip_ c1 h
      subst c1
      obtain rfl := Option.some.inj h
      refine v_catch dL_option_5 ml_L_25 ok_X9_option eh (kX9_option N p0 p1 p2 f hx) rfl (by decide) rfl (rest := [.int (0 : Int32), .ref p3]) rfl (Nat.le_of_ble_eq_true rfl) ⟨Nat.le_of_ble_eq_true rfl, Nat.le_of_ble_eq_true rfl⟩ [⟨0, 10, 13, 13⟩] ⟨0, 10, 17, 15⟩ [⟨0, 10, 21, 19⟩] rfl (List.forall_mem_cons.mpr ⟨⟨by decide, _, cL_13, by decide⟩, fun _ h9 => nomatch h9⟩) (by decide) (by decide) cL_15 cst_IllegalArgumentException (fun q9 => ?_)
      refine v_astore (ls1 := [(4, .ref q9), (0, .ref p0), (1, .int p1), (2, .int p2), (3, .ref p3)]) dL_option_17 (by decide) rfl ?_
      refine v_iconst (v := 2) dL_option_19 (by decide) ?_
      exact v_iretW dL_option_20 rfl rfl (Nat.le_of_ble_eq_true rfl) (Nat.le_of_ble_eq_true rfl)
    replace h := in_ c1 h
    by_cases c2 : e1 = "java/lang/UnsupportedOperationException"
    · replace h := ip_ c2 h
      subst c2
      obtain rfl := Option.some.inj h
      refine v_catch dL_option_5 ml_L_25 ok_X9_option eh (kX9_option N p0 p1 p2 f hx) rfl (by decide) rfl (rest := [.int (0 : Int32), .ref p3]) rfl (Nat.le_of_ble_eq_true rfl) ⟨Nat.le_of_ble_eq_true rfl, Nat.le_of_ble_eq_true rfl⟩ [⟨0, 10, 13, 13⟩, ⟨0, 10, 17, 15⟩] ⟨0, 10, 21, 19⟩ [] rfl (List.forall_mem_cons.mpr ⟨⟨by decide, _, cL_13, by decide⟩, List.forall_mem_cons.mpr ⟨⟨by decide, _, cL_15, by decide⟩, fun _ h9 => nomatch h9⟩⟩) (by decide) (by decide) cL_19 cst_UnsupportedOperationException (fun q9 => ?_)
      refine v_astore (ls1 := [(4, .ref q9), (0, .ref p0), (1, .int p1), (2, .int p2), (3, .ref p3)]) dL_option_21 (by decide) rfl ?_
      refine v_iconst (v := 3) dL_option_23 (by decide) ?_
      exact v_iretW dL_option_24 rfl rfl (Nat.le_of_ble_eq_true rfl) (Nat.le_of_ble_eq_true rfl)
    replace h := in_ c2 h
    cases h

theorem ok_L_set : mOkX yL_set cL_set 6 (Option.some Jvm.ClassFile.FieldType.int) [(0, 12, 15, 13), (0, 12, 19, 15)] 5 := ⟨tbm (tt_3 184 (by rfl)) rfl, ⟨by decide +kernel, by decide +kernel, by decide +kernel⟩, by decide⟩
def DL_set (N : Nat) (p0 : Nat) (p1 : Int32) (p2 : Int32) (p3 : Int32) (p4 : Nat) (f : HF) : Option (Int32 × HF) :=
  bC (DX9_set N p0 p1 p2 p3 f) (fun x1 f1 =>
    (sL f1 p4 (0 : Int32) (x1.toInt64)).bind fun f2 =>
    some ((0 : Int32), f2)
    ) (fun e1 f1 =>
    if e1 = "java/util/NoSuchElementException" then some ((1 : Int32), f1)
    else
    if e1 = "java/lang/IllegalArgumentException" then some ((2 : Int32), f1)
    else
    none
    )

set_option maxRecDepth 20000 in
theorem tL_set {l : Launch} {g : GT} {sz : Option Nat} (N : Nat) (p0 : Nat) (p1 : Int32) (p2 : Int32) (p3 : Int32) (p4 : Nat) (f : HF) {r : Int32 × HF} (h : DL_set N p0 p1 p2 p3 p4 f = some r) : MtX l g yL_set cL_set 6 (Option.some Jvm.ClassFile.FieldType.int) [(0, 12, 15, 13), (0, 12, 19, 15)] 11 [.ref p0, .int p1, .int p2, .int p3, .ref p4] f sz (.inl (some (.int r.1)), r.2, none, 1, 6) := by
  unfold DL_set at h
  refine mtx_of (by decide) (Nat.le_of_ble_eq_true rfl) (?_ : V l g (fun _ => True) (RL, cL_set, 6, (Option.some Jvm.ClassFile.FieldType.int), [(0, 12, 15, 13), (0, 12, 19, 15)], "set") 11 (.inl (some (.int r.1)), r.2, none, 1, 6) 0 [(0, .ref p0), (1, .int p1), (2, .int p2), (3, .int p3), (4, .ref p4)] [] f sz 0 0)
  refine v_aload dL_set_0 rfl ?_
  refine v_iconst (v := 0) dL_set_2 (by decide) ?_
  refine v_aload_n dL_set_3 rfl rfl ?_
  refine v_iload_n dL_set_4 rfl rfl ?_
  refine v_iload_n dL_set_5 rfl rfl ?_
  refine v_iload_n dL_set_6 rfl rfl ?_
  rcases bC_some h with ⟨x1, f1, hx, h⟩ | ⟨e1, f1, hx, h⟩
  · have eh := tX9_set (l := l) (g := g) (sz := sz) N p0 p1 p2 p3 f hx
    refine v_cVI dL_set_7 ml_L_28 ok_X9_set eh (kX9_set N p0 p1 p2 p3 f hx) rfl (by decide) rfl (rest := [.int (0 : Int32), .ref p4]) rfl (Nat.le_of_ble_eq_true rfl) ?_
    refine v_i2l dL_set_10 ?_
    obtain ⟨f2, hf2, h⟩ := ob_some h
    refine v_last dL_set_11 hf2 ?_
    refine v_goto (tgt := 23) dL_set_12 (by decide) ?_
    refine v_iconst (v := 0) dL_set_23 (by decide) ?_
    obtain rfl := Option.some.inj h
    exact v_iretW dL_set_24 rfl rfl (Nat.zero_le _) (Nat.zero_le _)
  · have eh := tX9_set (l := l) (g := g) (sz := sz) N p0 p1 p2 p3 f hx
    by_cases c0 : e1 = "java/util/NoSuchElementException"
    · replace h := ip_ c0 h
      subst c0
      obtain rfl := Option.some.inj h
      refine v_catch dL_set_7 ml_L_28 ok_X9_set eh (kX9_set N p0 p1 p2 p3 f hx) rfl (by decide) rfl (rest := [.int (0 : Int32), .ref p4]) rfl (Nat.le_of_ble_eq_true rfl) ⟨Nat.le_of_ble_eq_true rfl, Nat.le_of_ble_eq_true rfl⟩ [] ⟨0, 12, 15, 13⟩ [⟨0, 12, 19, 15⟩] rfl (fun _ h9 => nomatch h9) (by decide) (by decide) cL_13 cst_NoSuchElementException (fun q9 => ?_)
      refine v_astore (ls1 := [(5, .ref q9), (0, .ref p0), (1, .int p1), (2, .int p2), (3, .int p3), (4, .ref p4)]) dL_set_15 (by decide) rfl ?_
      refine v_iconst (v := 1) dL_set_17 (by decide) ?_
      exact v_iretW dL_set_18 rfl rfl (Nat.le_of_ble_eq_true rfl) (Nat.le_of_ble_eq_true rfl)
    replace h := in_ c0 h
    by_cases c1 : e1 = "java/lang/IllegalArgumentException"
    · replace h := ip_ c1 h
      subst c1
      obtain rfl := Option.some.inj h
      refine v_catch dL_set_7 ml_L_28 ok_X9_set eh (kX9_set N p0 p1 p2 p3 f hx) rfl (by decide) rfl (rest := [.int (0 : Int32), .ref p4]) rfl (Nat.le_of_ble_eq_true rfl) ⟨Nat.le_of_ble_eq_true rfl, Nat.le_of_ble_eq_true rfl⟩ [⟨0, 12, 15, 13⟩] ⟨0, 12, 19, 15⟩ [] rfl (List.forall_mem_cons.mpr ⟨⟨by decide, _, cL_13, by decide⟩, fun _ h9 => nomatch h9⟩) (by decide) (by decide) cL_15 cst_IllegalArgumentException (fun q9 => ?_)
      refine v_astore (ls1 := [(5, .ref q9), (0, .ref p0), (1, .int p1), (2, .int p2), (3, .int p3), (4, .ref p4)]) dL_set_19 (by decide) rfl ?_
      refine v_iconst (v := 2) dL_set_21 (by decide) ?_
      exact v_iretW dL_set_22 rfl rfl (Nat.le_of_ble_eq_true rfl) (Nat.le_of_ble_eq_true rfl)
    replace h := in_ c1 h
    cases h

theorem ok_L_bounds : mOkX yL_bounds cL_bounds 7 (Option.some Jvm.ClassFile.FieldType.int) [(0, 8, 11, 13), (0, 8, 15, 15)] 4 := ⟨tbm (tt_3 200 (by rfl)) rfl, ⟨by decide +kernel, by decide +kernel, by decide +kernel⟩, by decide⟩
def DL_bounds (N : Nat) (p0 : Nat) (p1 : Int32) (p2 : Int64) (p3 : Int64) (f : HF) : Option (Int32 × HF) :=
  bC (DX9_bounds N p0 p1 p2 p3 f) (fun _ f1 =>
    some ((0 : Int32), f1)
    ) (fun e1 f1 =>
    if e1 = "java/util/NoSuchElementException" then some ((1 : Int32), f1)
    else
    if e1 = "java/lang/IllegalArgumentException" then some ((2 : Int32), f1)
    else
    none
    )

set_option maxRecDepth 20000 in
theorem tL_bounds {l : Launch} {g : GT} {sz : Option Nat} (N : Nat) (p0 : Nat) (p1 : Int32) (p2 : Int64) (p3 : Int64) (f : HF) {r : Int32 × HF} (h : DL_bounds N p0 p1 p2 p3 f = some r) : MtX l g yL_bounds cL_bounds 7 (Option.some Jvm.ClassFile.FieldType.int) [(0, 8, 11, 13), (0, 8, 15, 15)] 11 [.ref p0, .int p1, .long p2, .long p3] f sz (.inl (some (.int r.1)), r.2, none, 1, 6) := by
  unfold DL_bounds at h
  refine mtx_of (by decide) (Nat.le_of_ble_eq_true rfl) (?_ : V l g (fun _ => True) (RL, cL_bounds, 7, (Option.some Jvm.ClassFile.FieldType.int), [(0, 8, 11, 13), (0, 8, 15, 15)], "bounds") 11 (.inl (some (.int r.1)), r.2, none, 1, 6) 0 [(0, .ref p0), (1, .int p1), (2, .long p2), (4, .long p3)] [] f sz 0 0)
  refine v_aload_n dL_bounds_0 rfl rfl ?_
  refine v_iload_n dL_bounds_1 rfl rfl ?_
  refine v_lload_n dL_bounds_2 rfl rfl ?_
  refine v_lload dL_bounds_3 rfl ?_
  rcases bC_some h with ⟨x1, f1, hx, h⟩ | ⟨e1, f1, hx, h⟩
  · have eh := tX9_bounds (l := l) (g := g) (sz := sz) N p0 p1 p2 p3 f hx
    refine v_cVU dL_bounds_5 ml_L_31 ok_X9_bounds eh (kX9_bounds N p0 p1 p2 p3 f hx) rfl (by decide) rfl (rest := []) rfl (Nat.le_of_ble_eq_true rfl) ?_
    refine v_goto (tgt := 19) dL_bounds_8 (by decide) ?_
    refine v_iconst (v := 0) dL_bounds_19 (by decide) ?_
    obtain rfl := Option.some.inj h
    exact v_iretW dL_bounds_20 rfl rfl (Nat.zero_le _) (Nat.zero_le _)
  · have eh := tX9_bounds (l := l) (g := g) (sz := sz) N p0 p1 p2 p3 f hx
    by_cases c0 : e1 = "java/util/NoSuchElementException"
    · replace h := ip_ c0 h
      subst c0
      obtain rfl := Option.some.inj h
      refine v_catch dL_bounds_5 ml_L_31 ok_X9_bounds eh (kX9_bounds N p0 p1 p2 p3 f hx) rfl (by decide) rfl (rest := []) rfl (Nat.le_of_ble_eq_true rfl) ⟨Nat.le_of_ble_eq_true rfl, Nat.le_of_ble_eq_true rfl⟩ [] ⟨0, 8, 11, 13⟩ [⟨0, 8, 15, 15⟩] rfl (fun _ h9 => nomatch h9) (by decide) (by decide) cL_13 cst_NoSuchElementException (fun q9 => ?_)
      refine v_astore (ls1 := [(6, .ref q9), (0, .ref p0), (1, .int p1), (2, .long p2), (4, .long p3)]) dL_bounds_11 (by decide) rfl ?_
      refine v_iconst (v := 1) dL_bounds_13 (by decide) ?_
      exact v_iretW dL_bounds_14 rfl rfl (Nat.le_of_ble_eq_true rfl) (Nat.le_of_ble_eq_true rfl)
    replace h := in_ c0 h
    by_cases c1 : e1 = "java/lang/IllegalArgumentException"
    · replace h := ip_ c1 h
      subst c1
      obtain rfl := Option.some.inj h
      refine v_catch dL_bounds_5 ml_L_31 ok_X9_bounds eh (kX9_bounds N p0 p1 p2 p3 f hx) rfl (by decide) rfl (rest := []) rfl (Nat.le_of_ble_eq_true rfl) ⟨Nat.le_of_ble_eq_true rfl, Nat.le_of_ble_eq_true rfl⟩ [⟨0, 8, 11, 13⟩] ⟨0, 8, 15, 15⟩ [] rfl (List.forall_mem_cons.mpr ⟨⟨by decide, _, cL_13, by decide⟩, fun _ h9 => nomatch h9⟩) (by decide) (by decide) cL_15 cst_IllegalArgumentException (fun q9 => ?_)
      refine v_astore (ls1 := [(6, .ref q9), (0, .ref p0), (1, .int p1), (2, .long p2), (4, .long p3)]) dL_bounds_15 (by decide) rfl ?_
      refine v_iconst (v := 2) dL_bounds_17 (by decide) ?_
      exact v_iretW dL_bounds_18 rfl rfl (Nat.le_of_ble_eq_true rfl) (Nat.le_of_ble_eq_true rfl)
    replace h := in_ c1 h
    cases h

theorem ok_L_formula : mOkX yL_formula cL_formula 7 (Option.some Jvm.ClassFile.FieldType.int) [(0, 14, 17, 13), (0, 14, 21, 15)] 6 := ⟨tbm (tt_3 208 (by rfl)) rfl, ⟨by decide +kernel, by decide +kernel, by decide +kernel⟩, by decide⟩
def DL_formula (N : Nat) (p0 : Nat) (p1 : Int32) (p2 : Int32) (p3 : Int32) (p4 : Int32) (p5 : Nat) (f : HF) : Option (Int32 × HF) :=
  bC (DX9_formula N p0 p1 p2 p3 p4 f) (fun x1 f1 =>
    (sL f1 p5 (0 : Int32) (x1.toInt64)).bind fun f2 =>
    some ((0 : Int32), f2)
    ) (fun e1 f1 =>
    if e1 = "java/util/NoSuchElementException" then some ((1 : Int32), f1)
    else
    if e1 = "java/lang/IllegalArgumentException" then some ((2 : Int32), f1)
    else
    none
    )

set_option maxRecDepth 20000 in
theorem tL_formula {l : Launch} {g : GT} {sz : Option Nat} (N : Nat) (p0 : Nat) (p1 : Int32) (p2 : Int32) (p3 : Int32) (p4 : Int32) (p5 : Nat) (f : HF) {r : Int32 × HF} (h : DL_formula N p0 p1 p2 p3 p4 p5 f = some r) : MtX l g yL_formula cL_formula 7 (Option.some Jvm.ClassFile.FieldType.int) [(0, 14, 17, 13), (0, 14, 21, 15)] 11 [.ref p0, .int p1, .int p2, .int p3, .int p4, .ref p5] f sz (.inl (some (.int r.1)), r.2, none, 1, 6) := by
  unfold DL_formula at h
  refine mtx_of (by decide) (Nat.le_of_ble_eq_true rfl) (?_ : V l g (fun _ => True) (RL, cL_formula, 7, (Option.some Jvm.ClassFile.FieldType.int), [(0, 14, 17, 13), (0, 14, 21, 15)], "formula") 11 (.inl (some (.int r.1)), r.2, none, 1, 6) 0 [(0, .ref p0), (1, .int p1), (2, .int p2), (3, .int p3), (4, .int p4), (5, .ref p5)] [] f sz 0 0)
  refine v_aload dL_formula_0 rfl ?_
  refine v_iconst (v := 0) dL_formula_2 (by decide) ?_
  refine v_aload_n dL_formula_3 rfl rfl ?_
  refine v_iload_n dL_formula_4 rfl rfl ?_
  refine v_iload_n dL_formula_5 rfl rfl ?_
  refine v_iload_n dL_formula_6 rfl rfl ?_
  refine v_iload dL_formula_7 rfl ?_
  rcases bC_some h with ⟨x1, f1, hx, h⟩ | ⟨e1, f1, hx, h⟩
  · have eh := tX9_formula (l := l) (g := g) (sz := sz) N p0 p1 p2 p3 p4 f hx
    refine v_cVI dL_formula_9 ml_L_35 ok_X9_formula eh (kX9_formula N p0 p1 p2 p3 p4 f hx) rfl (by decide) rfl (rest := [.int (0 : Int32), .ref p5]) rfl (Nat.le_of_ble_eq_true rfl) ?_
    refine v_i2l dL_formula_12 ?_
    obtain ⟨f2, hf2, h⟩ := ob_some h
    refine v_last dL_formula_13 hf2 ?_
    refine v_goto (tgt := 25) dL_formula_14 (by decide) ?_
    refine v_iconst (v := 0) dL_formula_25 (by decide) ?_
    obtain rfl := Option.some.inj h
    exact v_iretW dL_formula_26 rfl rfl (Nat.zero_le _) (Nat.zero_le _)
  · have eh := tX9_formula (l := l) (g := g) (sz := sz) N p0 p1 p2 p3 p4 f hx
    by_cases c0 : e1 = "java/util/NoSuchElementException"
    · replace h := ip_ c0 h
      subst c0
      obtain rfl := Option.some.inj h
      refine v_catch dL_formula_9 ml_L_35 ok_X9_formula eh (kX9_formula N p0 p1 p2 p3 p4 f hx) rfl (by decide) rfl (rest := [.int (0 : Int32), .ref p5]) rfl (Nat.le_of_ble_eq_true rfl) ⟨Nat.le_of_ble_eq_true rfl, Nat.le_of_ble_eq_true rfl⟩ [] ⟨0, 14, 17, 13⟩ [⟨0, 14, 21, 15⟩] rfl (fun _ h9 => nomatch h9) (by decide) (by decide) cL_13 cst_NoSuchElementException (fun q9 => ?_)
      refine v_astore (ls1 := [(6, .ref q9), (0, .ref p0), (1, .int p1), (2, .int p2), (3, .int p3), (4, .int p4), (5, .ref p5)]) dL_formula_17 (by decide) rfl ?_
      refine v_iconst (v := 1) dL_formula_19 (by decide) ?_
      exact v_iretW dL_formula_20 rfl rfl (Nat.le_of_ble_eq_true rfl) (Nat.le_of_ble_eq_true rfl)
    replace h := in_ c0 h
    by_cases c1 : e1 = "java/lang/IllegalArgumentException"
    · replace h := ip_ c1 h
      subst c1
      obtain rfl := Option.some.inj h
      refine v_catch dL_formula_9 ml_L_35 ok_X9_formula eh (kX9_formula N p0 p1 p2 p3 p4 f hx) rfl (by decide) rfl (rest := [.int (0 : Int32), .ref p5]) rfl (Nat.le_of_ble_eq_true rfl) ⟨Nat.le_of_ble_eq_true rfl, Nat.le_of_ble_eq_true rfl⟩ [⟨0, 14, 17, 13⟩] ⟨0, 14, 21, 15⟩ [] rfl (List.forall_mem_cons.mpr ⟨⟨by decide, _, cL_13, by decide⟩, fun _ h9 => nomatch h9⟩) (by decide) (by decide) cL_15 cst_IllegalArgumentException (fun q9 => ?_)
      refine v_astore (ls1 := [(6, .ref q9), (0, .ref p0), (1, .int p1), (2, .int p2), (3, .int p3), (4, .int p4), (5, .ref p5)]) dL_formula_21 (by decide) rfl ?_
      refine v_iconst (v := 2) dL_formula_23 (by decide) ?_
      exact v_iretW dL_formula_24 rfl rfl (Nat.le_of_ble_eq_true rfl) (Nat.le_of_ble_eq_true rfl)
    replace h := in_ c1 h
    cases h

theorem ok_L_failed : mOkX yL_failed cL_failed 4 (Option.some Jvm.ClassFile.FieldType.int) [(0, 9, 12, 43)] 3 := ⟨tbm (tt_3 222 (by rfl)) rfl, ⟨by decide +kernel, by decide +kernel, by decide +kernel⟩, by decide⟩
def DL_failed (N : Nat) (p0 : Nat) (p1 : Int32) (p2 : Nat) (f : HF) : Option (Int32 × HF) :=
  bCR (DX9_failed N p0 p1 f) (fun x1 =>
    (sL f p2 (0 : Int32) (x1.toInt64)).bind fun f2 =>
    some ((0 : Int32), f2)
    ) (fun e1 =>
    if e1 = "java/lang/IndexOutOfBoundsException" then some ((1 : Int32), f)
    else
    none
    )

set_option maxRecDepth 20000 in
theorem tL_failed {l : Launch} {g : GT} {sz : Option Nat} (N : Nat) (p0 : Nat) (p1 : Int32) (p2 : Nat) (f : HF) {r : Int32 × HF} (h : DL_failed N p0 p1 p2 f = some r) : MtX l g yL_failed cL_failed 4 (Option.some Jvm.ClassFile.FieldType.int) [(0, 9, 12, 43)] 9 [.ref p0, .int p1, .ref p2] f sz (.inl (some (.int r.1)), r.2, none, 1, 6) := by
  unfold DL_failed at h
  refine mtx_of (by decide) (Nat.le_of_ble_eq_true rfl) (?_ : V l g (fun _ => True) (RL, cL_failed, 4, (Option.some Jvm.ClassFile.FieldType.int), [(0, 9, 12, 43)], "failed") 9 (.inl (some (.int r.1)), r.2, none, 1, 6) 0 [(0, .ref p0), (1, .int p1), (2, .ref p2)] [] f sz 0 0)
  refine v_aload_n dL_failed_0 rfl rfl ?_
  refine v_iconst (v := 0) dL_failed_1 (by decide) ?_
  refine v_aload_n dL_failed_2 rfl rfl ?_
  refine v_iload_n dL_failed_3 rfl rfl ?_
  rcases bCR_some h with ⟨x1, hx, h⟩ | ⟨e1, hx, h⟩
  · have eh := tX9_failed (l := l) (g := g) (sz := sz) N p0 p1 f hx
    refine v_cVI dL_failed_4 ml_L_39 ok_X9_failed eh (kX9_failed N p0 p1 f hx) rfl (by decide) rfl (rest := [.int (0 : Int32), .ref p2]) rfl (Nat.le_of_ble_eq_true rfl) ?_
    refine v_i2l dL_failed_7 ?_
    obtain ⟨f2, hf2, h⟩ := ob_some h
    refine v_last dL_failed_8 hf2 ?_
    refine v_goto (tgt := 15) dL_failed_9 (by decide) ?_
    refine v_iconst (v := 0) dL_failed_15 (by decide) ?_
    obtain rfl := Option.some.inj h
    exact v_iretW dL_failed_16 rfl rfl (Nat.zero_le _) (Nat.zero_le _)
  · have eh := tX9_failed (l := l) (g := g) (sz := sz) N p0 p1 f hx
    by_cases c0 : e1 = "java/lang/IndexOutOfBoundsException"
    · replace h := ip_ c0 h
      subst c0
      obtain rfl := Option.some.inj h
      refine v_catch dL_failed_4 ml_L_39 ok_X9_failed eh (kX9_failed N p0 p1 f hx) rfl (by decide) rfl (rest := [.int (0 : Int32), .ref p2]) rfl (Nat.le_of_ble_eq_true rfl) ⟨Nat.le_of_ble_eq_true rfl, Nat.le_of_ble_eq_true rfl⟩ [] ⟨0, 9, 12, 43⟩ [] rfl (fun _ h9 => nomatch h9) (by decide) (by decide) cL_43 cst_IndexOutOfBoundsException (fun q9 => ?_)
      refine v_astore_n (ls1 := [(3, .ref q9), (0, .ref p0), (1, .int p1), (2, .ref p2)]) dL_failed_12 rfl (by decide) rfl ?_
      refine v_iconst (v := 1) dL_failed_13 (by decide) ?_
      exact v_iretW dL_failed_14 rfl rfl (Nat.le_of_ble_eq_true rfl) (Nat.le_of_ble_eq_true rfl)
    replace h := in_ c0 h
    cases h

theorem ok_L_fails : mOkX yL_fails cL_fails 5 (Option.some Jvm.ClassFile.FieldType.int) [(0, 10, 13, 13), (0, 10, 17, 15)] 4 := ⟨tbm (tt_4 39 (by rfl)) rfl, ⟨by decide +kernel, by decide +kernel, by decide +kernel⟩, by decide⟩
def DL_fails (N : Nat) (p0 : Nat) (p1 : Int32) (p2 : Int32) (p3 : Nat) (f : HF) : Option (Int32 × HF) :=
  bC (DX9_fails N p0 p1 p2 f) (fun x1 f1 =>
    (sL f1 p3 (0 : Int32) (x1.toInt64)).bind fun f2 =>
    some ((0 : Int32), f2)
    ) (fun e1 f1 =>
    if e1 = "java/util/NoSuchElementException" then some ((1 : Int32), f1)
    else
    if e1 = "java/lang/IllegalArgumentException" then some ((2 : Int32), f1)
    else
    none
    )

set_option maxRecDepth 20000 in
theorem tL_fails {l : Launch} {g : GT} {sz : Option Nat} (N : Nat) (p0 : Nat) (p1 : Int32) (p2 : Int32) (p3 : Nat) (f : HF) {r : Int32 × HF} (h : DL_fails N p0 p1 p2 p3 f = some r) : MtX l g yL_fails cL_fails 5 (Option.some Jvm.ClassFile.FieldType.int) [(0, 10, 13, 13), (0, 10, 17, 15)] 11 [.ref p0, .int p1, .int p2, .ref p3] f sz (.inl (some (.int r.1)), r.2, none, 1, 6) := by
  unfold DL_fails at h
  refine mtx_of (by decide) (Nat.le_of_ble_eq_true rfl) (?_ : V l g (fun _ => True) (RL, cL_fails, 5, (Option.some Jvm.ClassFile.FieldType.int), [(0, 10, 13, 13), (0, 10, 17, 15)], "fails") 11 (.inl (some (.int r.1)), r.2, none, 1, 6) 0 [(0, .ref p0), (1, .int p1), (2, .int p2), (3, .ref p3)] [] f sz 0 0)
  refine v_aload_n dL_fails_0 rfl rfl ?_
  refine v_iconst (v := 0) dL_fails_1 (by decide) ?_
  refine v_aload_n dL_fails_2 rfl rfl ?_
  refine v_iload_n dL_fails_3 rfl rfl ?_
  refine v_iload_n dL_fails_4 rfl rfl ?_
  rcases bC_some h with ⟨x1, f1, hx, h⟩ | ⟨e1, f1, hx, h⟩
  · have eh := tX9_fails (l := l) (g := g) (sz := sz) N p0 p1 p2 f hx
    refine v_cVI dL_fails_5 ml_L_45 ok_X9_fails eh (kX9_fails N p0 p1 p2 f hx) rfl (by decide) rfl (rest := [.int (0 : Int32), .ref p3]) rfl (Nat.le_of_ble_eq_true rfl) ?_
    refine v_i2l dL_fails_8 ?_
    obtain ⟨f2, hf2, h⟩ := ob_some h
    refine v_last dL_fails_9 hf2 ?_
    refine v_goto (tgt := 21) dL_fails_10 (by decide) ?_
    refine v_iconst (v := 0) dL_fails_21 (by decide) ?_
    obtain rfl := Option.some.inj h
    exact v_iretW dL_fails_22 rfl rfl (Nat.zero_le _) (Nat.zero_le _)
  · have eh := tX9_fails (l := l) (g := g) (sz := sz) N p0 p1 p2 f hx
    by_cases c0 : e1 = "java/util/NoSuchElementException"
    · replace h := ip_ c0 h
      subst c0
      obtain rfl := Option.some.inj h
      refine v_catch dL_fails_5 ml_L_45 ok_X9_fails eh (kX9_fails N p0 p1 p2 f hx) rfl (by decide) rfl (rest := [.int (0 : Int32), .ref p3]) rfl (Nat.le_of_ble_eq_true rfl) ⟨Nat.le_of_ble_eq_true rfl, Nat.le_of_ble_eq_true rfl⟩ [] ⟨0, 10, 13, 13⟩ [⟨0, 10, 17, 15⟩] rfl (fun _ h9 => nomatch h9) (by decide) (by decide) cL_13 cst_NoSuchElementException (fun q9 => ?_)
      refine v_astore (ls1 := [(4, .ref q9), (0, .ref p0), (1, .int p1), (2, .int p2), (3, .ref p3)]) dL_fails_13 (by decide) rfl ?_
      refine v_iconst (v := 1) dL_fails_15 (by decide) ?_
      exact v_iretW dL_fails_16 rfl rfl (Nat.le_of_ble_eq_true rfl) (Nat.le_of_ble_eq_true rfl)
    replace h := in_ c0 h
    by_cases c1 : e1 = "java/lang/IllegalArgumentException"
    · replace h := ip_ c1 h
      subst c1
      obtain rfl := Option.some.inj h
      refine v_catch dL_fails_5 ml_L_45 ok_X9_fails eh (kX9_fails N p0 p1 p2 f hx) rfl (by decide) rfl (rest := [.int (0 : Int32), .ref p3]) rfl (Nat.le_of_ble_eq_true rfl) ⟨Nat.le_of_ble_eq_true rfl, Nat.le_of_ble_eq_true rfl⟩ [⟨0, 10, 13, 13⟩] ⟨0, 10, 17, 15⟩ [] rfl (List.forall_mem_cons.mpr ⟨⟨by decide, _, cL_13, by decide⟩, fun _ h9 => nomatch h9⟩) (by decide) (by decide) cL_15 cst_IllegalArgumentException (fun q9 => ?_)
      refine v_astore (ls1 := [(4, .ref q9), (0, .ref p0), (1, .int p1), (2, .int p2), (3, .ref p3)]) dL_fails_17 (by decide) rfl ?_
      refine v_iconst (v := 2) dL_fails_19 (by decide) ?_
      exact v_iretW dL_fails_20 rfl rfl (Nat.le_of_ble_eq_true rfl) (Nat.le_of_ble_eq_true rfl)
    replace h := in_ c1 h
    cases h

theorem ok_L_shown : mOkX yL_shown cL_shown 5 (Option.some Jvm.ClassFile.FieldType.int) [(0, 10, 13, 13)] 4 := ⟨tbm (tt_4 46 (by rfl)) rfl, ⟨by decide +kernel, by decide +kernel, by decide +kernel⟩, by decide⟩
def DL_shown (N : Nat) (p0 : Nat) (p1 : Int32) (p2 : Int32) (p3 : Nat) (f : HF) : Option (Int32 × HF) :=
  bC (DX9_shown N p0 p1 p2 f) (fun x1 f1 =>
    (sL f1 p3 (0 : Int32) (x1.toInt64)).bind fun f2 =>
    some ((0 : Int32), f2)
    ) (fun e1 f1 =>
    if e1 = "java/util/NoSuchElementException" then some ((1 : Int32), f1)
    else
    none
    )

set_option maxRecDepth 20000 in
theorem tL_shown {l : Launch} {g : GT} {sz : Option Nat} (N : Nat) (p0 : Nat) (p1 : Int32) (p2 : Int32) (p3 : Nat) (f : HF) {r : Int32 × HF} (h : DL_shown N p0 p1 p2 p3 f = some r) : MtX l g yL_shown cL_shown 5 (Option.some Jvm.ClassFile.FieldType.int) [(0, 10, 13, 13)] 11 [.ref p0, .int p1, .int p2, .ref p3] f sz (.inl (some (.int r.1)), r.2, none, 1, 6) := by
  unfold DL_shown at h
  refine mtx_of (by decide) (Nat.le_of_ble_eq_true rfl) (?_ : V l g (fun _ => True) (RL, cL_shown, 5, (Option.some Jvm.ClassFile.FieldType.int), [(0, 10, 13, 13)], "shown") 11 (.inl (some (.int r.1)), r.2, none, 1, 6) 0 [(0, .ref p0), (1, .int p1), (2, .int p2), (3, .ref p3)] [] f sz 0 0)
  refine v_aload_n dL_shown_0 rfl rfl ?_
  refine v_iconst (v := 0) dL_shown_1 (by decide) ?_
  refine v_aload_n dL_shown_2 rfl rfl ?_
  refine v_iload_n dL_shown_3 rfl rfl ?_
  refine v_iload_n dL_shown_4 rfl rfl ?_
  rcases bC_some h with ⟨x1, f1, hx, h⟩ | ⟨e1, f1, hx, h⟩
  · have eh := tX9_shown (l := l) (g := g) (sz := sz) N p0 p1 p2 f hx
    refine v_cVI dL_shown_5 ml_L_49 ok_X9_shown eh (kX9_shown N p0 p1 p2 f hx) rfl (by decide) rfl (rest := [.int (0 : Int32), .ref p3]) rfl (Nat.le_of_ble_eq_true rfl) ?_
    refine v_i2l dL_shown_8 ?_
    obtain ⟨f2, hf2, h⟩ := ob_some h
    refine v_last dL_shown_9 hf2 ?_
    refine v_goto (tgt := 17) dL_shown_10 (by decide) ?_
    refine v_iconst (v := 0) dL_shown_17 (by decide) ?_
    obtain rfl := Option.some.inj h
    exact v_iretW dL_shown_18 rfl rfl (Nat.zero_le _) (Nat.zero_le _)
  · have eh := tX9_shown (l := l) (g := g) (sz := sz) N p0 p1 p2 f hx
    by_cases c0 : e1 = "java/util/NoSuchElementException"
    · replace h := ip_ c0 h
      subst c0
      obtain rfl := Option.some.inj h
      refine v_catch dL_shown_5 ml_L_49 ok_X9_shown eh (kX9_shown N p0 p1 p2 f hx) rfl (by decide) rfl (rest := [.int (0 : Int32), .ref p3]) rfl (Nat.le_of_ble_eq_true rfl) ⟨Nat.le_of_ble_eq_true rfl, Nat.le_of_ble_eq_true rfl⟩ [] ⟨0, 10, 13, 13⟩ [] rfl (fun _ h9 => nomatch h9) (by decide) (by decide) cL_13 cst_NoSuchElementException (fun q9 => ?_)
      refine v_astore (ls1 := [(4, .ref q9), (0, .ref p0), (1, .int p1), (2, .int p2), (3, .ref p3)]) dL_shown_13 (by decide) rfl ?_
      refine v_iconst (v := 1) dL_shown_15 (by decide) ?_
      exact v_iretW dL_shown_16 rfl rfl (Nat.le_of_ble_eq_true rfl) (Nat.le_of_ble_eq_true rfl)
    replace h := in_ c0 h
    cases h

theorem ok_L_size : mOkX yL_size cL_size 4 (Option.some Jvm.ClassFile.FieldType.int) [(0, 9, 12, 13), (0, 9, 15, 15)] 3 := ⟨tbm (tt_4 79 (by rfl)) rfl, ⟨by decide +kernel, by decide +kernel, by decide +kernel⟩, by decide⟩
def DL_size (N : Nat) (p0 : Nat) (p1 : Int32) (p2 : Nat) (f : HF) : Option (Int32 × HF) :=
  bC (DX9_size N p0 p1 f) (fun x1 f1 =>
    (sL f1 p2 (0 : Int32) (x1.toInt64)).bind fun f2 =>
    some ((0 : Int32), f2)
    ) (fun e1 f1 =>
    if e1 = "java/util/NoSuchElementException" then some ((1 : Int32), f1)
    else
    if e1 = "java/lang/IllegalArgumentException" then some ((2 : Int32), f1)
    else
    none
    )

set_option maxRecDepth 20000 in
theorem tL_size {l : Launch} {g : GT} {sz : Option Nat} (N : Nat) (p0 : Nat) (p1 : Int32) (p2 : Nat) (f : HF) {r : Int32 × HF} (h : DL_size N p0 p1 p2 f = some r) : MtX l g yL_size cL_size 4 (Option.some Jvm.ClassFile.FieldType.int) [(0, 9, 12, 13), (0, 9, 15, 15)] 12 [.ref p0, .int p1, .ref p2] f sz (.inl (some (.int r.1)), r.2, none, 1, 6) := by
  unfold DL_size at h
  refine mtx_of (by decide) (Nat.le_of_ble_eq_true rfl) (?_ : V l g (fun _ => True) (RL, cL_size, 4, (Option.some Jvm.ClassFile.FieldType.int), [(0, 9, 12, 13), (0, 9, 15, 15)], "size") 12 (.inl (some (.int r.1)), r.2, none, 1, 6) 0 [(0, .ref p0), (1, .int p1), (2, .ref p2)] [] f sz 0 0)
  refine v_aload_n dL_size_0 rfl rfl ?_
  refine v_iconst (v := 0) dL_size_1 (by decide) ?_
  refine v_aload_n dL_size_2 rfl rfl ?_
  refine v_iload_n dL_size_3 rfl rfl ?_
  rcases bC_some h with ⟨x1, f1, hx, h⟩ | ⟨e1, f1, hx, h⟩
  · have eh := tX9_size (l := l) (g := g) (sz := sz) N p0 p1 f hx
    refine v_cVI dL_size_4 ml_L_52 ok_X9_size eh (kX9_size N p0 p1 f hx) rfl (by decide) rfl (rest := [.int (0 : Int32), .ref p2]) rfl (Nat.le_of_ble_eq_true rfl) ?_
    refine v_i2l dL_size_7 ?_
    obtain ⟨f2, hf2, h⟩ := ob_some h
    refine v_last dL_size_8 hf2 ?_
    refine v_goto (tgt := 18) dL_size_9 (by decide) ?_
    refine v_iconst (v := 0) dL_size_18 (by decide) ?_
    obtain rfl := Option.some.inj h
    exact v_iretW dL_size_19 rfl rfl (Nat.zero_le _) (Nat.zero_le _)
  · have eh := tX9_size (l := l) (g := g) (sz := sz) N p0 p1 f hx
    by_cases c0 : e1 = "java/util/NoSuchElementException"
    · replace h := ip_ c0 h
      subst c0
      obtain rfl := Option.some.inj h
      refine v_catch dL_size_4 ml_L_52 ok_X9_size eh (kX9_size N p0 p1 f hx) rfl (by decide) rfl (rest := [.int (0 : Int32), .ref p2]) rfl (Nat.le_of_ble_eq_true rfl) ⟨Nat.le_of_ble_eq_true rfl, Nat.le_of_ble_eq_true rfl⟩ [] ⟨0, 9, 12, 13⟩ [⟨0, 9, 15, 15⟩] rfl (fun _ h9 => nomatch h9) (by decide) (by decide) cL_13 cst_NoSuchElementException (fun q9 => ?_)
      refine v_astore_n (ls1 := [(3, .ref q9), (0, .ref p0), (1, .int p1), (2, .ref p2)]) dL_size_12 rfl (by decide) rfl ?_
      refine v_iconst (v := 1) dL_size_13 (by decide) ?_
      exact v_iretW dL_size_14 rfl rfl (Nat.le_of_ble_eq_true rfl) (Nat.le_of_ble_eq_true rfl)
    replace h := in_ c0 h
    by_cases c1 : e1 = "java/lang/IllegalArgumentException"
    · replace h := ip_ c1 h
      subst c1
      obtain rfl := Option.some.inj h
      refine v_catch dL_size_4 ml_L_52 ok_X9_size eh (kX9_size N p0 p1 f hx) rfl (by decide) rfl (rest := [.int (0 : Int32), .ref p2]) rfl (Nat.le_of_ble_eq_true rfl) ⟨Nat.le_of_ble_eq_true rfl, Nat.le_of_ble_eq_true rfl⟩ [⟨0, 9, 12, 13⟩] ⟨0, 9, 15, 15⟩ [] rfl (List.forall_mem_cons.mpr ⟨⟨by decide, _, cL_13, by decide⟩, fun _ h9 => nomatch h9⟩) (by decide) (by decide) cL_15 cst_IllegalArgumentException (fun q9 => ?_)
      refine v_astore_n (ls1 := [(3, .ref q9), (0, .ref p0), (1, .int p1), (2, .ref p2)]) dL_size_15 rfl (by decide) rfl ?_
      refine v_iconst (v := 2) dL_size_16 (by decide) ?_
      exact v_iretW dL_size_17 rfl rfl (Nat.le_of_ble_eq_true rfl) (Nat.le_of_ble_eq_true rfl)
    replace h := in_ c1 h
    cases h

theorem ok_L_validate : mOkX yL_validate cL_validate 4 (Option.some Jvm.ClassFile.FieldType.int) [(0, 9, 12, 13), (0, 9, 15, 15)] 3 := ⟨tbm (tt_4 98 (by rfl)) rfl, ⟨by decide +kernel, by decide +kernel, by decide +kernel⟩, by decide⟩
def DL_validate (N : Nat) (p0 : Nat) (p1 : Int32) (p2 : Nat) (f : HF) : Option (Int32 × HF) :=
  bCR (DX9_validate N p0 p1 f) (fun x1 =>
    (sL f p2 (0 : Int32) (x1.toInt64)).bind fun f2 =>
    some ((0 : Int32), f2)
    ) (fun e1 =>
    if e1 = "java/util/NoSuchElementException" then some ((1 : Int32), f)
    else
    if e1 = "java/lang/IllegalArgumentException" then some ((2 : Int32), f)
    else
    none
    )

set_option maxRecDepth 20000 in
theorem tL_validate {l : Launch} {g : GT} {sz : Option Nat} (N : Nat) (p0 : Nat) (p1 : Int32) (p2 : Nat) (f : HF) {r : Int32 × HF} (h : DL_validate N p0 p1 p2 f = some r) : MtX l g yL_validate cL_validate 4 (Option.some Jvm.ClassFile.FieldType.int) [(0, 9, 12, 13), (0, 9, 15, 15)] 12 [.ref p0, .int p1, .ref p2] f sz (.inl (some (.int r.1)), r.2, none, 1, 6) := by
  unfold DL_validate at h
  refine mtx_of (by decide) (Nat.le_of_ble_eq_true rfl) (?_ : V l g (fun _ => True) (RL, cL_validate, 4, (Option.some Jvm.ClassFile.FieldType.int), [(0, 9, 12, 13), (0, 9, 15, 15)], "validate") 12 (.inl (some (.int r.1)), r.2, none, 1, 6) 0 [(0, .ref p0), (1, .int p1), (2, .ref p2)] [] f sz 0 0)
  refine v_aload_n dL_validate_0 rfl rfl ?_
  refine v_iconst (v := 0) dL_validate_1 (by decide) ?_
  refine v_aload_n dL_validate_2 rfl rfl ?_
  refine v_iload_n dL_validate_3 rfl rfl ?_
  rcases bCR_some h with ⟨x1, hx, h⟩ | ⟨e1, hx, h⟩
  · have eh := tX9_validate (l := l) (g := g) (sz := sz) N p0 p1 f hx
    refine v_cVI dL_validate_4 ml_L_55 ok_X9_validate eh (kX9_validate N p0 p1 f hx) rfl (by decide) rfl (rest := [.int (0 : Int32), .ref p2]) rfl (Nat.le_of_ble_eq_true rfl) ?_
    refine v_i2l dL_validate_7 ?_
    obtain ⟨f2, hf2, h⟩ := ob_some h
    refine v_last dL_validate_8 hf2 ?_
    refine v_goto (tgt := 18) dL_validate_9 (by decide) ?_
    refine v_iconst (v := 0) dL_validate_18 (by decide) ?_
    obtain rfl := Option.some.inj h
    exact v_iretW dL_validate_19 rfl rfl (Nat.zero_le _) (Nat.zero_le _)
  · have eh := tX9_validate (l := l) (g := g) (sz := sz) N p0 p1 f hx
    by_cases c0 : e1 = "java/util/NoSuchElementException"
    · replace h := ip_ c0 h
      subst c0
      obtain rfl := Option.some.inj h
      refine v_catch dL_validate_4 ml_L_55 ok_X9_validate eh (kX9_validate N p0 p1 f hx) rfl (by decide) rfl (rest := [.int (0 : Int32), .ref p2]) rfl (Nat.le_of_ble_eq_true rfl) ⟨Nat.le_of_ble_eq_true rfl, Nat.le_of_ble_eq_true rfl⟩ [] ⟨0, 9, 12, 13⟩ [⟨0, 9, 15, 15⟩] rfl (fun _ h9 => nomatch h9) (by decide) (by decide) cL_13 cst_NoSuchElementException (fun q9 => ?_)
      refine v_astore_n (ls1 := [(3, .ref q9), (0, .ref p0), (1, .int p1), (2, .ref p2)]) dL_validate_12 rfl (by decide) rfl ?_
      refine v_iconst (v := 1) dL_validate_13 (by decide) ?_
      exact v_iretW dL_validate_14 rfl rfl (Nat.le_of_ble_eq_true rfl) (Nat.le_of_ble_eq_true rfl)
    replace h := in_ c0 h
    by_cases c1 : e1 = "java/lang/IllegalArgumentException"
    · replace h := ip_ c1 h
      subst c1
      obtain rfl := Option.some.inj h
      refine v_catch dL_validate_4 ml_L_55 ok_X9_validate eh (kX9_validate N p0 p1 f hx) rfl (by decide) rfl (rest := [.int (0 : Int32), .ref p2]) rfl (Nat.le_of_ble_eq_true rfl) ⟨Nat.le_of_ble_eq_true rfl, Nat.le_of_ble_eq_true rfl⟩ [⟨0, 9, 12, 13⟩] ⟨0, 9, 15, 15⟩ [] rfl (List.forall_mem_cons.mpr ⟨⟨by decide, _, cL_13, by decide⟩, fun _ h9 => nomatch h9⟩) (by decide) (by decide) cL_15 cst_IllegalArgumentException (fun q9 => ?_)
      refine v_astore_n (ls1 := [(3, .ref q9), (0, .ref p0), (1, .int p1), (2, .ref p2)]) dL_validate_15 rfl (by decide) rfl ?_
      refine v_iconst (v := 2) dL_validate_16 (by decide) ?_
      exact v_iretW dL_validate_17 rfl rfl (Nat.le_of_ble_eq_true rfl) (Nat.le_of_ble_eq_true rfl)
    replace h := in_ c1 h
    cases h

theorem ok_L_appearance : mOkX yL_appearance cL_appearance 4 (Option.some Jvm.ClassFile.FieldType.int) [(0, 9, 12, 13), (0, 9, 15, 15)] 3 := ⟨tbm (tt_4 114 (by rfl)) rfl, ⟨by decide +kernel, by decide +kernel, by decide +kernel⟩, by decide⟩
def DL_appearance (N : Nat) (p0 : Nat) (p1 : Int32) (p2 : Nat) (f : HF) : Option (Int32 × HF) :=
  bC (DX9_appearance N p0 p1 f) (fun x1 f1 =>
    (sL f1 p2 (0 : Int32) (x1.toInt64)).bind fun f2 =>
    some ((0 : Int32), f2)
    ) (fun e1 f1 =>
    if e1 = "java/util/NoSuchElementException" then some ((1 : Int32), f1)
    else
    if e1 = "java/lang/IllegalArgumentException" then some ((2 : Int32), f1)
    else
    none
    )

set_option maxRecDepth 20000 in
theorem tL_appearance {l : Launch} {g : GT} {sz : Option Nat} (N : Nat) (p0 : Nat) (p1 : Int32) (p2 : Nat) (f : HF) {r : Int32 × HF} (h : DL_appearance N p0 p1 p2 f = some r) : MtX l g yL_appearance cL_appearance 4 (Option.some Jvm.ClassFile.FieldType.int) [(0, 9, 12, 13), (0, 9, 15, 15)] 12 [.ref p0, .int p1, .ref p2] f sz (.inl (some (.int r.1)), r.2, none, 1, 6) := by
  unfold DL_appearance at h
  refine mtx_of (by decide) (Nat.le_of_ble_eq_true rfl) (?_ : V l g (fun _ => True) (RL, cL_appearance, 4, (Option.some Jvm.ClassFile.FieldType.int), [(0, 9, 12, 13), (0, 9, 15, 15)], "appearance") 12 (.inl (some (.int r.1)), r.2, none, 1, 6) 0 [(0, .ref p0), (1, .int p1), (2, .ref p2)] [] f sz 0 0)
  refine v_aload_n dL_appearance_0 rfl rfl ?_
  refine v_iconst (v := 0) dL_appearance_1 (by decide) ?_
  refine v_aload_n dL_appearance_2 rfl rfl ?_
  refine v_iload_n dL_appearance_3 rfl rfl ?_
  rcases bC_some h with ⟨x1, f1, hx, h⟩ | ⟨e1, f1, hx, h⟩
  · have eh := tX9_appearance (l := l) (g := g) (sz := sz) N p0 p1 f hx
    refine v_cVI dL_appearance_4 ml_L_58 ok_X9_appearance eh (kX9_appearance N p0 p1 f hx) rfl (by decide) rfl (rest := [.int (0 : Int32), .ref p2]) rfl (Nat.le_of_ble_eq_true rfl) ?_
    refine v_i2l dL_appearance_7 ?_
    obtain ⟨f2, hf2, h⟩ := ob_some h
    refine v_last dL_appearance_8 hf2 ?_
    refine v_goto (tgt := 18) dL_appearance_9 (by decide) ?_
    refine v_iconst (v := 0) dL_appearance_18 (by decide) ?_
    obtain rfl := Option.some.inj h
    exact v_iretW dL_appearance_19 rfl rfl (Nat.zero_le _) (Nat.zero_le _)
  · have eh := tX9_appearance (l := l) (g := g) (sz := sz) N p0 p1 f hx
    by_cases c0 : e1 = "java/util/NoSuchElementException"
    · replace h := ip_ c0 h
      subst c0
      obtain rfl := Option.some.inj h
      refine v_catch dL_appearance_4 ml_L_58 ok_X9_appearance eh (kX9_appearance N p0 p1 f hx) rfl (by decide) rfl (rest := [.int (0 : Int32), .ref p2]) rfl (Nat.le_of_ble_eq_true rfl) ⟨Nat.le_of_ble_eq_true rfl, Nat.le_of_ble_eq_true rfl⟩ [] ⟨0, 9, 12, 13⟩ [⟨0, 9, 15, 15⟩] rfl (fun _ h9 => nomatch h9) (by decide) (by decide) cL_13 cst_NoSuchElementException (fun q9 => ?_)
      refine v_astore_n (ls1 := [(3, .ref q9), (0, .ref p0), (1, .int p1), (2, .ref p2)]) dL_appearance_12 rfl (by decide) rfl ?_
      refine v_iconst (v := 1) dL_appearance_13 (by decide) ?_
      exact v_iretW dL_appearance_14 rfl rfl (Nat.le_of_ble_eq_true rfl) (Nat.le_of_ble_eq_true rfl)
    replace h := in_ c0 h
    by_cases c1 : e1 = "java/lang/IllegalArgumentException"
    · replace h := ip_ c1 h
      subst c1
      obtain rfl := Option.some.inj h
      refine v_catch dL_appearance_4 ml_L_58 ok_X9_appearance eh (kX9_appearance N p0 p1 f hx) rfl (by decide) rfl (rest := [.int (0 : Int32), .ref p2]) rfl (Nat.le_of_ble_eq_true rfl) ⟨Nat.le_of_ble_eq_true rfl, Nat.le_of_ble_eq_true rfl⟩ [⟨0, 9, 12, 13⟩] ⟨0, 9, 15, 15⟩ [] rfl (List.forall_mem_cons.mpr ⟨⟨by decide, _, cL_13, by decide⟩, fun _ h9 => nomatch h9⟩) (by decide) (by decide) cL_15 cst_IllegalArgumentException (fun q9 => ?_)
      refine v_astore_n (ls1 := [(3, .ref q9), (0, .ref p0), (1, .int p1), (2, .ref p2)]) dL_appearance_15 rfl (by decide) rfl ?_
      refine v_iconst (v := 2) dL_appearance_16 (by decide) ?_
      exact v_iretW dL_appearance_17 rfl rfl (Nat.le_of_ble_eq_true rfl) (Nat.le_of_ble_eq_true rfl)
    replace h := in_ c1 h
    cases h

theorem ok_L_mark : mOkX yL_mark cL_mark 5 (Option.some Jvm.ClassFile.FieldType.int) [(0, 10, 13, 43)] 4 := ⟨tbm (tt_4 146 (by rfl)) rfl, ⟨by decide +kernel, by decide +kernel, by decide +kernel⟩, by decide⟩
def DL_mark (N : Nat) (p0 : Nat) (p1 : Int32) (p2 : Int32) (p3 : Nat) (f : HF) : Option (Int32 × HF) :=
  bCR (DX9_mark N p0 p1 p2 f) (fun x1 =>
    (sL f p3 (0 : Int32) (x1.toInt64)).bind fun f2 =>
    some ((0 : Int32), f2)
    ) (fun e1 =>
    if e1 = "java/lang/IndexOutOfBoundsException" then some ((1 : Int32), f)
    else
    none
    )

set_option maxRecDepth 20000 in
theorem tL_mark {l : Launch} {g : GT} {sz : Option Nat} (N : Nat) (p0 : Nat) (p1 : Int32) (p2 : Int32) (p3 : Nat) (f : HF) {r : Int32 × HF} (h : DL_mark N p0 p1 p2 p3 f = some r) : MtX l g yL_mark cL_mark 5 (Option.some Jvm.ClassFile.FieldType.int) [(0, 10, 13, 43)] 9 [.ref p0, .int p1, .int p2, .ref p3] f sz (.inl (some (.int r.1)), r.2, none, 1, 6) := by
  unfold DL_mark at h
  refine mtx_of (by decide) (Nat.le_of_ble_eq_true rfl) (?_ : V l g (fun _ => True) (RL, cL_mark, 5, (Option.some Jvm.ClassFile.FieldType.int), [(0, 10, 13, 43)], "mark") 9 (.inl (some (.int r.1)), r.2, none, 1, 6) 0 [(0, .ref p0), (1, .int p1), (2, .int p2), (3, .ref p3)] [] f sz 0 0)
  refine v_aload_n dL_mark_0 rfl rfl ?_
  refine v_iconst (v := 0) dL_mark_1 (by decide) ?_
  refine v_aload_n dL_mark_2 rfl rfl ?_
  refine v_iload_n dL_mark_3 rfl rfl ?_
  refine v_iload_n dL_mark_4 rfl rfl ?_
  rcases bCR_some h with ⟨x1, hx, h⟩ | ⟨e1, hx, h⟩
  · have eh := tX9_mark (l := l) (g := g) (sz := sz) N p0 p1 p2 f hx
    refine v_cVI dL_mark_5 ml_L_61 ok_X9_mark eh (kX9_mark N p0 p1 p2 f hx) rfl (by decide) rfl (rest := [.int (0 : Int32), .ref p3]) rfl (Nat.le_of_ble_eq_true rfl) ?_
    refine v_i2l dL_mark_8 ?_
    obtain ⟨f2, hf2, h⟩ := ob_some h
    refine v_last dL_mark_9 hf2 ?_
    refine v_goto (tgt := 17) dL_mark_10 (by decide) ?_
    refine v_iconst (v := 0) dL_mark_17 (by decide) ?_
    obtain rfl := Option.some.inj h
    exact v_iretW dL_mark_18 rfl rfl (Nat.zero_le _) (Nat.zero_le _)
  · have eh := tX9_mark (l := l) (g := g) (sz := sz) N p0 p1 p2 f hx
    by_cases c0 : e1 = "java/lang/IndexOutOfBoundsException"
    · replace h := ip_ c0 h
      subst c0
      obtain rfl := Option.some.inj h
      refine v_catch dL_mark_5 ml_L_61 ok_X9_mark eh (kX9_mark N p0 p1 p2 f hx) rfl (by decide) rfl (rest := [.int (0 : Int32), .ref p3]) rfl (Nat.le_of_ble_eq_true rfl) ⟨Nat.le_of_ble_eq_true rfl, Nat.le_of_ble_eq_true rfl⟩ [] ⟨0, 10, 13, 43⟩ [] rfl (fun _ h9 => nomatch h9) (by decide) (by decide) cL_43 cst_IndexOutOfBoundsException (fun q9 => ?_)
      refine v_astore (ls1 := [(4, .ref q9), (0, .ref p0), (1, .int p1), (2, .int p2), (3, .ref p3)]) dL_mark_13 (by decide) rfl ?_
      refine v_iconst (v := 1) dL_mark_15 (by decide) ?_
      exact v_iretW dL_mark_16 rfl rfl (Nat.le_of_ble_eq_true rfl) (Nat.le_of_ble_eq_true rfl)
    replace h := in_ c0 h
    cases h

theorem ok_L_flatten : mOkX yL_flatten cL_flatten 4 (Option.some Jvm.ClassFile.FieldType.int) [(0, 9, 12, 13), (0, 9, 15, 15), (0, 9, 18, 17), (0, 9, 21, 19)] 3 := ⟨tbm (tt_4 162 (by rfl)) rfl, ⟨by decide +kernel, by decide +kernel, by decide +kernel⟩, by decide⟩
def DL_flatten (N : Nat) (p0 : Nat) (p1 : Int32) (p2 : Nat) (f : HF) : Option (Int32 × HF) :=
  bC (DX9_flatten N p0 p1 f) (fun x1 f1 =>
    (sL f1 p2 (0 : Int32) (x1.toInt64)).bind fun f2 =>
    some ((0 : Int32), f2)
    ) (fun e1 f1 =>
    if e1 = "java/util/NoSuchElementException" then some ((1 : Int32), f1)
    else
    if e1 = "java/lang/IllegalArgumentException" then some ((2 : Int32), f1)
    else
    if e1 = "java/lang/IllegalStateException" then some ((3 : Int32), f1)
    else
    if e1 = "java/lang/UnsupportedOperationException" then some ((4 : Int32), f1)
    else
    none
    )

set_option maxRecDepth 20000 in
theorem tL_flatten {l : Launch} {g : GT} {sz : Option Nat} (N : Nat) (p0 : Nat) (p1 : Int32) (p2 : Nat) (f : HF) {r : Int32 × HF} (h : DL_flatten N p0 p1 p2 f = some r) : MtX l g yL_flatten cL_flatten 4 (Option.some Jvm.ClassFile.FieldType.int) [(0, 9, 12, 13), (0, 9, 15, 15), (0, 9, 18, 17), (0, 9, 21, 19)] 12 [.ref p0, .int p1, .ref p2] f sz (.inl (some (.int r.1)), r.2, none, 1, 6) := by
  unfold DL_flatten at h
  refine mtx_of (by decide) (Nat.le_of_ble_eq_true rfl) (?_ : V l g (fun _ => True) (RL, cL_flatten, 4, (Option.some Jvm.ClassFile.FieldType.int), [(0, 9, 12, 13), (0, 9, 15, 15), (0, 9, 18, 17), (0, 9, 21, 19)], "flatten") 12 (.inl (some (.int r.1)), r.2, none, 1, 6) 0 [(0, .ref p0), (1, .int p1), (2, .ref p2)] [] f sz 0 0)
  refine v_aload_n dL_flatten_0 rfl rfl ?_
  refine v_iconst (v := 0) dL_flatten_1 (by decide) ?_
  refine v_aload_n dL_flatten_2 rfl rfl ?_
  refine v_iload_n dL_flatten_3 rfl rfl ?_
  rcases bC_some h with ⟨x1, f1, hx, h⟩ | ⟨e1, f1, hx, h⟩
  · have eh := tX9_flatten (l := l) (g := g) (sz := sz) N p0 p1 f hx
    refine v_cVI dL_flatten_4 ml_L_64 ok_X9_flatten eh (kX9_flatten N p0 p1 f hx) rfl (by decide) rfl (rest := [.int (0 : Int32), .ref p2]) rfl (Nat.le_of_ble_eq_true rfl) ?_
    refine v_i2l dL_flatten_7 ?_
    obtain ⟨f2, hf2, h⟩ := ob_some h
    refine v_last dL_flatten_8 hf2 ?_
    refine v_goto (tgt := 24) dL_flatten_9 (by decide) ?_
    refine v_iconst (v := 0) dL_flatten_24 (by decide) ?_
    obtain rfl := Option.some.inj h
    exact v_iretW dL_flatten_25 rfl rfl (Nat.zero_le _) (Nat.zero_le _)
  · have eh := tX9_flatten (l := l) (g := g) (sz := sz) N p0 p1 f hx
    by_cases c0 : e1 = "java/util/NoSuchElementException"
    · replace h := ip_ c0 h
      subst c0
      obtain rfl := Option.some.inj h
      refine v_catch dL_flatten_4 ml_L_64 ok_X9_flatten eh (kX9_flatten N p0 p1 f hx) rfl (by decide) rfl (rest := [.int (0 : Int32), .ref p2]) rfl (Nat.le_of_ble_eq_true rfl) ⟨Nat.le_of_ble_eq_true rfl, Nat.le_of_ble_eq_true rfl⟩ [] ⟨0, 9, 12, 13⟩ [⟨0, 9, 15, 15⟩, ⟨0, 9, 18, 17⟩, ⟨0, 9, 21, 19⟩] rfl (fun _ h9 => nomatch h9) (by decide) (by decide) cL_13 cst_NoSuchElementException (fun q9 => ?_)
      refine v_astore_n (ls1 := [(3, .ref q9), (0, .ref p0), (1, .int p1), (2, .ref p2)]) dL_flatten_12 rfl (by decide) rfl ?_
      refine v_iconst (v := 1) dL_flatten_13 (by decide) ?_
      exact v_iretW dL_flatten_14 rfl rfl (Nat.le_of_ble_eq_true rfl) (Nat.le_of_ble_eq_true rfl)
    replace h := in_ c0 h
    by_cases c1 : e1 = "java/lang/IllegalArgumentException"
    · replace h := ip_ c1 h
      subst c1
      obtain rfl := Option.some.inj h
      refine v_catch dL_flatten_4 ml_L_64 ok_X9_flatten eh (kX9_flatten N p0 p1 f hx) rfl (by decide) rfl (rest := [.int (0 : Int32), .ref p2]) rfl (Nat.le_of_ble_eq_true rfl) ⟨Nat.le_of_ble_eq_true rfl, Nat.le_of_ble_eq_true rfl⟩ [⟨0, 9, 12, 13⟩] ⟨0, 9, 15, 15⟩ [⟨0, 9, 18, 17⟩, ⟨0, 9, 21, 19⟩] rfl (List.forall_mem_cons.mpr ⟨⟨by decide, _, cL_13, by decide⟩, fun _ h9 => nomatch h9⟩) (by decide) (by decide) cL_15 cst_IllegalArgumentException (fun q9 => ?_)
      refine v_astore_n (ls1 := [(3, .ref q9), (0, .ref p0), (1, .int p1), (2, .ref p2)]) dL_flatten_15 rfl (by decide) rfl ?_
      refine v_iconst (v := 2) dL_flatten_16 (by decide) ?_
      exact v_iretW dL_flatten_17 rfl rfl (Nat.le_of_ble_eq_true rfl) (Nat.le_of_ble_eq_true rfl)
    replace h := in_ c1 h
    by_cases c2 : e1 = "java/lang/IllegalStateException"
    · replace h := ip_ c2 h
      subst c2
      obtain rfl := Option.some.inj h
      refine v_catch dL_flatten_4 ml_L_64 ok_X9_flatten eh (kX9_flatten N p0 p1 f hx) rfl (by decide) rfl (rest := [.int (0 : Int32), .ref p2]) rfl (Nat.le_of_ble_eq_true rfl) ⟨Nat.le_of_ble_eq_true rfl, Nat.le_of_ble_eq_true rfl⟩ [⟨0, 9, 12, 13⟩, ⟨0, 9, 15, 15⟩] ⟨0, 9, 18, 17⟩ [⟨0, 9, 21, 19⟩] rfl (List.forall_mem_cons.mpr ⟨⟨by decide, _, cL_13, by decide⟩, List.forall_mem_cons.mpr ⟨⟨by decide, _, cL_15, by decide⟩, fun _ h9 => nomatch h9⟩⟩) (by decide) (by decide) cL_17 cst_IllegalStateException (fun q9 => ?_)
      refine v_astore_n (ls1 := [(3, .ref q9), (0, .ref p0), (1, .int p1), (2, .ref p2)]) dL_flatten_18 rfl (by decide) rfl ?_
      refine v_iconst (v := 3) dL_flatten_19 (by decide) ?_
      exact v_iretW dL_flatten_20 rfl rfl (Nat.le_of_ble_eq_true rfl) (Nat.le_of_ble_eq_true rfl)
    replace h := in_ c2 h
    by_cases c3 : e1 = "java/lang/UnsupportedOperationException"
    · replace h := ip_ c3 h
      subst c3
      obtain rfl := Option.some.inj h
      refine v_catch dL_flatten_4 ml_L_64 ok_X9_flatten eh (kX9_flatten N p0 p1 f hx) rfl (by decide) rfl (rest := [.int (0 : Int32), .ref p2]) rfl (Nat.le_of_ble_eq_true rfl) ⟨Nat.le_of_ble_eq_true rfl, Nat.le_of_ble_eq_true rfl⟩ [⟨0, 9, 12, 13⟩, ⟨0, 9, 15, 15⟩, ⟨0, 9, 18, 17⟩] ⟨0, 9, 21, 19⟩ [] rfl (List.forall_mem_cons.mpr ⟨⟨by decide, _, cL_13, by decide⟩, List.forall_mem_cons.mpr ⟨⟨by decide, _, cL_15, by decide⟩, List.forall_mem_cons.mpr ⟨⟨by decide, _, cL_17, by decide⟩, fun _ h9 => nomatch h9⟩⟩⟩) (by decide) (by decide) cL_19 cst_UnsupportedOperationException (fun q9 => ?_)
      refine v_astore_n (ls1 := [(3, .ref q9), (0, .ref p0), (1, .int p1), (2, .ref p2)]) dL_flatten_21 rfl (by decide) rfl ?_
      refine v_iconst (v := 4) dL_flatten_22 (by decide) ?_
      exact v_iretW dL_flatten_23 rfl rfl (Nat.le_of_ble_eq_true rfl) (Nat.le_of_ble_eq_true rfl)
    replace h := in_ c3 h
    cases h

theorem ok_L_page : mOkX yL_page cL_page 5 (Option.some Jvm.ClassFile.FieldType.int) [(0, 10, 13, 43)] 4 := ⟨tbm (tt_4 169 (by rfl)) rfl, ⟨by decide +kernel, by decide +kernel, by decide +kernel⟩, by decide⟩
def DL_page (N : Nat) (p0 : Nat) (p1 : Int32) (p2 : Int32) (p3 : Nat) (f : HF) : Option (Int32 × HF) :=
  bCR (DX9_page N p0 p1 p2 f) (fun x1 =>
    (sL f p3 (0 : Int32) (x1.toInt64)).bind fun f2 =>
    some ((0 : Int32), f2)
    ) (fun e1 =>
    if e1 = "java/lang/IndexOutOfBoundsException" then some ((1 : Int32), f)
    else
    none
    )

set_option maxRecDepth 20000 in
theorem tL_page {l : Launch} {g : GT} {sz : Option Nat} (N : Nat) (p0 : Nat) (p1 : Int32) (p2 : Int32) (p3 : Nat) (f : HF) {r : Int32 × HF} (h : DL_page N p0 p1 p2 p3 f = some r) : MtX l g yL_page cL_page 5 (Option.some Jvm.ClassFile.FieldType.int) [(0, 10, 13, 43)] 9 [.ref p0, .int p1, .int p2, .ref p3] f sz (.inl (some (.int r.1)), r.2, none, 1, 6) := by
  unfold DL_page at h
  refine mtx_of (by decide) (Nat.le_of_ble_eq_true rfl) (?_ : V l g (fun _ => True) (RL, cL_page, 5, (Option.some Jvm.ClassFile.FieldType.int), [(0, 10, 13, 43)], "page") 9 (.inl (some (.int r.1)), r.2, none, 1, 6) 0 [(0, .ref p0), (1, .int p1), (2, .int p2), (3, .ref p3)] [] f sz 0 0)
  refine v_aload_n dL_page_0 rfl rfl ?_
  refine v_iconst (v := 0) dL_page_1 (by decide) ?_
  refine v_aload_n dL_page_2 rfl rfl ?_
  refine v_iload_n dL_page_3 rfl rfl ?_
  refine v_iload_n dL_page_4 rfl rfl ?_
  rcases bCR_some h with ⟨x1, hx, h⟩ | ⟨e1, hx, h⟩
  · have eh := tX9_page (l := l) (g := g) (sz := sz) N p0 p1 p2 f hx
    refine v_cVI dL_page_5 ml_L_67 ok_X9_page eh (kX9_page N p0 p1 p2 f hx) rfl (by decide) rfl (rest := [.int (0 : Int32), .ref p3]) rfl (Nat.le_of_ble_eq_true rfl) ?_
    refine v_i2l dL_page_8 ?_
    obtain ⟨f2, hf2, h⟩ := ob_some h
    refine v_last dL_page_9 hf2 ?_
    refine v_goto (tgt := 17) dL_page_10 (by decide) ?_
    refine v_iconst (v := 0) dL_page_17 (by decide) ?_
    obtain rfl := Option.some.inj h
    exact v_iretW dL_page_18 rfl rfl (Nat.zero_le _) (Nat.zero_le _)
  · have eh := tX9_page (l := l) (g := g) (sz := sz) N p0 p1 p2 f hx
    by_cases c0 : e1 = "java/lang/IndexOutOfBoundsException"
    · replace h := ip_ c0 h
      subst c0
      obtain rfl := Option.some.inj h
      refine v_catch dL_page_5 ml_L_67 ok_X9_page eh (kX9_page N p0 p1 p2 f hx) rfl (by decide) rfl (rest := [.int (0 : Int32), .ref p3]) rfl (Nat.le_of_ble_eq_true rfl) ⟨Nat.le_of_ble_eq_true rfl, Nat.le_of_ble_eq_true rfl⟩ [] ⟨0, 10, 13, 43⟩ [] rfl (fun _ h9 => nomatch h9) (by decide) (by decide) cL_43 cst_IndexOutOfBoundsException (fun q9 => ?_)
      refine v_astore (ls1 := [(4, .ref q9), (0, .ref p0), (1, .int p1), (2, .int p2), (3, .ref p3)]) dL_page_13 (by decide) rfl ?_
      refine v_iconst (v := 1) dL_page_15 (by decide) ?_
      exact v_iretW dL_page_16 rfl rfl (Nat.le_of_ble_eq_true rfl) (Nat.le_of_ble_eq_true rfl)
    replace h := in_ c0 h
    cases h

theorem ok_L_at : mOkX yL_at cL_at 4 (Option.some Jvm.ClassFile.FieldType.int) [(0, 9, 12, 73)] 3 := ⟨tbm (tt_4 176 (by rfl)) rfl, ⟨by decide +kernel, by decide +kernel, by decide +kernel⟩, by decide⟩
def DL_at (N : Nat) (p0 : Nat) (p1 : Int32) (p2 : Nat) (f : HF) : Option (Int32 × HF) :=
  bCR (DX9_at N p0 p1 f) (fun x1 =>
    (sL f p2 (0 : Int32) (x1.toInt64)).bind fun f2 =>
    some ((0 : Int32), f2)
    ) (fun e1 =>
    if e1 = "java/lang/ArrayIndexOutOfBoundsException" then some ((1 : Int32), f)
    else
    none
    )

set_option maxRecDepth 20000 in
theorem tL_at {l : Launch} {g : GT} {sz : Option Nat} (N : Nat) (p0 : Nat) (p1 : Int32) (p2 : Nat) (f : HF) {r : Int32 × HF} (h : DL_at N p0 p1 p2 f = some r) : MtX l g yL_at cL_at 4 (Option.some Jvm.ClassFile.FieldType.int) [(0, 9, 12, 73)] 9 [.ref p0, .int p1, .ref p2] f sz (.inl (some (.int r.1)), r.2, none, 1, 6) := by
  unfold DL_at at h
  refine mtx_of (by decide) (Nat.le_of_ble_eq_true rfl) (?_ : V l g (fun _ => True) (RL, cL_at, 4, (Option.some Jvm.ClassFile.FieldType.int), [(0, 9, 12, 73)], "at") 9 (.inl (some (.int r.1)), r.2, none, 1, 6) 0 [(0, .ref p0), (1, .int p1), (2, .ref p2)] [] f sz 0 0)
  refine v_aload_n dL_at_0 rfl rfl ?_
  refine v_iconst (v := 0) dL_at_1 (by decide) ?_
  refine v_aload_n dL_at_2 rfl rfl ?_
  refine v_iload_n dL_at_3 rfl rfl ?_
  rcases bCR_some h with ⟨x1, hx, h⟩ | ⟨e1, hx, h⟩
  · have eh := tX9_at (l := l) (g := g) (sz := sz) N p0 p1 f hx
    refine v_cVI dL_at_4 ml_L_70 ok_X9_at eh (kX9_at N p0 p1 f hx) rfl (by decide) rfl (rest := [.int (0 : Int32), .ref p2]) rfl (Nat.le_of_ble_eq_true rfl) ?_
    refine v_i2l dL_at_7 ?_
    obtain ⟨f2, hf2, h⟩ := ob_some h
    refine v_last dL_at_8 hf2 ?_
    refine v_goto (tgt := 15) dL_at_9 (by decide) ?_
    refine v_iconst (v := 0) dL_at_15 (by decide) ?_
    obtain rfl := Option.some.inj h
    exact v_iretW dL_at_16 rfl rfl (Nat.zero_le _) (Nat.zero_le _)
  · have eh := tX9_at (l := l) (g := g) (sz := sz) N p0 p1 f hx
    by_cases c0 : e1 = "java/lang/ArrayIndexOutOfBoundsException"
    · replace h := ip_ c0 h
      subst c0
      obtain rfl := Option.some.inj h
      refine v_catch dL_at_4 ml_L_70 ok_X9_at eh (kX9_at N p0 p1 f hx) rfl (by decide) rfl (rest := [.int (0 : Int32), .ref p2]) rfl (Nat.le_of_ble_eq_true rfl) ⟨Nat.le_of_ble_eq_true rfl, Nat.le_of_ble_eq_true rfl⟩ [] ⟨0, 9, 12, 73⟩ [] rfl (fun _ h9 => nomatch h9) (by decide) (by decide) cL_73 cst_ArrayIndexOutOfBoundsException (fun q9 => ?_)
      refine v_astore_n (ls1 := [(3, .ref q9), (0, .ref p0), (1, .int p1), (2, .ref p2)]) dL_at_12 rfl (by decide) rfl ?_
      refine v_iconst (v := 1) dL_at_13 (by decide) ?_
      exact v_iretW dL_at_14 rfl rfl (Nat.le_of_ble_eq_true rfl) (Nat.le_of_ble_eq_true rfl)
    replace h := in_ c0 h
    cases h

theorem ok_L_read : mOkX yL_read cL_read 4 (Option.some Jvm.ClassFile.FieldType.int) [(0, 9, 12, 15), (0, 9, 15, 19)] 3 := ⟨tbm (tt_4 189 (by rfl)) rfl, ⟨by decide +kernel, by decide +kernel, by decide +kernel⟩, by decide⟩
def DL_read (N : Nat) (p0 : Nat) (p1 : Int32) (p2 : Nat) (f : HF) : Option (Int32 × HF) :=
  bC (DX9_read N p0 p1 f) (fun x1 f1 =>
    (sL f1 p2 (0 : Int32) (x1.toInt64)).bind fun f2 =>
    some ((0 : Int32), f2)
    ) (fun e1 f1 =>
    if e1 = "java/lang/IllegalArgumentException" then some ((1 : Int32), f1)
    else
    if e1 = "java/lang/UnsupportedOperationException" then some ((2 : Int32), f1)
    else
    none
    )

set_option maxRecDepth 20000 in
theorem tL_read {l : Launch} {g : GT} {sz : Option Nat} (N : Nat) (p0 : Nat) (p1 : Int32) (p2 : Nat) (f : HF) {r : Int32 × HF} (h : DL_read N p0 p1 p2 f = some r) : MtX l g yL_read cL_read 4 (Option.some Jvm.ClassFile.FieldType.int) [(0, 9, 12, 15), (0, 9, 15, 19)] 15 [.ref p0, .int p1, .ref p2] f sz (.inl (some (.int r.1)), r.2, none, 1, 6) := by
  unfold DL_read at h
  refine mtx_of (by decide) (Nat.le_of_ble_eq_true rfl) (?_ : V l g (fun _ => True) (RL, cL_read, 4, (Option.some Jvm.ClassFile.FieldType.int), [(0, 9, 12, 15), (0, 9, 15, 19)], "read") 15 (.inl (some (.int r.1)), r.2, none, 1, 6) 0 [(0, .ref p0), (1, .int p1), (2, .ref p2)] [] f sz 0 0)
  refine v_aload_n dL_read_0 rfl rfl ?_
  refine v_iconst (v := 0) dL_read_1 (by decide) ?_
  refine v_aload_n dL_read_2 rfl rfl ?_
  refine v_iload_n dL_read_3 rfl rfl ?_
  rcases bC_some h with ⟨x1, f1, hx, h⟩ | ⟨e1, f1, hx, h⟩
  · have eh := tX9_read (l := l) (g := g) (sz := sz) N p0 p1 f hx
    refine v_cVI dL_read_4 ml_L_75 ok_X9_read eh (kX9_read N p0 p1 f hx) rfl (by decide) rfl (rest := [.int (0 : Int32), .ref p2]) rfl (Nat.le_of_ble_eq_true rfl) ?_
    refine v_i2l dL_read_7 ?_
    obtain ⟨f2, hf2, h⟩ := ob_some h
    refine v_last dL_read_8 hf2 ?_
    refine v_goto (tgt := 18) dL_read_9 (by decide) ?_
    refine v_iconst (v := 0) dL_read_18 (by decide) ?_
    obtain rfl := Option.some.inj h
    exact v_iretW dL_read_19 rfl rfl (Nat.zero_le _) (Nat.zero_le _)
  · have eh := tX9_read (l := l) (g := g) (sz := sz) N p0 p1 f hx
    by_cases c0 : e1 = "java/lang/IllegalArgumentException"
    · replace h := ip_ c0 h
      subst c0
      obtain rfl := Option.some.inj h
      refine v_catch dL_read_4 ml_L_75 ok_X9_read eh (kX9_read N p0 p1 f hx) rfl (by decide) rfl (rest := [.int (0 : Int32), .ref p2]) rfl (Nat.le_of_ble_eq_true rfl) ⟨Nat.le_of_ble_eq_true rfl, Nat.le_of_ble_eq_true rfl⟩ [] ⟨0, 9, 12, 15⟩ [⟨0, 9, 15, 19⟩] rfl (fun _ h9 => nomatch h9) (by decide) (by decide) cL_15 cst_IllegalArgumentException (fun q9 => ?_)
      refine v_astore_n (ls1 := [(3, .ref q9), (0, .ref p0), (1, .int p1), (2, .ref p2)]) dL_read_12 rfl (by decide) rfl ?_
      refine v_iconst (v := 1) dL_read_13 (by decide) ?_
      exact v_iretW dL_read_14 rfl rfl (Nat.le_of_ble_eq_true rfl) (Nat.le_of_ble_eq_true rfl)
    replace h := in_ c0 h
    by_cases c1 : e1 = "java/lang/UnsupportedOperationException"
    · replace h := ip_ c1 h
      subst c1
      obtain rfl := Option.some.inj h
      refine v_catch dL_read_4 ml_L_75 ok_X9_read eh (kX9_read N p0 p1 f hx) rfl (by decide) rfl (rest := [.int (0 : Int32), .ref p2]) rfl (Nat.le_of_ble_eq_true rfl) ⟨Nat.le_of_ble_eq_true rfl, Nat.le_of_ble_eq_true rfl⟩ [⟨0, 9, 12, 15⟩] ⟨0, 9, 15, 19⟩ [] rfl (List.forall_mem_cons.mpr ⟨⟨by decide, _, cL_15, by decide⟩, fun _ h9 => nomatch h9⟩) (by decide) (by decide) cL_19 cst_UnsupportedOperationException (fun q9 => ?_)
      refine v_astore_n (ls1 := [(3, .ref q9), (0, .ref p0), (1, .int p1), (2, .ref p2)]) dL_read_15 rfl (by decide) rfl ?_
      refine v_iconst (v := 2) dL_read_16 (by decide) ?_
      exact v_iretW dL_read_17 rfl rfl (Nat.le_of_ble_eq_true rfl) (Nat.le_of_ble_eq_true rfl)
    replace h := in_ c1 h
    cases h

theorem ok_L_lock : mOkX yL_lock cL_lock 5 (Option.some Jvm.ClassFile.FieldType.int) [(0, 10, 13, 13), (0, 10, 17, 15)] 4 := ⟨tbm (tt_5 14 (by rfl)) rfl, ⟨by decide +kernel, by decide +kernel, by decide +kernel⟩, by decide⟩
def DL_lock (N : Nat) (p0 : Nat) (p1 : Int32) (p2 : Int32) (p3 : Nat) (f : HF) : Option (Int32 × HF) :=
  bC (DX9_lock N p0 p1 p2 f) (fun x1 f1 =>
    (sL f1 p3 (0 : Int32) (x1.toInt64)).bind fun f2 =>
    some ((0 : Int32), f2)
    ) (fun e1 f1 =>
    if e1 = "java/util/NoSuchElementException" then some ((1 : Int32), f1)
    else
    if e1 = "java/lang/IllegalArgumentException" then some ((2 : Int32), f1)
    else
    none
    )

set_option maxRecDepth 20000 in
theorem tL_lock {l : Launch} {g : GT} {sz : Option Nat} (N : Nat) (p0 : Nat) (p1 : Int32) (p2 : Int32) (p3 : Nat) (f : HF) {r : Int32 × HF} (h : DL_lock N p0 p1 p2 p3 f = some r) : MtX l g yL_lock cL_lock 5 (Option.some Jvm.ClassFile.FieldType.int) [(0, 10, 13, 13), (0, 10, 17, 15)] 12 [.ref p0, .int p1, .int p2, .ref p3] f sz (.inl (some (.int r.1)), r.2, none, 1, 6) := by
  unfold DL_lock at h
  refine mtx_of (by decide) (Nat.le_of_ble_eq_true rfl) (?_ : V l g (fun _ => True) (RL, cL_lock, 5, (Option.some Jvm.ClassFile.FieldType.int), [(0, 10, 13, 13), (0, 10, 17, 15)], "lock") 12 (.inl (some (.int r.1)), r.2, none, 1, 6) 0 [(0, .ref p0), (1, .int p1), (2, .int p2), (3, .ref p3)] [] f sz 0 0)
  refine v_aload_n dL_lock_0 rfl rfl ?_
  refine v_iconst (v := 0) dL_lock_1 (by decide) ?_
  refine v_aload_n dL_lock_2 rfl rfl ?_
  refine v_iload_n dL_lock_3 rfl rfl ?_
  refine v_iload_n dL_lock_4 rfl rfl ?_
  rcases bC_some h with ⟨x1, f1, hx, h⟩ | ⟨e1, f1, hx, h⟩
  · have eh := tX9_lock (l := l) (g := g) (sz := sz) N p0 p1 p2 f hx
    refine v_cVI dL_lock_5 ml_L_78 ok_X9_lock eh (kX9_lock N p0 p1 p2 f hx) rfl (by decide) rfl (rest := [.int (0 : Int32), .ref p3]) rfl (Nat.le_of_ble_eq_true rfl) ?_
    refine v_i2l dL_lock_8 ?_
    obtain ⟨f2, hf2, h⟩ := ob_some h
    refine v_last dL_lock_9 hf2 ?_
    refine v_goto (tgt := 21) dL_lock_10 (by decide) ?_
    refine v_iconst (v := 0) dL_lock_21 (by decide) ?_
    obtain rfl := Option.some.inj h
    exact v_iretW dL_lock_22 rfl rfl (Nat.zero_le _) (Nat.zero_le _)
  · have eh := tX9_lock (l := l) (g := g) (sz := sz) N p0 p1 p2 f hx
    by_cases c0 : e1 = "java/util/NoSuchElementException"
    · replace h := ip_ c0 h
      subst c0
      obtain rfl := Option.some.inj h
      refine v_catch dL_lock_5 ml_L_78 ok_X9_lock eh (kX9_lock N p0 p1 p2 f hx) rfl (by decide) rfl (rest := [.int (0 : Int32), .ref p3]) rfl (Nat.le_of_ble_eq_true rfl) ⟨Nat.le_of_ble_eq_true rfl, Nat.le_of_ble_eq_true rfl⟩ [] ⟨0, 10, 13, 13⟩ [⟨0, 10, 17, 15⟩] rfl (fun _ h9 => nomatch h9) (by decide) (by decide) cL_13 cst_NoSuchElementException (fun q9 => ?_)
      refine v_astore (ls1 := [(4, .ref q9), (0, .ref p0), (1, .int p1), (2, .int p2), (3, .ref p3)]) dL_lock_13 (by decide) rfl ?_
      refine v_iconst (v := 1) dL_lock_15 (by decide) ?_
      exact v_iretW dL_lock_16 rfl rfl (Nat.le_of_ble_eq_true rfl) (Nat.le_of_ble_eq_true rfl)
    replace h := in_ c0 h
    by_cases c1 : e1 = "java/lang/IllegalArgumentException"
    · replace h := ip_ c1 h
      subst c1
      obtain rfl := Option.some.inj h
      refine v_catch dL_lock_5 ml_L_78 ok_X9_lock eh (kX9_lock N p0 p1 p2 f hx) rfl (by decide) rfl (rest := [.int (0 : Int32), .ref p3]) rfl (Nat.le_of_ble_eq_true rfl) ⟨Nat.le_of_ble_eq_true rfl, Nat.le_of_ble_eq_true rfl⟩ [⟨0, 10, 13, 13⟩] ⟨0, 10, 17, 15⟩ [] rfl (List.forall_mem_cons.mpr ⟨⟨by decide, _, cL_13, by decide⟩, fun _ h9 => nomatch h9⟩) (by decide) (by decide) cL_15 cst_IllegalArgumentException (fun q9 => ?_)
      refine v_astore (ls1 := [(4, .ref q9), (0, .ref p0), (1, .int p1), (2, .int p2), (3, .ref p3)]) dL_lock_17 (by decide) rfl ?_
      refine v_iconst (v := 2) dL_lock_19 (by decide) ?_
      exact v_iretW dL_lock_20 rfl rfl (Nat.le_of_ble_eq_true rfl) (Nat.le_of_ble_eq_true rfl)
    replace h := in_ c1 h
    cases h

