/-! X3 count (R) -/
def DX3_count (N : Nat) (this : Nat) (f : HF) : Option Int32 :=
  (ck f this 2).bind fun _ =>
  (gI f this 2 2).bind fun x1 =>
  some x1

set_option maxRecDepth 20000 in
theorem kX3_count (N : Nat) (this : Nat) (f : HF) {r : Int32} (h : DX3_count N this f = some r) : ck f this 2 = some () := by
  unfold DX3_count at h
  obtain ⟨_, hck, _⟩ := ob_some h
  exact hck

set_option maxRecDepth 20000 in
theorem tX3_count {l : Launch} {g : GT} {sz : Option Nat} (N : Nat) (this : Nat) (f : HF) {r : Int32} (h : DX3_count N this f = some r) : Mt l g yX3_count cX3_count 1 (Option.some Jvm.ClassFile.FieldType.int) 0 [.ref this] f sz (roI (.inl r) f sz) := by
  unfold DX3_count at h
  obtain ⟨_, hck, h⟩ := ob_some h
  refine mt_of (by decide) (Nat.le_of_ble_eq_true rfl) (?_ : V l g (fun _ => True) (RX3, cX3_count, 1, (Option.some Jvm.ClassFile.FieldType.int), [], "count") 0 (roI (.inl r) f sz) 0 [(0, .ref this)] [] f sz 0 0)
  refine v_aload_n dX3_count_0 rfl rfl ?_
  obtain ⟨x1, hx1, h⟩ := ob_some h
  refine v_getI dX3_count_1 fl_X3_26 hx1 ?_
  obtain rfl := Option.some.inj h
  exact v_iret dX3_count_4 rfl rfl

/-! X3 clear (W) -/
def DX3_clear (N : Nat) (this : Nat) (f : HF) : Option (Unit × HF) :=
  (ck f this 2).bind fun _ =>
  (pV f this 2 2 (.int (0 : Int32))).bind fun f1 =>
  some ((), f1)

set_option maxRecDepth 20000 in
theorem kX3_clear (N : Nat) (this : Nat) (f : HF) {r : (Unit × HF)} (h : DX3_clear N this f = some r) : ck f this 2 = some () := by
  unfold DX3_clear at h
  obtain ⟨_, hck, _⟩ := ob_some h
  exact hck

set_option maxRecDepth 20000 in
theorem tX3_clear {l : Launch} {g : GT} {sz : Option Nat} (N : Nat) (this : Nat) (f : HF) {r : (Unit × HF)} (h : DX3_clear N this f = some r) : Mt l g yX3_clear cX3_clear 1 (Option.none : Option Jvm.ClassFile.FieldType) 0 [.ref this] f sz (roU (.inl r.1) r.2 sz) := by
  unfold DX3_clear at h
  obtain ⟨_, hck, h⟩ := ob_some h
  refine mt_of (by decide) (Nat.le_of_ble_eq_true rfl) (?_ : V l g (fun _ => True) (RX3, cX3_clear, 1, (Option.none : Option Jvm.ClassFile.FieldType), [], "clear") 0 (roU (.inl r.1) r.2 sz) 0 [(0, .ref this)] [] f sz 0 0)
  refine v_aload_n dX3_clear_0 rfl rfl ?_
  refine v_iconst (v := 0) dX3_clear_1 (by decide) ?_
  obtain ⟨f1, hf1, h⟩ := ob_some h
  refine v_pI dX3_clear_2 fp_X3_26 hf1 ?_
  obtain rfl := Option.some.inj h
  exact v_vret dX3_clear_5 rfl rfl

/-! X3 has (R) -/
def DX3_has (N : Nat) (this : Nat) (p0 : Int32) (p1 : Int32) (f : HF) : Option Int32 :=
  (ck f this 2).bind fun _ =>
  if p0 < 0 then
    some (0 : Int32)
  else
    (gI f this 2 2).bind fun x1 =>
    if x1 ≤ p0 then
      some (0 : Int32)
    else
      if p1 < 0 then
        some (0 : Int32)
      else
        if (5 : Int32) ≤ p1 then
          some (0 : Int32)
        else
          some (1 : Int32)

set_option maxRecDepth 20000 in
theorem kX3_has (N : Nat) (this : Nat) (p0 : Int32) (p1 : Int32) (f : HF) {r : Int32} (h : DX3_has N this p0 p1 f = some r) : ck f this 2 = some () := by
  unfold DX3_has at h
  obtain ⟨_, hck, _⟩ := ob_some h
  exact hck

set_option maxRecDepth 20000 in
theorem tX3_has {l : Launch} {g : GT} {sz : Option Nat} (N : Nat) (this : Nat) (p0 : Int32) (p1 : Int32) (f : HF) {r : Int32} (h : DX3_has N this p0 p1 f = some r) : Mt l g yX3_has cX3_has 3 (Option.some Jvm.ClassFile.FieldType.boolean) 0 [.ref this, .int p0, .int p1] f sz (roI (.inl r) f sz) := by
  unfold DX3_has at h
  obtain ⟨_, hck, h⟩ := ob_some h
  refine mt_of (by decide) (Nat.le_of_ble_eq_true rfl) (?_ : V l g (fun _ => True) (RX3, cX3_has, 3, (Option.some Jvm.ClassFile.FieldType.boolean), [], "has") 0 (roI (.inl r) f sz) 0 [(0, .ref this), (1, .int p0), (2, .int p1)] [] f sz 0 0)
  refine v_iload_n dX3_has_0 rfl rfl ?_
  refine v_if_lt (tgt := 25) dX3_has_1 (by decide) (fun c5 => ?_) (fun c5 => ?_)
  · replace h := ip_ c5 h
    refine v_iconst (v := 0) dX3_has_25 (by decide) ?_
    obtain rfl := Option.some.inj h
    exact v_zret dX3_has_26 rfl (Or.inl rfl) rfl
  · replace h := in_ c5 h
    refine v_iload_n dX3_has_4 rfl rfl ?_
    refine v_aload_n dX3_has_5 rfl rfl ?_
    obtain ⟨x1, hx1, h⟩ := ob_some h
    refine v_getI dX3_has_6 fl_X3_26 hx1 ?_
    refine v_icmp_ge (tgt := 25) dX3_has_9 (by decide) (fun c4 => ?_) (fun c4 => ?_)
    · replace h := ip_ c4 h
      refine v_iconst (v := 0) dX3_has_25 (by decide) ?_
      obtain rfl := Option.some.inj h
      exact v_zret dX3_has_26 rfl (Or.inl rfl) rfl
    · replace h := in_ c4 h
      refine v_iload_n dX3_has_12 rfl rfl ?_
      refine v_if_lt (tgt := 25) dX3_has_13 (by decide) (fun c3 => ?_) (fun c3 => ?_)
      · replace h := ip_ c3 h
        refine v_iconst (v := 0) dX3_has_25 (by decide) ?_
        obtain rfl := Option.some.inj h
        exact v_zret dX3_has_26 rfl (Or.inl rfl) rfl
      · replace h := in_ c3 h
        refine v_iload_n dX3_has_16 rfl rfl ?_
        refine v_iconst (v := 5) dX3_has_17 (by decide) ?_
        refine v_icmp_ge (tgt := 25) dX3_has_18 (by decide) (fun c2 => ?_) (fun c2 => ?_)
        · replace h := ip_ c2 h
          refine v_iconst (v := 0) dX3_has_25 (by decide) ?_
          obtain rfl := Option.some.inj h
          exact v_zret dX3_has_26 rfl (Or.inl rfl) rfl
        · replace h := in_ c2 h
          refine v_iconst (v := 1) dX3_has_21 (by decide) ?_
          refine v_goto (tgt := 26) dX3_has_22 (by decide) ?_
          obtain rfl := Option.some.inj h
          exact v_zret dX3_has_26 rfl (Or.inr rfl) rfl

/-! X3 get (R) -/
def DX3_get (N : Nat) (this : Nat) (p0 : Int32) (p1 : Int32) (f : HF) : Option Int32 :=
  (ck f this 2).bind fun _ =>
  (DX3_has N this p0 p1 f).bind fun x1 =>
  if x1 = 0 then
    some (-1 : Int32)
  else
    (gR f this 2 0).bind fun x3 =>
    (aR f x3 4 p1).bind fun x4 =>
    (aI f x4 0 p0).bind fun x5 =>
    some x5

set_option maxRecDepth 20000 in
theorem kX3_get (N : Nat) (this : Nat) (p0 : Int32) (p1 : Int32) (f : HF) {r : Int32} (h : DX3_get N this p0 p1 f = some r) : ck f this 2 = some () := by
  unfold DX3_get at h
  obtain ⟨_, hck, _⟩ := ob_some h
  exact hck

set_option maxRecDepth 20000 in
theorem tX3_get {l : Launch} {g : GT} {sz : Option Nat} (N : Nat) (this : Nat) (p0 : Int32) (p1 : Int32) (f : HF) {r : Int32} (h : DX3_get N this p0 p1 f = some r) : Mt l g yX3_get cX3_get 3 (Option.some Jvm.ClassFile.FieldType.int) 1 [.ref this, .int p0, .int p1] f sz (roI (.inl r) f sz) := by
  unfold DX3_get at h
  obtain ⟨_, hck, h⟩ := ob_some h
  refine mt_of (by decide) (Nat.le_of_ble_eq_true rfl) (?_ : V l g (fun _ => True) (RX3, cX3_get, 3, (Option.some Jvm.ClassFile.FieldType.int), [], "get") 1 (roI (.inl r) f sz) 0 [(0, .ref this), (1, .int p0), (2, .int p1)] [] f sz 0 0)
  refine v_aload_n dX3_get_0 rfl rfl ?_
  refine v_iload_n dX3_get_1 rfl rfl ?_
  refine v_iload_n dX3_get_2 rfl rfl ?_
  obtain ⟨x1, hx2, h⟩ := ob_some h
  have ehx2 := tX3_has (l := l) (g := g) (sz := sz) N this p0 p1 f hx2
  refine v_cVI dX3_get_3 ml_X3_29 ok_X3_has ehx2 (kX3_has N this p0 p1 f hx2) rfl (by decide) rfl (rest := []) rfl (Nat.le_of_ble_eq_true rfl) ?_
  refine v_if_eq (tgt := 20) dX3_get_6 (by decide) (fun c6 => ?_) (fun c6 => ?_)
  · replace h := ip_ c6 h
    refine v_iconst (v := -1) dX3_get_20 (by decide) ?_
    obtain rfl := Option.some.inj h
    exact v_iret dX3_get_21 rfl rfl
  · replace h := in_ c6 h
    refine v_aload_n dX3_get_9 rfl rfl ?_
    obtain ⟨x3, hx3, h⟩ := ob_some h
    refine v_getR dX3_get_10 fl_X3_23 hx3 ?_
    refine v_iload_n dX3_get_13 rfl rfl ?_
    obtain ⟨x4, hx4, h⟩ := ob_some h
    refine v_aald dX3_get_14 (Or.inr rfl) hx4 ?_
    refine v_iload_n dX3_get_15 rfl rfl ?_
    obtain ⟨x5, hx5, h⟩ := ob_some h
    refine v_iald dX3_get_16 hx5 ?_
    refine v_goto (tgt := 21) dX3_get_17 (by decide) ?_
    obtain rfl := Option.some.inj h
    exact v_iret dX3_get_21 rfl rfl

/-! X3 add (W) -/
def DX3_add (N : Nat) (this : Nat) (p0 : Int32) (p1 : Int32) (p2 : Int32) (p3 : Int32) (p4 : Int32) (f : HF) : Option (Unit × HF) :=
  (ck f this 2).bind fun _ =>
  (gI f this 2 2).bind fun x1 =>
  if x1 < 0 then
    some ((), f)
  else
    (gI f this 2 2).bind fun x2 =>
    (gI f this 2 1).bind fun x3 =>
    if x2 < x3 then
      (gR f this 2 0).bind fun x4 =>
      (aR f x4 4 (0 : Int32)).bind fun x5 =>
      (gI f this 2 2).bind fun x6 =>
      (sI f x5 0 x6 p0).bind fun f7 =>
      (gR f7 this 2 0).bind fun x8 =>
      (aR f7 x8 4 (1 : Int32)).bind fun x9 =>
      (gI f7 this 2 2).bind fun x10 =>
      (sI f7 x9 0 x10 p1).bind fun f11 =>
      (gR f11 this 2 0).bind fun x12 =>
      (aR f11 x12 4 (2 : Int32)).bind fun x13 =>
      (gI f11 this 2 2).bind fun x14 =>
      (sI f11 x13 0 x14 p2).bind fun f15 =>
      (gR f15 this 2 0).bind fun x16 =>
      (aR f15 x16 4 (3 : Int32)).bind fun x17 =>
      (gI f15 this 2 2).bind fun x18 =>
      (sI f15 x17 0 x18 p3).bind fun f19 =>
      (gR f19 this 2 0).bind fun x20 =>
      (aR f19 x20 4 (4 : Int32)).bind fun x21 =>
      (gI f19 this 2 2).bind fun x22 =>
      (sI f19 x21 0 x22 p4).bind fun f23 =>
      (gI f23 this 2 2).bind fun x24 =>
      (pV f23 this 2 2 (.int (x24 + (1 : Int32)))).bind fun f25 =>
      some ((), f25)
    else
      some ((), f)

set_option maxRecDepth 20000 in
theorem kX3_add (N : Nat) (this : Nat) (p0 : Int32) (p1 : Int32) (p2 : Int32) (p3 : Int32) (p4 : Int32) (f : HF) {r : (Unit × HF)} (h : DX3_add N this p0 p1 p2 p3 p4 f = some r) : ck f this 2 = some () := by
  unfold DX3_add at h
  obtain ⟨_, hck, _⟩ := ob_some h
  exact hck

set_option maxRecDepth 20000 in
theorem tX3_add {l : Launch} {g : GT} {sz : Option Nat} (N : Nat) (this : Nat) (p0 : Int32) (p1 : Int32) (p2 : Int32) (p3 : Int32) (p4 : Int32) (f : HF) {r : (Unit × HF)} (h : DX3_add N this p0 p1 p2 p3 p4 f = some r) : Mt l g yX3_add cX3_add 6 (Option.none : Option Jvm.ClassFile.FieldType) 0 [.ref this, .int p0, .int p1, .int p2, .int p3, .int p4] f sz (roU (.inl r.1) r.2 sz) := by
  unfold DX3_add at h
  obtain ⟨_, hck, h⟩ := ob_some h
  refine mt_of (by decide) (Nat.le_of_ble_eq_true rfl) (?_ : V l g (fun _ => True) (RX3, cX3_add, 6, (Option.none : Option Jvm.ClassFile.FieldType), [], "add") 0 (roU (.inl r.1) r.2 sz) 0 [(0, .ref this), (1, .int p0), (2, .int p1), (3, .int p2), (4, .int p3), (5, .int p4)] [] f sz 0 0)
  refine v_aload_n dX3_add_0 rfl rfl ?_
  obtain ⟨x1, hx1, h⟩ := ob_some h
  refine v_getI dX3_add_1 fl_X3_26 hx1 ?_
  refine v_if_lt (tgt := 18) dX3_add_4 (by decide) (fun c27 => ?_) (fun c27 => ?_)
  · replace h := ip_ c27 h
    obtain rfl := Option.some.inj h
    exact v_vret dX3_add_18 rfl rfl
  · replace h := in_ c27 h
    refine v_aload_n dX3_add_7 rfl rfl ?_
    obtain ⟨x2, hx2, h⟩ := ob_some h
    refine v_getI dX3_add_8 fl_X3_26 hx2 ?_
    refine v_aload_n dX3_add_11 rfl rfl ?_
    obtain ⟨x3, hx3, h⟩ := ob_some h
    refine v_getI dX3_add_12 fl_X3_15 hx3 ?_
    refine v_icmp_lt (tgt := 19) dX3_add_15 (by decide) (fun c26 => ?_) (fun c26 => ?_)
    · replace h := ip_ c26 h
      refine v_aload_n dX3_add_19 rfl rfl ?_
      obtain ⟨x4, hx4, h⟩ := ob_some h
      refine v_getR dX3_add_20 fl_X3_23 hx4 ?_
      refine v_iconst (v := 0) dX3_add_23 (by decide) ?_
      obtain ⟨x5, hx5, h⟩ := ob_some h
      refine v_aald dX3_add_24 (Or.inr rfl) hx5 ?_
      refine v_aload_n dX3_add_25 rfl rfl ?_
      obtain ⟨x6, hx6, h⟩ := ob_some h
      refine v_getI dX3_add_26 fl_X3_26 hx6 ?_
      refine v_iload_n dX3_add_29 rfl rfl ?_
      obtain ⟨f7, hf7, h⟩ := ob_some h
      refine v_iast dX3_add_30 hf7 ?_
      refine v_aload_n dX3_add_31 rfl rfl ?_
      obtain ⟨x8, hx8, h⟩ := ob_some h
      refine v_getR dX3_add_32 fl_X3_23 hx8 ?_
      refine v_iconst (v := 1) dX3_add_35 (by decide) ?_
      obtain ⟨x9, hx9, h⟩ := ob_some h
      refine v_aald dX3_add_36 (Or.inr rfl) hx9 ?_
      refine v_aload_n dX3_add_37 rfl rfl ?_
      obtain ⟨x10, hx10, h⟩ := ob_some h
      refine v_getI dX3_add_38 fl_X3_26 hx10 ?_
      refine v_iload_n dX3_add_41 rfl rfl ?_
      obtain ⟨f11, hf11, h⟩ := ob_some h
      refine v_iast dX3_add_42 hf11 ?_
      refine v_aload_n dX3_add_43 rfl rfl ?_
      obtain ⟨x12, hx12, h⟩ := ob_some h
      refine v_getR dX3_add_44 fl_X3_23 hx12 ?_
      refine v_iconst (v := 2) dX3_add_47 (by decide) ?_
      obtain ⟨x13, hx13, h⟩ := ob_some h
      refine v_aald dX3_add_48 (Or.inr rfl) hx13 ?_
      refine v_aload_n dX3_add_49 rfl rfl ?_
      obtain ⟨x14, hx14, h⟩ := ob_some h
      refine v_getI dX3_add_50 fl_X3_26 hx14 ?_
      refine v_iload_n dX3_add_53 rfl rfl ?_
      obtain ⟨f15, hf15, h⟩ := ob_some h
      refine v_iast dX3_add_54 hf15 ?_
      refine v_aload_n dX3_add_55 rfl rfl ?_
      obtain ⟨x16, hx16, h⟩ := ob_some h
      refine v_getR dX3_add_56 fl_X3_23 hx16 ?_
      refine v_iconst (v := 3) dX3_add_59 (by decide) ?_
      obtain ⟨x17, hx17, h⟩ := ob_some h
      refine v_aald dX3_add_60 (Or.inr rfl) hx17 ?_
      refine v_aload_n dX3_add_61 rfl rfl ?_
      obtain ⟨x18, hx18, h⟩ := ob_some h
      refine v_getI dX3_add_62 fl_X3_26 hx18 ?_
      refine v_iload dX3_add_65 rfl ?_
      obtain ⟨f19, hf19, h⟩ := ob_some h
      refine v_iast dX3_add_67 hf19 ?_
      refine v_aload_n dX3_add_68 rfl rfl ?_
      obtain ⟨x20, hx20, h⟩ := ob_some h
      refine v_getR dX3_add_69 fl_X3_23 hx20 ?_
      refine v_iconst (v := 4) dX3_add_72 (by decide) ?_
      obtain ⟨x21, hx21, h⟩ := ob_some h
      refine v_aald dX3_add_73 (Or.inr rfl) hx21 ?_
      refine v_aload_n dX3_add_74 rfl rfl ?_
      obtain ⟨x22, hx22, h⟩ := ob_some h
      refine v_getI dX3_add_75 fl_X3_26 hx22 ?_
      refine v_iload dX3_add_78 rfl ?_
      obtain ⟨f23, hf23, h⟩ := ob_some h
      refine v_iast dX3_add_80 hf23 ?_
      refine v_aload_n dX3_add_81 rfl rfl ?_
      refine v_dup dX3_add_82 rfl ?_
      obtain ⟨x24, hx24, h⟩ := ob_some h
      refine v_getI dX3_add_83 fl_X3_26 hx24 ?_
      refine v_iconst (v := 1) dX3_add_86 (by decide) ?_
      refine v_iadd dX3_add_87 ?_
      obtain ⟨f25, hf25, h⟩ := ob_some h
      refine v_pI dX3_add_88 fp_X3_26 hf25 ?_
      obtain rfl := Option.some.inj h
      exact v_vret dX3_add_91 rfl rfl
    · replace h := in_ c26 h
      obtain rfl := Option.some.inj h
      exact v_vret dX3_add_18 rfl rfl

