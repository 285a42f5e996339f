/-! X5 count (R) -/
def DX5_count (N : Nat) (this : Nat) (f : HF) : Option Int32 :=
  (ck f this 4).bind fun _ =>
  (gI f this 4 1).bind fun x1 =>
  some x1

set_option maxRecDepth 20000 in
theorem kX5_count (N : Nat) (this : Nat) (f : HF) {r : Int32} (h : DX5_count N this f = some r) : ck f this 4 = some () := by
  unfold DX5_count at h
  obtain ⟨_, hck, _⟩ := ob_some h
  exact hck

set_option maxRecDepth 20000 in
theorem tX5_count {l : Launch} {g : GT} {sz : Option Nat} (N : Nat) (this : Nat) (f : HF) {r : Int32} (h : DX5_count N this f = some r) : Mt l g yX5_count cX5_count 1 (Option.some Jvm.ClassFile.FieldType.int) 0 [.ref this] f sz (roI (.inl r) f sz) := by
  unfold DX5_count at h
  obtain ⟨_, hck, h⟩ := ob_some h
  refine mt_of (by decide) (Nat.le_of_ble_eq_true rfl) (?_ : V l g (fun _ => True) (RX5, cX5_count, 1, (Option.some Jvm.ClassFile.FieldType.int), [], "count") 0 (roI (.inl r) f sz) 0 [(0, .ref this)] [] f sz 0 0)
  refine v_aload_n dX5_count_0 rfl rfl ?_
  obtain ⟨x1, hx1, h⟩ := ob_some h
  refine v_getI dX5_count_1 fl_X5_21 hx1 ?_
  obtain rfl := Option.some.inj h
  exact v_iret dX5_count_4 rfl rfl

/-! X5 has (R) -/
def DX5_has (N : Nat) (this : Nat) (p0 : Int32) (f : HF) : Option Int32 :=
  (ck f this 4).bind fun _ =>
  if p0 < 0 then
    some (0 : Int32)
  else
    (gI f this 4 1).bind fun x1 =>
    if x1 ≤ p0 then
      some (0 : Int32)
    else
      some (1 : Int32)

set_option maxRecDepth 20000 in
theorem kX5_has (N : Nat) (this : Nat) (p0 : Int32) (f : HF) {r : Int32} (h : DX5_has N this p0 f = some r) : ck f this 4 = some () := by
  unfold DX5_has at h
  obtain ⟨_, hck, _⟩ := ob_some h
  exact hck

set_option maxRecDepth 20000 in
theorem tX5_has {l : Launch} {g : GT} {sz : Option Nat} (N : Nat) (this : Nat) (p0 : Int32) (f : HF) {r : Int32} (h : DX5_has N this p0 f = some r) : Mt l g yX5_has cX5_has 2 (Option.some Jvm.ClassFile.FieldType.boolean) 0 [.ref this, .int p0] f sz (roI (.inl r) f sz) := by
  unfold DX5_has at h
  obtain ⟨_, hck, h⟩ := ob_some h
  refine mt_of (by decide) (Nat.le_of_ble_eq_true rfl) (?_ : V l g (fun _ => True) (RX5, cX5_has, 2, (Option.some Jvm.ClassFile.FieldType.boolean), [], "has") 0 (roI (.inl r) f sz) 0 [(0, .ref this), (1, .int p0)] [] f sz 0 0)
  refine v_iload_n dX5_has_0 rfl rfl ?_
  refine v_if_lt (tgt := 16) dX5_has_1 (by decide) (fun c3 => ?_) (fun c3 => ?_)
  · replace h := ip_ c3 h
    refine v_iconst (v := 0) dX5_has_16 (by decide) ?_
    obtain rfl := Option.some.inj h
    exact v_zret dX5_has_17 rfl (Or.inl rfl) rfl
  · replace h := in_ c3 h
    refine v_iload_n dX5_has_4 rfl rfl ?_
    refine v_aload_n dX5_has_5 rfl rfl ?_
    obtain ⟨x1, hx1, h⟩ := ob_some h
    refine v_getI dX5_has_6 fl_X5_21 hx1 ?_
    refine v_icmp_ge (tgt := 16) dX5_has_9 (by decide) (fun c2 => ?_) (fun c2 => ?_)
    · replace h := ip_ c2 h
      refine v_iconst (v := 0) dX5_has_16 (by decide) ?_
      obtain rfl := Option.some.inj h
      exact v_zret dX5_has_17 rfl (Or.inl rfl) rfl
    · replace h := in_ c2 h
      refine v_iconst (v := 1) dX5_has_12 (by decide) ?_
      refine v_goto (tgt := 17) dX5_has_13 (by decide) ?_
      obtain rfl := Option.some.inj h
      exact v_zret dX5_has_17 rfl (Or.inr rfl) rfl

/-! X5 get (R) -/
def DX5_get (N : Nat) (this : Nat) (p0 : Int32) (f : HF) : Option Int32 :=
  (ck f this 4).bind fun _ =>
  if p0 < 0 then
    some (-1 : Int32)
  else
    (gI f this 4 1).bind fun x1 =>
    if x1 ≤ p0 then
      some (-1 : Int32)
    else
      (gR f this 4 0).bind fun x2 =>
      (aLen f x2 0).bind fun x3 =>
      if x3 ≤ p0 then
        some (-1 : Int32)
      else
        (gR f this 4 0).bind fun x4 =>
        (aI f x4 0 p0).bind fun x5 =>
        some x5

set_option maxRecDepth 20000 in
theorem kX5_get (N : Nat) (this : Nat) (p0 : Int32) (f : HF) {r : Int32} (h : DX5_get N this p0 f = some r) : ck f this 4 = some () := by
  unfold DX5_get at h
  obtain ⟨_, hck, _⟩ := ob_some h
  exact hck

set_option maxRecDepth 20000 in
theorem tX5_get {l : Launch} {g : GT} {sz : Option Nat} (N : Nat) (this : Nat) (p0 : Int32) (f : HF) {r : Int32} (h : DX5_get N this p0 f = some r) : Mt l g yX5_get cX5_get 2 (Option.some Jvm.ClassFile.FieldType.int) 0 [.ref this, .int p0] f sz (roI (.inl r) f sz) := by
  unfold DX5_get at h
  obtain ⟨_, hck, h⟩ := ob_some h
  refine mt_of (by decide) (Nat.le_of_ble_eq_true rfl) (?_ : V l g (fun _ => True) (RX5, cX5_get, 2, (Option.some Jvm.ClassFile.FieldType.int), [], "get") 0 (roI (.inl r) f sz) 0 [(0, .ref this), (1, .int p0)] [] f sz 0 0)
  refine v_iload_n dX5_get_0 rfl rfl ?_
  refine v_if_lt (tgt := 30) dX5_get_1 (by decide) (fun c8 => ?_) (fun c8 => ?_)
  · replace h := ip_ c8 h
    refine v_iconst (v := -1) dX5_get_30 (by decide) ?_
    obtain rfl := Option.some.inj h
    exact v_iret dX5_get_31 rfl rfl
  · replace h := in_ c8 h
    refine v_iload_n dX5_get_4 rfl rfl ?_
    refine v_aload_n dX5_get_5 rfl rfl ?_
    obtain ⟨x1, hx1, h⟩ := ob_some h
    refine v_getI dX5_get_6 fl_X5_21 hx1 ?_
    refine v_icmp_ge (tgt := 30) dX5_get_9 (by decide) (fun c7 => ?_) (fun c7 => ?_)
    · replace h := ip_ c7 h
      refine v_iconst (v := -1) dX5_get_30 (by decide) ?_
      obtain rfl := Option.some.inj h
      exact v_iret dX5_get_31 rfl rfl
    · replace h := in_ c7 h
      refine v_iload_n dX5_get_12 rfl rfl ?_
      refine v_aload_n dX5_get_13 rfl rfl ?_
      obtain ⟨x2, hx2, h⟩ := ob_some h
      refine v_getR dX5_get_14 fl_X5_15 hx2 ?_
      obtain ⟨x3, hx3, h⟩ := ob_some h
      refine v_alen dX5_get_17 rfl hx3 ?_
      refine v_icmp_ge (tgt := 30) dX5_get_18 (by decide) (fun c6 => ?_) (fun c6 => ?_)
      · replace h := ip_ c6 h
        refine v_iconst (v := -1) dX5_get_30 (by decide) ?_
        obtain rfl := Option.some.inj h
        exact v_iret dX5_get_31 rfl rfl
      · replace h := in_ c6 h
        refine v_aload_n dX5_get_21 rfl rfl ?_
        obtain ⟨x4, hx4, h⟩ := ob_some h
        refine v_getR dX5_get_22 fl_X5_15 hx4 ?_
        refine v_iload_n dX5_get_25 rfl rfl ?_
        obtain ⟨x5, hx5, h⟩ := ob_some h
        refine v_iald dX5_get_26 hx5 ?_
        refine v_goto (tgt := 31) dX5_get_27 (by decide) ?_
        obtain rfl := Option.some.inj h
        exact v_iret dX5_get_31 rfl rfl

/-! X5 find (R) -/
def DX5_find_2 (N : Nat) (f : HF)  (n : Nat) (v0 : Nat) (v1 : Int32) (v2 : Int32) : Option Int32 :=
  match n with
  | 0 => none
  | n + 1 =>
    (gI f v0 4 1).bind fun x1 =>
    if x1 ≤ v2 then
      some (-1 : Int32)
    else
      (DX5_get N v0 v2 f).bind fun x2 =>
      if x2 = v1 then
        some v2
      else
        DX5_find_2 N f n v0 v1 (v2 + 1)

def DX5_find (N : Nat) (this : Nat) (p0 : Int32) (f : HF) : Option Int32 :=
  (ck f this 4).bind fun _ =>
  DX5_find_2 N f N this p0 (0 : Int32)

set_option maxRecDepth 20000 in
theorem tX5_find_2 {l : Launch} {g : GT} {sz : Option Nat} (N : Nat) (f : HF)  {r : Int32} : ∀ (n : Nat), ∀ (v0 : Nat) (v1 : Int32) (v2 : Int32), DX5_find_2 N f n v0 v1 v2 = some r → V l g (fun _ => True) (RX5, cX5_find, 3, (Option.some Jvm.ClassFile.FieldType.int), [], "find") 1 (roI (.inl r) f sz) 2 [(0, .ref v0), (1, .int v1), (2, .int v2)] [] f sz 0 0 := by
  intro n
  induction n with
  | zero => intro v0 v1 v2 h; cases h
  | succ n ih =>
    intro v0 v1 v2 h
    rw [DX5_find_2] at h
    refine v_iload_n dX5_find_2 rfl rfl ?_
    refine v_aload_n dX5_find_3 rfl rfl ?_
    obtain ⟨x1, hx1, h⟩ := ob_some h
    refine v_getI dX5_find_4 fl_X5_21 hx1 ?_
    refine v_icmp_ge (tgt := 27) dX5_find_7 (by decide) (fun c5 => ?_) (fun c5 => ?_)
    · replace h := ip_ c5 h
      refine v_iconst (v := -1) dX5_find_27 (by decide) ?_
      obtain rfl := Option.some.inj h
      exact v_iret dX5_find_28 rfl rfl
    · replace h := in_ c5 h
      refine v_aload_n dX5_find_10 rfl rfl ?_
      refine v_iload_n dX5_find_11 rfl rfl ?_
      obtain ⟨x2, hx3, h⟩ := ob_some h
      have ehx3 := tX5_get (l := l) (g := g) (sz := sz) N v0 v2 f hx3
      refine v_cVI dX5_find_12 ml_X5_25 ok_X5_get ehx3 (kX5_get N v0 v2 f hx3) rfl (by decide) rfl (rest := []) rfl (Nat.le_of_ble_eq_true rfl) ?_
      refine v_iload_n dX5_find_15 rfl rfl ?_
      refine v_icmp_ne (tgt := 21) dX5_find_16 (by decide) (fun c4 => ?_) (fun c4 => ?_)
      · replace h := in_ c4 h
        refine v_iinc (v := (v2 + 1)) (ls1 := [(2, .int (v2 + 1)), (0, .ref v0), (1, .int v1)]) dX5_find_21 rfl rfl (by decide) rfl ?_
        refine v_goto (tgt := 2) dX5_find_24 (by decide) ?_
        exact v_sub (vs_c rfl (vs_c rfl (vs_c rfl vs_n))) (ih v0 v1 (v2 + 1) h)
      · replace h := ip_ c4 h
        refine v_iload_n dX5_find_19 rfl rfl ?_
        obtain rfl := Option.some.inj h
        exact v_iret dX5_find_20 rfl rfl

set_option maxRecDepth 20000 in
theorem kX5_find (N : Nat) (this : Nat) (p0 : Int32) (f : HF) {r : Int32} (h : DX5_find N this p0 f = some r) : ck f this 4 = some () := by
  unfold DX5_find at h
  obtain ⟨_, hck, _⟩ := ob_some h
  exact hck

set_option maxRecDepth 20000 in
theorem tX5_find {l : Launch} {g : GT} {sz : Option Nat} (N : Nat) (this : Nat) (p0 : Int32) (f : HF) {r : Int32} (h : DX5_find N this p0 f = some r) : Mt l g yX5_find cX5_find 3 (Option.some Jvm.ClassFile.FieldType.int) 1 [.ref this, .int p0] f sz (roI (.inl r) f sz) := by
  unfold DX5_find at h
  obtain ⟨_, hck, h⟩ := ob_some h
  refine mt_of (by decide) (Nat.le_of_ble_eq_true rfl) (?_ : V l g (fun _ => True) (RX5, cX5_find, 3, (Option.some Jvm.ClassFile.FieldType.int), [], "find") 1 (roI (.inl r) f sz) 0 [(0, .ref this), (1, .int p0)] [] f sz 0 0)
  refine v_iconst (v := 0) dX5_find_0 (by decide) ?_
  refine v_istore_n (ls1 := [(2, .int (0 : Int32)), (0, .ref this), (1, .int p0)]) dX5_find_1 rfl (by decide) rfl ?_
  exact v_sub (vs_c rfl (vs_c rfl (vs_c rfl vs_n))) (tX5_find_2 N f N this p0 (0 : Int32) h)

/-! X5 add (W) -/
def DX5_add (N : Nat) (this : Nat) (p0 : Int32) (f : HF) : Option (Int32 × HF) :=
  (ck f this 4).bind fun _ =>
  (gI f this 4 1).bind fun x1 =>
  if x1 < 0 then
    some ((0 : Int32), f)
  else
    (gI f this 4 1).bind fun x2 =>
    (gR f this 4 0).bind fun x3 =>
    (aLen f x3 0).bind fun x4 =>
    if x2 < x4 then
      (gR f this 4 0).bind fun x5 =>
      (gI f this 4 1).bind fun x6 =>
      (sI f x5 0 x6 p0).bind fun f7 =>
      (gI f7 this 4 1).bind fun x8 =>
      (pV f7 this 4 1 (.int (x8 + (1 : Int32)))).bind fun f9 =>
      some ((1 : Int32), f9)
    else
      some ((0 : Int32), f)

set_option maxRecDepth 20000 in
theorem kX5_add (N : Nat) (this : Nat) (p0 : Int32) (f : HF) {r : (Int32 × HF)} (h : DX5_add N this p0 f = some r) : ck f this 4 = some () := by
  unfold DX5_add at h
  obtain ⟨_, hck, _⟩ := ob_some h
  exact hck

set_option maxRecDepth 20000 in
theorem tX5_add {l : Launch} {g : GT} {sz : Option Nat} (N : Nat) (this : Nat) (p0 : Int32) (f : HF) {r : (Int32 × HF)} (h : DX5_add N this p0 f = some r) : Mt l g yX5_add cX5_add 2 (Option.some Jvm.ClassFile.FieldType.boolean) 0 [.ref this, .int p0] f sz (roI (.inl r.1) r.2 sz) := by
  unfold DX5_add at h
  obtain ⟨_, hck, h⟩ := ob_some h
  refine mt_of (by decide) (Nat.le_of_ble_eq_true rfl) (?_ : V l g (fun _ => True) (RX5, cX5_add, 2, (Option.some Jvm.ClassFile.FieldType.boolean), [], "add") 0 (roI (.inl r.1) r.2 sz) 0 [(0, .ref this), (1, .int p0)] [] f sz 0 0)
  refine v_aload_n dX5_add_0 rfl rfl ?_
  obtain ⟨x1, hx1, h⟩ := ob_some h
  refine v_getI dX5_add_1 fl_X5_21 hx1 ?_
  refine v_if_lt (tgt := 19) dX5_add_4 (by decide) (fun c11 => ?_) (fun c11 => ?_)
  · replace h := ip_ c11 h
    refine v_iconst (v := 0) dX5_add_19 (by decide) ?_
    obtain rfl := Option.some.inj h
    exact v_zret dX5_add_20 rfl (Or.inl rfl) rfl
  · replace h := in_ c11 h
    refine v_aload_n dX5_add_7 rfl rfl ?_
    obtain ⟨x2, hx2, h⟩ := ob_some h
    refine v_getI dX5_add_8 fl_X5_21 hx2 ?_
    refine v_aload_n dX5_add_11 rfl rfl ?_
    obtain ⟨x3, hx3, h⟩ := ob_some h
    refine v_getR dX5_add_12 fl_X5_15 hx3 ?_
    obtain ⟨x4, hx4, h⟩ := ob_some h
    refine v_alen dX5_add_15 rfl hx4 ?_
    refine v_icmp_lt (tgt := 21) dX5_add_16 (by decide) (fun c10 => ?_) (fun c10 => ?_)
    · replace h := ip_ c10 h
      refine v_aload_n dX5_add_21 rfl rfl ?_
      obtain ⟨x5, hx5, h⟩ := ob_some h
      refine v_getR dX5_add_22 fl_X5_15 hx5 ?_
      refine v_aload_n dX5_add_25 rfl rfl ?_
      obtain ⟨x6, hx6, h⟩ := ob_some h
      refine v_getI dX5_add_26 fl_X5_21 hx6 ?_
      refine v_iload_n dX5_add_29 rfl rfl ?_
      obtain ⟨f7, hf7, h⟩ := ob_some h
      refine v_iast dX5_add_30 hf7 ?_
      refine v_aload_n dX5_add_31 rfl rfl ?_
      refine v_dup dX5_add_32 rfl ?_
      obtain ⟨x8, hx8, h⟩ := ob_some h
      refine v_getI dX5_add_33 fl_X5_21 hx8 ?_
      refine v_iconst (v := 1) dX5_add_36 (by decide) ?_
      refine v_iadd dX5_add_37 ?_
      obtain ⟨f9, hf9, h⟩ := ob_some h
      refine v_pI dX5_add_38 fp_X5_21 hf9 ?_
      refine v_iconst (v := 1) dX5_add_41 (by decide) ?_
      obtain rfl := Option.some.inj h
      exact v_zret dX5_add_42 rfl (Or.inr rfl) rfl
    · replace h := in_ c10 h
      refine v_iconst (v := 0) dX5_add_19 (by decide) ?_
      obtain rfl := Option.some.inj h
      exact v_zret dX5_add_20 rfl (Or.inl rfl) rfl

/-! X5 clear (W) -/
def DX5_clear (N : Nat) (this : Nat) (f : HF) : Option (Unit × HF) :=
  (ck f this 4).bind fun _ =>
  (pV f this 4 1 (.int (0 : Int32))).bind fun f1 =>
  some ((), f1)

set_option maxRecDepth 20000 in
theorem kX5_clear (N : Nat) (this : Nat) (f : HF) {r : (Unit × HF)} (h : DX5_clear N this f = some r) : ck f this 4 = some () := by
  unfold DX5_clear at h
  obtain ⟨_, hck, _⟩ := ob_some h
  exact hck

set_option maxRecDepth 20000 in
theorem tX5_clear {l : Launch} {g : GT} {sz : Option Nat} (N : Nat) (this : Nat) (f : HF) {r : (Unit × HF)} (h : DX5_clear N this f = some r) : Mt l g yX5_clear cX5_clear 1 (Option.none : Option Jvm.ClassFile.FieldType) 0 [.ref this] f sz (roU (.inl r.1) r.2 sz) := by
  unfold DX5_clear at h
  obtain ⟨_, hck, h⟩ := ob_some h
  refine mt_of (by decide) (Nat.le_of_ble_eq_true rfl) (?_ : V l g (fun _ => True) (RX5, cX5_clear, 1, (Option.none : Option Jvm.ClassFile.FieldType), [], "clear") 0 (roU (.inl r.1) r.2 sz) 0 [(0, .ref this)] [] f sz 0 0)
  refine v_aload_n dX5_clear_0 rfl rfl ?_
  refine v_iconst (v := 0) dX5_clear_1 (by decide) ?_
  obtain ⟨f1, hf1, h⟩ := ob_some h
  refine v_pI dX5_clear_2 fp_X5_21 hf1 ?_
  obtain rfl := Option.some.inj h
  exact v_vret dX5_clear_5 rfl rfl

/-! X5 addAll (W) -/
def DX5_addAll_3 (N : Nat)  (n : Nat) (v0 : Nat) (v1 : Nat) (v3 : Int32) (v4 : Int32) (f : HF) : Option (Unit × HF) :=
  match n with
  | 0 => none
  | n + 1 =>
    if v3 ≤ v4 then
      some ((), f)
    else
      (DX5_get N v1 v4 f).bind fun x1 =>
      bW (DX5_add N v0 x1 f) fun x3 f5 =>
      DX5_addAll_3 N n v0 v1 v3 (v4 + 1) f5

def DX5_addAll (N : Nat) (this : Nat) (p0 : Nat) (p1 : Int32) (p2 : Int32) (f : HF) : Option (Unit × HF) :=
  (ck f this 4).bind fun _ =>
  DX5_addAll_3 N N this p0 p2 p1 f

set_option maxRecDepth 20000 in
theorem tX5_addAll_3 {l : Launch} {g : GT} {sz : Option Nat} (N : Nat)  {r : (Unit × HF)} : ∀ (n : Nat), ∀ (v0 : Nat) (v1 : Nat) (v3 : Int32) (v4 : Int32) (f : HF), DX5_addAll_3 N n v0 v1 v3 v4 f = some r → V l g (fun _ => True) (RX5, cX5_addAll, 5, (Option.none : Option Jvm.ClassFile.FieldType), [], "addAll") 1 (roU (.inl r.1) r.2 sz) 3 [(0, .ref v0), (1, .ref v1), (3, .int v3), (4, .int v4)] [] f sz 0 0 := by
  intro n
  induction n with
  | zero => intro v0 v1 v3 v4 f h; cases h
  | succ n ih =>
    intro v0 v1 v3 v4 f h
    rw [DX5_addAll_3] at h
    refine v_iload dX5_addAll_3 rfl ?_
    refine v_iload_n dX5_addAll_5 rfl rfl ?_
    refine v_icmp_ge (tgt := 26) dX5_addAll_6 (by decide) (fun c6 => ?_) (fun c6 => ?_)
    · replace h := ip_ c6 h
      obtain rfl := Option.some.inj h
      exact v_vret dX5_addAll_26 rfl rfl
    · replace h := in_ c6 h
      refine v_aload_n dX5_addAll_9 rfl rfl ?_
      refine v_aload_n dX5_addAll_10 rfl rfl ?_
      refine v_iload dX5_addAll_11 rfl ?_
      obtain ⟨x1, hx2, h⟩ := ob_some h
      have ehx2 := tX5_get (l := l) (g := g) (sz := sz) N v1 v4 f hx2
      refine v_cVI dX5_addAll_13 ml_X5_25 ok_X5_get ehx2 (kX5_get N v1 v4 f hx2) rfl (by decide) rfl (rest := [.ref v0]) rfl (Nat.le_of_ble_eq_true rfl) ?_
      obtain ⟨x3, f5, hx4, h⟩ := bW_some h
      have ehx4 := tX5_add (l := l) (g := g) (sz := sz) N v0 x1 f hx4
      refine v_cVI dX5_addAll_16 ml_X5_29 ok_X5_add ehx4 (kX5_add N v0 x1 f hx4) rfl (by decide) rfl (rest := []) rfl (Nat.le_of_ble_eq_true rfl) ?_
      refine v_pop dX5_addAll_19 rfl ?_
      refine v_iinc (v := (v4 + 1)) (ls1 := [(4, .int (v4 + 1)), (0, .ref v0), (1, .ref v1), (3, .int v3)]) dX5_addAll_20 rfl rfl (by decide) rfl ?_
      refine v_goto (tgt := 3) dX5_addAll_23 (by decide) ?_
      exact v_sub (vs_c rfl (vs_c rfl (vs_c rfl (vs_c rfl vs_n)))) (ih v0 v1 v3 (v4 + 1) f5 h)

set_option maxRecDepth 20000 in
theorem kX5_addAll (N : Nat) (this : Nat) (p0 : Nat) (p1 : Int32) (p2 : Int32) (f : HF) {r : (Unit × HF)} (h : DX5_addAll N this p0 p1 p2 f = some r) : ck f this 4 = some () := by
  unfold DX5_addAll at h
  obtain ⟨_, hck, _⟩ := ob_some h
  exact hck

set_option maxRecDepth 20000 in
theorem tX5_addAll {l : Launch} {g : GT} {sz : Option Nat} (N : Nat) (this : Nat) (p0 : Nat) (p1 : Int32) (p2 : Int32) (f : HF) {r : (Unit × HF)} (h : DX5_addAll N this p0 p1 p2 f = some r) : Mt l g yX5_addAll cX5_addAll 5 (Option.none : Option Jvm.ClassFile.FieldType) 1 [.ref this, .ref p0, .int p1, .int p2] f sz (roU (.inl r.1) r.2 sz) := by
  unfold DX5_addAll at h
  obtain ⟨_, hck, h⟩ := ob_some h
  refine mt_of (by decide) (Nat.le_of_ble_eq_true rfl) (?_ : V l g (fun _ => True) (RX5, cX5_addAll, 5, (Option.none : Option Jvm.ClassFile.FieldType), [], "addAll") 1 (roU (.inl r.1) r.2 sz) 0 [(0, .ref this), (1, .ref p0), (2, .int p1), (3, .int p2)] [] f sz 0 0)
  refine v_iload_n dX5_addAll_0 rfl rfl ?_
  refine v_istore (ls1 := [(4, .int p1), (0, .ref this), (1, .ref p0), (2, .int p1), (3, .int p2)]) dX5_addAll_1 (by decide) rfl ?_
  exact v_sub (vs_c rfl (vs_c rfl (vs_c rfl (vs_c rfl vs_n)))) (tX5_addAll_3 N N this p0 p2 p1 f h)

/-! X5 become (W) -/
def DX5_become (N : Nat) (this : Nat) (p0 : Nat) (f : HF) : Option (Unit × HF) :=
  (ck f this 4).bind fun _ =>
  bW (DX5_clear N this f) fun x1 f3 =>
  (DX5_count N p0 f3).bind fun x4 =>
  bW (DX5_addAll N this p0 (0 : Int32) x4 f3) fun x6 f8 =>
  some ((), f8)

set_option maxRecDepth 20000 in
theorem kX5_become (N : Nat) (this : Nat) (p0 : Nat) (f : HF) {r : (Unit × HF)} (h : DX5_become N this p0 f = some r) : ck f this 4 = some () := by
  unfold DX5_become at h
  obtain ⟨_, hck, _⟩ := ob_some h
  exact hck

set_option maxRecDepth 20000 in
theorem tX5_become {l : Launch} {g : GT} {sz : Option Nat} (N : Nat) (this : Nat) (p0 : Nat) (f : HF) {r : (Unit × HF)} (h : DX5_become N this p0 f = some r) : Mt l g yX5_become cX5_become 2 (Option.none : Option Jvm.ClassFile.FieldType) 2 [.ref this, .ref p0] f sz (roU (.inl r.1) r.2 sz) := by
  unfold DX5_become at h
  obtain ⟨_, hck, h⟩ := ob_some h
  refine mt_of (by decide) (Nat.le_of_ble_eq_true rfl) (?_ : V l g (fun _ => True) (RX5, cX5_become, 2, (Option.none : Option Jvm.ClassFile.FieldType), [], "become") 2 (roU (.inl r.1) r.2 sz) 0 [(0, .ref this), (1, .ref p0)] [] f sz 0 0)
  refine v_aload_n dX5_become_0 rfl rfl ?_
  obtain ⟨x1, f3, hx2, h⟩ := bW_some h
  have ehx2 := tX5_clear (l := l) (g := g) (sz := sz) N this f hx2
  refine v_cVU dX5_become_1 ml_X5_33 ok_X5_clear ehx2 (kX5_clear N this f hx2) rfl (by decide) rfl (rest := []) rfl (Nat.le_of_ble_eq_true rfl) ?_
  refine v_aload_n dX5_become_4 rfl rfl ?_
  refine v_aload_n dX5_become_5 rfl rfl ?_
  refine v_iconst (v := 0) dX5_become_6 (by decide) ?_
  refine v_aload_n dX5_become_7 rfl rfl ?_
  obtain ⟨x4, hx5, h⟩ := ob_some h
  have ehx5 := tX5_count (l := l) (g := g) (sz := sz) N p0 f3 hx5
  refine v_cVI dX5_become_8 ml_X5_36 ok_X5_count ehx5 (kX5_count N p0 f3 hx5) rfl (by decide) rfl (rest := [.int (0 : Int32), .ref p0, .ref this]) rfl (Nat.le_of_ble_eq_true rfl) ?_
  obtain ⟨x6, f8, hx7, h⟩ := bW_some h
  have ehx7 := tX5_addAll (l := l) (g := g) (sz := sz) N this p0 (0 : Int32) x4 f3 hx7
  refine v_cVU dX5_become_11 ml_X5_39 ok_X5_addAll ehx7 (kX5_addAll N this p0 (0 : Int32) x4 f3 hx7) rfl (by decide) rfl (rest := []) rfl (Nat.le_of_ble_eq_true rfl) ?_
  obtain rfl := Option.some.inj h
  exact v_vret dX5_become_14 rfl rfl

/-! X5 isSameAs (R) -/
def DX5_isSameAs_15 (N : Nat) (f : HF)  (n : Nat) (v0 : Nat) (v1 : Nat) (v2 : Int32) : Option Int32 :=
  match n with
  | 0 => none
  | n + 1 =>
    (gI f v0 4 1).bind fun x4 =>
    if x4 ≤ v2 then
      some (1 : Int32)
    else
      (DX5_get N v0 v2 f).bind fun x5 =>
      (DX5_get N v1 v2 f).bind fun x7 =>
      if x5 = x7 then
        DX5_isSameAs_15 N f n v0 v1 (v2 + 1)
      else
        some (0 : Int32)

def DX5_isSameAs (N : Nat) (this : Nat) (p0 : Nat) (f : HF) : Option Int32 :=
  (ck f this 4).bind fun _ =>
  (gI f this 4 1).bind fun x1 =>
  (DX5_count N p0 f).bind fun x2 =>
  if x1 = x2 then
    DX5_isSameAs_15 N f N this p0 (0 : Int32)
  else
    some (0 : Int32)

set_option maxRecDepth 20000 in
theorem tX5_isSameAs_15 {l : Launch} {g : GT} {sz : Option Nat} (N : Nat) (f : HF)  {r : Int32} : ∀ (n : Nat), ∀ (v0 : Nat) (v1 : Nat) (v2 : Int32), DX5_isSameAs_15 N f n v0 v1 v2 = some r → V l g (fun _ => True) (RX5, cX5_isSameAs, 3, (Option.some Jvm.ClassFile.FieldType.boolean), [], "isSameAs") 1 (roI (.inl r) f sz) 15 [(0, .ref v0), (1, .ref v1), (2, .int v2)] [] f sz 0 0 := by
  intro n
  induction n with
  | zero => intro v0 v1 v2 h; cases h
  | succ n ih =>
    intro v0 v1 v2 h
    rw [DX5_isSameAs_15] at h
    refine v_iload_n dX5_isSameAs_15 rfl rfl ?_
    refine v_aload_n dX5_isSameAs_16 rfl rfl ?_
    obtain ⟨x4, hx4, h⟩ := ob_some h
    refine v_getI dX5_isSameAs_17 fl_X5_21 hx4 ?_
    refine v_icmp_ge (tgt := 44) dX5_isSameAs_20 (by decide) (fun c10 => ?_) (fun c10 => ?_)
    · replace h := ip_ c10 h
      refine v_iconst (v := 1) dX5_isSameAs_44 (by decide) ?_
      obtain rfl := Option.some.inj h
      exact v_zret dX5_isSameAs_45 rfl (Or.inr rfl) rfl
    · replace h := in_ c10 h
      refine v_aload_n dX5_isSameAs_23 rfl rfl ?_
      refine v_iload_n dX5_isSameAs_24 rfl rfl ?_
      obtain ⟨x5, hx6, h⟩ := ob_some h
      have ehx6 := tX5_get (l := l) (g := g) (sz := sz) N v0 v2 f hx6
      refine v_cVI dX5_isSameAs_25 ml_X5_25 ok_X5_get ehx6 (kX5_get N v0 v2 f hx6) rfl (by decide) rfl (rest := []) rfl (Nat.le_of_ble_eq_true rfl) ?_
      refine v_aload_n dX5_isSameAs_28 rfl rfl ?_
      refine v_iload_n dX5_isSameAs_29 rfl rfl ?_
      obtain ⟨x7, hx8, h⟩ := ob_some h
      have ehx8 := tX5_get (l := l) (g := g) (sz := sz) N v1 v2 f hx8
      refine v_cVI dX5_isSameAs_30 ml_X5_25 ok_X5_get ehx8 (kX5_get N v1 v2 f hx8) rfl (by decide) rfl (rest := [.int x5]) rfl (Nat.le_of_ble_eq_true rfl) ?_
      refine v_icmp_eq (tgt := 38) dX5_isSameAs_33 (by decide) (fun c9 => ?_) (fun c9 => ?_)
      · replace h := ip_ c9 h
        refine v_iinc (v := (v2 + 1)) (ls1 := [(2, .int (v2 + 1)), (0, .ref v0), (1, .ref v1)]) dX5_isSameAs_38 rfl rfl (by decide) rfl ?_
        refine v_goto (tgt := 15) dX5_isSameAs_41 (by decide) ?_
        exact v_sub (vs_c rfl (vs_c rfl (vs_c rfl vs_n))) (ih v0 v1 (v2 + 1) h)
      · replace h := in_ c9 h
        refine v_iconst (v := 0) dX5_isSameAs_36 (by decide) ?_
        obtain rfl := Option.some.inj h
        exact v_zret dX5_isSameAs_37 rfl (Or.inl rfl) rfl

set_option maxRecDepth 20000 in
theorem kX5_isSameAs (N : Nat) (this : Nat) (p0 : Nat) (f : HF) {r : Int32} (h : DX5_isSameAs N this p0 f = some r) : ck f this 4 = some () := by
  unfold DX5_isSameAs at h
  obtain ⟨_, hck, _⟩ := ob_some h
  exact hck

set_option maxRecDepth 20000 in
theorem tX5_isSameAs {l : Launch} {g : GT} {sz : Option Nat} (N : Nat) (this : Nat) (p0 : Nat) (f : HF) {r : Int32} (h : DX5_isSameAs N this p0 f = some r) : Mt l g yX5_isSameAs cX5_isSameAs 3 (Option.some Jvm.ClassFile.FieldType.boolean) 1 [.ref this, .ref p0] f sz (roI (.inl r) f sz) := by
  unfold DX5_isSameAs at h
  obtain ⟨_, hck, h⟩ := ob_some h
  refine mt_of (by decide) (Nat.le_of_ble_eq_true rfl) (?_ : V l g (fun _ => True) (RX5, cX5_isSameAs, 3, (Option.some Jvm.ClassFile.FieldType.boolean), [], "isSameAs") 1 (roI (.inl r) f sz) 0 [(0, .ref this), (1, .ref p0)] [] f sz 0 0)
  refine v_aload_n dX5_isSameAs_0 rfl rfl ?_
  obtain ⟨x1, hx1, h⟩ := ob_some h
  refine v_getI dX5_isSameAs_1 fl_X5_21 hx1 ?_
  refine v_aload_n dX5_isSameAs_4 rfl rfl ?_
  obtain ⟨x2, hx3, h⟩ := ob_some h
  have ehx3 := tX5_count (l := l) (g := g) (sz := sz) N p0 f hx3
  refine v_cVI dX5_isSameAs_5 ml_X5_36 ok_X5_count ehx3 (kX5_count N p0 f hx3) rfl (by decide) rfl (rest := [.int x1]) rfl (Nat.le_of_ble_eq_true rfl) ?_
  refine v_icmp_eq (tgt := 13) dX5_isSameAs_8 (by decide) (fun c11 => ?_) (fun c11 => ?_)
  · replace h := ip_ c11 h
    refine v_iconst (v := 0) dX5_isSameAs_13 (by decide) ?_
    refine v_istore_n (ls1 := [(2, .int (0 : Int32)), (0, .ref this), (1, .ref p0)]) dX5_isSameAs_14 rfl (by decide) rfl ?_
    exact v_sub (vs_c rfl (vs_c rfl (vs_c rfl vs_n))) (tX5_isSameAs_15 N f N this p0 (0 : Int32) h)
  · replace h := in_ c11 h
    refine v_iconst (v := 0) dX5_isSameAs_11 (by decide) ?_
    obtain rfl := Option.some.inj h
    exact v_zret dX5_isSameAs_12 rfl (Or.inl rfl) rfl

