/-! X4 next (R) -/
def DX4_next_3 (N : Nat) (f : HF)  (n : Nat) (v0 : Nat) (v1 : Int32) (v3 : Int32) (v4 : Int32) : Option Int32 :=
  match n with
  | 0 => none
  | n + 1 =>
    if v3 ≤ v4 then
      some v3
    else
      (gR f v0 3 1).bind fun x1 =>
      (DX5_get N x1 v4 f).bind fun x2 =>
      if x2 = v1 then
        some v4
      else
        DX4_next_3 N f n v0 v1 v3 (v4 + 1)

def DX4_next (N : Nat) (this : Nat) (p0 : Int32) (p1 : Int32) (p2 : Int32) (f : HF) : Option Int32 :=
  (ck f this 3).bind fun _ =>
  DX4_next_3 N f N this p0 p2 p1

set_option maxRecDepth 20000 in
theorem tX4_next_3 {l : Launch} {g : GT} {sz : Option Nat} (N : Nat) (f : HF)  {r : Int32} : ∀ (n : Nat), ∀ (v0 : Nat) (v1 : Int32) (v3 : Int32) (v4 : Int32), DX4_next_3 N f n v0 v1 v3 v4 = some r → V l g (fun _ => True) (RX4, cX4_next, 5, (Option.some Jvm.ClassFile.FieldType.int), [], "next") 1 (roI (.inl r) f sz) 3 [(0, .ref v0), (1, .int v1), (3, .int v3), (4, .int v4)] [] f sz 0 0 := by
  intro n
  induction n with
  | zero => intro v0 v1 v3 v4 h; cases h
  | succ n ih =>
    intro v0 v1 v3 v4 h
    rw [DX4_next_3] at h
    refine v_iload dX4_next_3 rfl ?_
    refine v_iload_n dX4_next_5 rfl rfl ?_
    refine v_icmp_ge (tgt := 31) dX4_next_6 (by decide) (fun c5 => ?_) (fun c5 => ?_)
    · replace h := ip_ c5 h
      refine v_iload_n dX4_next_31 rfl rfl ?_
      obtain rfl := Option.some.inj h
      exact v_iret dX4_next_32 rfl rfl
    · replace h := in_ c5 h
      refine v_aload_n dX4_next_9 rfl rfl ?_
      obtain ⟨x1, hx1, h⟩ := ob_some h
      refine v_getR dX4_next_10 fl_X4_14 hx1 ?_
      refine v_iload dX4_next_13 rfl ?_
      obtain ⟨x2, hx3, h⟩ := ob_some h
      have ehx3 := tX5_get (l := l) (g := g) (sz := sz) N x1 v4 f hx3
      refine v_cVI dX4_next_15 ml_X4_53 ok_X5_get ehx3 (kX5_get N x1 v4 f hx3) rfl (by decide) rfl (rest := []) rfl (Nat.le_of_ble_eq_true rfl) ?_
      refine v_iload_n dX4_next_18 rfl rfl ?_
      refine v_icmp_ne (tgt := 25) dX4_next_19 (by decide) (fun c4 => ?_) (fun c4 => ?_)
      · replace h := in_ c4 h
        refine v_iinc (v := (v4 + 1)) (ls1 := [(4, .int (v4 + 1)), (0, .ref v0), (1, .int v1), (3, .int v3)]) dX4_next_25 rfl rfl (by decide) rfl ?_
        refine v_goto (tgt := 3) dX4_next_28 (by decide) ?_
        exact v_sub (vs_c rfl (vs_c rfl (vs_c rfl (vs_c rfl vs_n)))) (ih v0 v1 v3 (v4 + 1) h)
      · replace h := ip_ c4 h
        refine v_iload dX4_next_22 rfl ?_
        obtain rfl := Option.some.inj h
        exact v_iret dX4_next_24 rfl rfl

set_option maxRecDepth 20000 in
theorem kX4_next (N : Nat) (this : Nat) (p0 : Int32) (p1 : Int32) (p2 : Int32) (f : HF) {r : Int32} (h : DX4_next N this p0 p1 p2 f = some r) : ck f this 3 = some () := by
  unfold DX4_next at h
  obtain ⟨_, hck, _⟩ := ob_some h
  exact hck

set_option maxRecDepth 20000 in
theorem tX4_next {l : Launch} {g : GT} {sz : Option Nat} (N : Nat) (this : Nat) (p0 : Int32) (p1 : Int32) (p2 : Int32) (f : HF) {r : Int32} (h : DX4_next N this p0 p1 p2 f = some r) : Mt l g yX4_next cX4_next 5 (Option.some Jvm.ClassFile.FieldType.int) 1 [.ref this, .int p0, .int p1, .int p2] f sz (roI (.inl r) f sz) := by
  unfold DX4_next at h
  obtain ⟨_, hck, h⟩ := ob_some h
  refine mt_of (by decide) (Nat.le_of_ble_eq_true rfl) (?_ : V l g (fun _ => True) (RX4, cX4_next, 5, (Option.some Jvm.ClassFile.FieldType.int), [], "next") 1 (roI (.inl r) f sz) 0 [(0, .ref this), (1, .int p0), (2, .int p1), (3, .int p2)] [] f sz 0 0)
  refine v_iload_n dX4_next_0 rfl rfl ?_
  refine v_istore (ls1 := [(4, .int p1), (0, .ref this), (1, .int p0), (2, .int p1), (3, .int p2)]) dX4_next_1 (by decide) rfl ?_
  exact v_sub (vs_c rfl (vs_c rfl (vs_c rfl (vs_c rfl vs_n)))) (tX4_next_3 N f N this p0 p2 p1 h)

/-! X4 endOf (R) -/
def DX4_endOf (N : Nat) (this : Nat) (p0 : Int32) (f : HF) : Option Int32 :=
  (ck f this 3).bind fun _ =>
  (gR f this 3 1).bind fun x1 =>
  (DX5_count N x1 f).bind fun x2 =>
  (DX4_next N this (10 : Int32) p0 x2 f).bind fun x4 =>
  some x4

set_option maxRecDepth 20000 in
theorem kX4_endOf (N : Nat) (this : Nat) (p0 : Int32) (f : HF) {r : Int32} (h : DX4_endOf N this p0 f = some r) : ck f this 3 = some () := by
  unfold DX4_endOf at h
  obtain ⟨_, hck, _⟩ := ob_some h
  exact hck

set_option maxRecDepth 20000 in
theorem tX4_endOf {l : Launch} {g : GT} {sz : Option Nat} (N : Nat) (this : Nat) (p0 : Int32) (f : HF) {r : Int32} (h : DX4_endOf N this p0 f = some r) : Mt l g yX4_endOf cX4_endOf 2 (Option.some Jvm.ClassFile.FieldType.int) 2 [.ref this, .int p0] f sz (roI (.inl r) f sz) := by
  unfold DX4_endOf at h
  obtain ⟨_, hck, h⟩ := ob_some h
  refine mt_of (by decide) (Nat.le_of_ble_eq_true rfl) (?_ : V l g (fun _ => True) (RX4, cX4_endOf, 2, (Option.some Jvm.ClassFile.FieldType.int), [], "endOf") 2 (roI (.inl r) f sz) 0 [(0, .ref this), (1, .int p0)] [] f sz 0 0)
  refine v_aload_n dX4_endOf_0 rfl rfl ?_
  refine v_bipush (v := 10) dX4_endOf_1 (by decide) ?_
  refine v_iload_n dX4_endOf_3 rfl rfl ?_
  refine v_aload_n dX4_endOf_4 rfl rfl ?_
  obtain ⟨x1, hx1, h⟩ := ob_some h
  refine v_getR dX4_endOf_5 fl_X4_14 hx1 ?_
  obtain ⟨x2, hx3, h⟩ := ob_some h
  have ehx3 := tX5_count (l := l) (g := g) (sz := sz) N x1 f hx3
  refine v_cVI dX4_endOf_8 ml_X4_34 ok_X5_count ehx3 (kX5_count N x1 f hx3) rfl (by decide) rfl (rest := [.int p0, .int (10 : Int32), .ref this]) rfl (Nat.le_of_ble_eq_true rfl) ?_
  obtain ⟨x4, hx5, h⟩ := ob_some h
  have ehx5 := tX4_next (l := l) (g := g) (sz := sz) N this (10 : Int32) p0 x2 f hx5
  refine v_cVI dX4_endOf_11 ml_X4_49 ok_X4_next ehx5 (kX4_next N this (10 : Int32) p0 x2 f hx5) rfl (by decide) rfl (rest := []) rfl (Nat.le_of_ble_eq_true rfl) ?_
  obtain rfl := Option.some.inj h
  exact v_iret dX4_endOf_14 rfl rfl

/-! X4 plainNumber (R) -/
def DX4_plainNumber_40 (N : Nat) (f : HF)  (n : Nat) (v0 : Nat) (v2 : Int32) (v4 : Int32) (v5 : Int32) : Option Int32 :=
  match n with
  | 0 => none
  | n + 1 =>
    if v2 ≤ v5 then
      some v4
    else
      (gR f v0 3 1).bind fun x1 =>
      (DX5_get N x1 v5 f).bind fun x2 =>
      (DX0_isDigit N x2 f).bind fun x4 =>
      if x4 = 0 then
        some (-1 : Int32)
      else
        (gR f v0 3 1).bind fun x6 =>
        (DX5_get N x6 v5 f).bind fun x7 =>
        DX4_plainNumber_40 N f n v0 v2 (((v4 * (10 : Int32)) + x7) - (48 : Int32)) (v5 + 1)

def DX4_plainNumber_34 (N : Nat) (f : HF)  (v0 : Nat) (v1 : Int32) (v2 : Int32) : Option Int32 :=
    DX4_plainNumber_40 N f N v0 v2 (0 : Int32) v1

def DX4_plainNumber (N : Nat) (this : Nat) (p0 : Int32) (p1 : Int32) (f : HF) : Option Int32 :=
  (ck f this 3).bind fun _ =>
  if (p1 - p0) < (1 : Int32) then
    some (-1 : Int32)
  else
    if (5 : Int32) < (p1 - p0) then
      some (-1 : Int32)
    else
      if (p1 - p0) ≤ (1 : Int32) then
        DX4_plainNumber_34 N f this p0 p1
      else
        (gR f this 3 1).bind fun x11 =>
        (DX5_get N x11 p0 f).bind fun x12 =>
        if x12 = (48 : Int32) then
          some (-1 : Int32)
        else
          DX4_plainNumber_34 N f this p0 p1

set_option maxRecDepth 20000 in
theorem tX4_plainNumber_40 {l : Launch} {g : GT} {sz : Option Nat} (N : Nat) (f : HF)  {r : Int32} : ∀ (n : Nat), ∀ (v0 : Nat) (v2 : Int32) (v4 : Int32) (v5 : Int32), DX4_plainNumber_40 N f n v0 v2 v4 v5 = some r → V l g (fun _ => True) (RX4, cX4_plainNumber, 6, (Option.some Jvm.ClassFile.FieldType.int), [], "plainNumber") 1 (roI (.inl r) f sz) 40 [(0, .ref v0), (2, .int v2), (4, .int v4), (5, .int v5)] [] f sz 0 0 := by
  intro n
  induction n with
  | zero => intro v0 v2 v4 v5 h; cases h
  | succ n ih =>
    intro v0 v2 v4 v5 h
    rw [DX4_plainNumber_40] at h
    refine v_iload dX4_plainNumber_40 rfl ?_
    refine v_iload_n dX4_plainNumber_42 rfl rfl ?_
    refine v_icmp_ge (tgt := 89) dX4_plainNumber_43 (by decide) (fun c10 => ?_) (fun c10 => ?_)
    · replace h := ip_ c10 h
      refine v_iload dX4_plainNumber_89 rfl ?_
      obtain rfl := Option.some.inj h
      exact v_iret dX4_plainNumber_91 rfl rfl
    · replace h := in_ c10 h
      refine v_aload_n dX4_plainNumber_46 rfl rfl ?_
      obtain ⟨x1, hx1, h⟩ := ob_some h
      refine v_getR dX4_plainNumber_47 fl_X4_14 hx1 ?_
      refine v_iload dX4_plainNumber_50 rfl ?_
      obtain ⟨x2, hx3, h⟩ := ob_some h
      have ehx3 := tX5_get (l := l) (g := g) (sz := sz) N x1 v5 f hx3
      refine v_cVI dX4_plainNumber_52 ml_X4_53 ok_X5_get ehx3 (kX5_get N x1 v5 f hx3) rfl (by decide) rfl (rest := []) rfl (Nat.le_of_ble_eq_true rfl) ?_
      obtain ⟨x4, hx5, h⟩ := ob_some h
      have ehx5 := tX0_isDigit (l := l) (g := g) (sz := sz) N x2 f hx5
      refine v_cSI dX4_plainNumber_55 ml_X4_109 ok_X0_isDigit ehx5 (by decide) rfl (rest := []) rfl (Nat.le_of_ble_eq_true rfl) ?_
      refine v_if_ne (tgt := 63) dX4_plainNumber_58 (by decide) (fun c9 => ?_) (fun c9 => ?_)
      · replace h := in_ c9 h
        refine v_iload dX4_plainNumber_63 rfl ?_
        refine v_bipush (v := 10) dX4_plainNumber_65 (by decide) ?_
        refine v_imul dX4_plainNumber_67 ?_
        refine v_aload_n dX4_plainNumber_68 rfl rfl ?_
        obtain ⟨x6, hx6, h⟩ := ob_some h
        refine v_getR dX4_plainNumber_69 fl_X4_14 hx6 ?_
        refine v_iload dX4_plainNumber_72 rfl ?_
        obtain ⟨x7, hx8, h⟩ := ob_some h
        have ehx8 := tX5_get (l := l) (g := g) (sz := sz) N x6 v5 f hx8
        refine v_cVI dX4_plainNumber_74 ml_X4_53 ok_X5_get ehx8 (kX5_get N x6 v5 f hx8) rfl (by decide) rfl (rest := [.int (v4 * (10 : Int32))]) rfl (Nat.le_of_ble_eq_true rfl) ?_
        refine v_iadd dX4_plainNumber_77 ?_
        refine v_bipush (v := 48) dX4_plainNumber_78 (by decide) ?_
        refine v_isub dX4_plainNumber_80 ?_
        refine v_istore (ls1 := [(4, .int (((v4 * (10 : Int32)) + x7) - (48 : Int32))), (0, .ref v0), (2, .int v2), (5, .int v5)]) dX4_plainNumber_81 (by decide) rfl ?_
        refine v_iinc (v := (v5 + 1)) (ls1 := [(5, .int (v5 + 1)), (4, .int (((v4 * (10 : Int32)) + x7) - (48 : Int32))), (0, .ref v0), (2, .int v2)]) dX4_plainNumber_83 rfl rfl (by decide) rfl ?_
        refine v_goto (tgt := 40) dX4_plainNumber_86 (by decide) ?_
        exact v_sub (vs_c rfl (vs_c rfl (vs_c rfl (vs_c rfl vs_n)))) (ih v0 v2 (((v4 * (10 : Int32)) + x7) - (48 : Int32)) (v5 + 1) h)
      · replace h := ip_ c9 h
        refine v_iconst (v := -1) dX4_plainNumber_61 (by decide) ?_
        obtain rfl := Option.some.inj h
        exact v_iret dX4_plainNumber_62 rfl rfl

set_option maxRecDepth 20000 in
theorem tX4_plainNumber_34 {l : Launch} {g : GT} {sz : Option Nat} (N : Nat) (f : HF)  {r : Int32} : ∀ (v0 : Nat) (v1 : Int32) (v2 : Int32), DX4_plainNumber_34 N f v0 v1 v2 = some r → V l g (fun _ => True) (RX4, cX4_plainNumber, 6, (Option.some Jvm.ClassFile.FieldType.int), [], "plainNumber") 1 (roI (.inl r) f sz) 34 [(0, .ref v0), (1, .int v1), (2, .int v2)] [] f sz 0 0 := by
  intro v0 v1 v2 h
  unfold DX4_plainNumber_34 at h
  refine v_iconst (v := 0) dX4_plainNumber_34 (by decide) ?_
  refine v_istore (ls1 := [(4, .int (0 : Int32)), (0, .ref v0), (1, .int v1), (2, .int v2)]) dX4_plainNumber_35 (by decide) rfl ?_
  refine v_iload_n dX4_plainNumber_37 rfl rfl ?_
  refine v_istore (ls1 := [(5, .int v1), (4, .int (0 : Int32)), (0, .ref v0), (1, .int v1), (2, .int v2)]) dX4_plainNumber_38 (by decide) rfl ?_
  exact v_sub (vs_c rfl (vs_c rfl (vs_c rfl (vs_c rfl vs_n)))) (tX4_plainNumber_40 N f N v0 v2 (0 : Int32) v1 h)

set_option maxRecDepth 20000 in
theorem kX4_plainNumber (N : Nat) (this : Nat) (p0 : Int32) (p1 : Int32) (f : HF) {r : Int32} (h : DX4_plainNumber N this p0 p1 f = some r) : ck f this 3 = some () := by
  unfold DX4_plainNumber at h
  obtain ⟨_, hck, _⟩ := ob_some h
  exact hck

set_option maxRecDepth 20000 in
theorem tX4_plainNumber {l : Launch} {g : GT} {sz : Option Nat} (N : Nat) (this : Nat) (p0 : Int32) (p1 : Int32) (f : HF) {r : Int32} (h : DX4_plainNumber N this p0 p1 f = some r) : Mt l g yX4_plainNumber cX4_plainNumber 6 (Option.some Jvm.ClassFile.FieldType.int) 1 [.ref this, .int p0, .int p1] f sz (roI (.inl r) f sz) := by
  unfold DX4_plainNumber at h
  obtain ⟨_, hck, h⟩ := ob_some h
  refine mt_of (by decide) (Nat.le_of_ble_eq_true rfl) (?_ : V l g (fun _ => True) (RX4, cX4_plainNumber, 6, (Option.some Jvm.ClassFile.FieldType.int), [], "plainNumber") 1 (roI (.inl r) f sz) 0 [(0, .ref this), (1, .int p0), (2, .int p1)] [] f sz 0 0)
  refine v_iload_n dX4_plainNumber_0 rfl rfl ?_
  refine v_iload_n dX4_plainNumber_1 rfl rfl ?_
  refine v_isub dX4_plainNumber_2 ?_
  refine v_istore_n (ls1 := [(3, .int (p1 - p0)), (0, .ref this), (1, .int p0), (2, .int p1)]) dX4_plainNumber_3 rfl (by decide) rfl ?_
  refine v_iload_n dX4_plainNumber_4 rfl rfl ?_
  refine v_iconst (v := 1) dX4_plainNumber_5 (by decide) ?_
  refine v_icmp_lt (tgt := 32) dX4_plainNumber_6 (by decide) (fun c17 => ?_) (fun c17 => ?_)
  · replace h := ip_ c17 h
    refine v_iconst (v := -1) dX4_plainNumber_32 (by decide) ?_
    obtain rfl := Option.some.inj h
    exact v_iret dX4_plainNumber_33 rfl rfl
  · replace h := in_ c17 h
    refine v_iload_n dX4_plainNumber_9 rfl rfl ?_
    refine v_iconst (v := 5) dX4_plainNumber_10 (by decide) ?_
    refine v_icmp_gt (tgt := 32) dX4_plainNumber_11 (by decide) (fun c16 => ?_) (fun c16 => ?_)
    · replace h := ip_ c16 h
      refine v_iconst (v := -1) dX4_plainNumber_32 (by decide) ?_
      obtain rfl := Option.some.inj h
      exact v_iret dX4_plainNumber_33 rfl rfl
    · replace h := in_ c16 h
      refine v_iload_n dX4_plainNumber_14 rfl rfl ?_
      refine v_iconst (v := 1) dX4_plainNumber_15 (by decide) ?_
      refine v_icmp_le (tgt := 34) dX4_plainNumber_16 (by decide) (fun c15 => ?_) (fun c15 => ?_)
      · replace h := ip_ c15 h
        exact v_sub (vs_c rfl (vs_c rfl (vs_c rfl vs_n))) (tX4_plainNumber_34 N f this p0 p1 h)
      · replace h := in_ c15 h
        refine v_aload_n dX4_plainNumber_19 rfl rfl ?_
        obtain ⟨x11, hx11, h⟩ := ob_some h
        refine v_getR dX4_plainNumber_20 fl_X4_14 hx11 ?_
        refine v_iload_n dX4_plainNumber_23 rfl rfl ?_
        obtain ⟨x12, hx13, h⟩ := ob_some h
        have ehx13 := tX5_get (l := l) (g := g) (sz := sz) N x11 p0 f hx13
        refine v_cVI dX4_plainNumber_24 ml_X4_53 ok_X5_get ehx13 (kX5_get N x11 p0 f hx13) rfl (by decide) rfl (rest := []) rfl (Nat.le_of_ble_eq_true rfl) ?_
        refine v_bipush (v := 48) dX4_plainNumber_27 (by decide) ?_
        refine v_icmp_ne (tgt := 34) dX4_plainNumber_29 (by decide) (fun c14 => ?_) (fun c14 => ?_)
        · replace h := in_ c14 h
          exact v_sub (vs_c rfl (vs_c rfl (vs_c rfl vs_n))) (tX4_plainNumber_34 N f this p0 p1 h)
        · replace h := ip_ c14 h
          refine v_iconst (v := -1) dX4_plainNumber_32 (by decide) ?_
          obtain rfl := Option.some.inj h
          exact v_iret dX4_plainNumber_33 rfl rfl

/-! X4 masterNamed (RT) -/
def DX4_masterNamed_82 (N : Nat) (f : HF)  (v0 : Nat) (v2 : Int32) (v3 : Int32) (v4 : Int32) : Option (Int32 ⊕ String) :=
    if v4 ≤ v2 then
      some (.inl (-1 : Int32))
    else
      if v3 = (-1 : Int32) then
        some (.inl (-1 : Int32))
      else
        (gR f v0 3 0).bind fun x1 =>
        bRT (DX6_isMaster N x1 v3 f) fun x2 =>
        if x2 = 0 then
          some (.inl (-1 : Int32))
        else
          some (.inl v3)

def DX4_masterNamed_62 (N : Nat) (f : HF) (k8 : Nat → Int32 → Int32 → Int32 → Int32 → Option (Int32 ⊕ String)) (v0 : Nat) (v2 : Int32) (v5 : Int32) (v6 : Int32) (s0 : Int32) : Option (Int32 ⊕ String) :=
    if s0 = (-1 : Int32) then
      some (.inl (-1 : Int32))
    else
      k8 v0 v2 s0 (v6 + (1 : Int32)) (v5 + 1)

def DX4_masterNamed_8 (N : Nat) (f : HF)  (n : Nat) (v0 : Nat) (v2 : Int32) (v3 : Int32) (v4 : Int32) (v5 : Int32) : Option (Int32 ⊕ String) :=
  match n with
  | 0 => none
  | n + 1 =>
    if (40 : Int32) ≤ v5 then
      DX4_masterNamed_82 N f v0 v2 v3 v4
    else
      if v2 < v4 then
        DX4_masterNamed_82 N f v0 v2 v3 v4
      else
        (DX4_next N v0 (46 : Int32) v4 v2 f).bind fun x7 =>
        (DX4_plainNumber N v0 v4 x7 f).bind fun x9 =>
        if x9 = (-1 : Int32) then
          DX4_masterNamed_62 N f (DX4_masterNamed_8 N f n) v0 v2 v5 x7 (-1 : Int32)
        else
          (gR f v0 3 0).bind fun x11 =>
          bRT (DX6_firstNamed N x11 v3 x9 f) fun x12 =>
          DX4_masterNamed_62 N f (DX4_masterNamed_8 N f n) v0 v2 v5 x7 x12

def DX4_masterNamed (N : Nat) (this : Nat) (p0 : Int32) (p1 : Int32) (f : HF) : Option (Int32 ⊕ String) :=
  (ck f this 3).bind fun _ =>
  DX4_masterNamed_8 N f N this p1 (-1 : Int32) p0 (0 : Int32)

set_option maxRecDepth 20000 in
theorem tX4_masterNamed_82 {l : Launch} {g : GT} {sz : Option Nat} (N : Nat) (f : HF)  {r : (Int32 ⊕ String)} : ∀ (v0 : Nat) (v2 : Int32) (v3 : Int32) (v4 : Int32), DX4_masterNamed_82 N f v0 v2 v3 v4 = some r → V l g (fun _ => True) (RX4, cX4_masterNamed, 8, (Option.some Jvm.ClassFile.FieldType.int), [], "masterNamed") 10 (roI r f sz) 82 [(0, .ref v0), (2, .int v2), (3, .int v3), (4, .int v4)] [] f sz 0 0 := by
  intro v0 v2 v3 v4 h
  unfold DX4_masterNamed_82 at h
  refine v_iload dX4_masterNamed_82 rfl ?_
  refine v_iload_n dX4_masterNamed_84 rfl rfl ?_
  refine v_icmp_le (tgt := 108) dX4_masterNamed_85 (by decide) (fun c6 => ?_) (fun c6 => ?_)
  · replace h := ip_ c6 h
    refine v_iconst (v := -1) dX4_masterNamed_108 (by decide) ?_
    obtain rfl := Option.some.inj h
    exact v_iret dX4_masterNamed_109 rfl rfl
  · replace h := in_ c6 h
    refine v_iload_n dX4_masterNamed_88 rfl rfl ?_
    refine v_iconst (v := -1) dX4_masterNamed_89 (by decide) ?_
    refine v_icmp_eq (tgt := 108) dX4_masterNamed_90 (by decide) (fun c5 => ?_) (fun c5 => ?_)
    · replace h := ip_ c5 h
      refine v_iconst (v := -1) dX4_masterNamed_108 (by decide) ?_
      obtain rfl := Option.some.inj h
      exact v_iret dX4_masterNamed_109 rfl rfl
    · replace h := in_ c5 h
      refine v_aload_n dX4_masterNamed_93 rfl rfl ?_
      obtain ⟨x1, hx1, h⟩ := ob_some h
      refine v_getR dX4_masterNamed_94 fl_X4_20 hx1 ?_
      refine v_iload_n dX4_masterNamed_97 rfl rfl ?_
      rcases bRT_some h with ⟨x2, hx3, h⟩ | ⟨e9, hx3, h⟩
      rotate_left
      · cases h
        have ehx3 := tX6_isMaster (l := l) (g := g) (sz := sz) N x1 v3 f hx3
        exact v_cVx dX4_masterNamed_98 ml_X4_105 ok_X6_isMaster ehx3 (kX6_isMaster N x1 v3 f hx3) rfl (by decide) rfl (rest := []) rfl (Nat.le_of_ble_eq_true rfl) rfl rfl
      have ehx3 := tX6_isMaster (l := l) (g := g) (sz := sz) N x1 v3 f hx3
      refine v_cVI dX4_masterNamed_98 ml_X4_105 ok_X6_isMaster ehx3 (kX6_isMaster N x1 v3 f hx3) rfl (by decide) rfl (rest := []) rfl (Nat.le_of_ble_eq_true rfl) ?_
      refine v_if_eq (tgt := 108) dX4_masterNamed_101 (by decide) (fun c4 => ?_) (fun c4 => ?_)
      · replace h := ip_ c4 h
        refine v_iconst (v := -1) dX4_masterNamed_108 (by decide) ?_
        obtain rfl := Option.some.inj h
        exact v_iret dX4_masterNamed_109 rfl rfl
      · replace h := in_ c4 h
        refine v_iload_n dX4_masterNamed_104 rfl rfl ?_
        refine v_goto (tgt := 109) dX4_masterNamed_105 (by decide) ?_
        obtain rfl := Option.some.inj h
        exact v_iret dX4_masterNamed_109 rfl rfl

set_option maxRecDepth 20000 in
theorem tX4_masterNamed_62 {l : Launch} {g : GT} {sz : Option Nat} (N : Nat) (f : HF) (k8 : Nat → Int32 → Int32 → Int32 → Int32 → Option (Int32 ⊕ String)) {r : (Int32 ⊕ String)} (hk8 : ∀ (w0 : Nat) (w2 : Int32) (w3 : Int32) (w4 : Int32) (w5 : Int32), k8 w0 w2 w3 w4 w5 = some r → V l g (fun _ => True) (RX4, cX4_masterNamed, 8, (Option.some Jvm.ClassFile.FieldType.int), [], "masterNamed") 10 (roI r f sz) 8 [(0, .ref w0), (2, .int w2), (3, .int w3), (4, .int w4), (5, .int w5)] [] f sz 0 0) : ∀ (v0 : Nat) (v2 : Int32) (v5 : Int32) (v6 : Int32) (s0 : Int32), DX4_masterNamed_62 N f k8 v0 v2 v5 v6 s0 = some r → V l g (fun _ => True) (RX4, cX4_masterNamed, 8, (Option.some Jvm.ClassFile.FieldType.int), [], "masterNamed") 10 (roI r f sz) 62 [(0, .ref v0), (2, .int v2), (5, .int v5), (6, .int v6)] [.int s0] f sz 0 0 := by
  intro v0 v2 v5 v6 s0 h
  unfold DX4_masterNamed_62 at h
  refine v_istore_n (ls1 := [(3, .int s0), (0, .ref v0), (2, .int v2), (5, .int v5), (6, .int v6)]) dX4_masterNamed_62 rfl (by decide) rfl ?_
  refine v_iload_n dX4_masterNamed_63 rfl rfl ?_
  refine v_iconst (v := -1) dX4_masterNamed_64 (by decide) ?_
  refine v_icmp_ne (tgt := 70) dX4_masterNamed_65 (by decide) (fun c14 => ?_) (fun c14 => ?_)
  · replace h := in_ c14 h
    refine v_iload dX4_masterNamed_70 rfl ?_
    refine v_iconst (v := 1) dX4_masterNamed_72 (by decide) ?_
    refine v_iadd dX4_masterNamed_73 ?_
    refine v_istore (ls1 := [(4, .int (v6 + (1 : Int32))), (3, .int s0), (0, .ref v0), (2, .int v2), (5, .int v5), (6, .int v6)]) dX4_masterNamed_74 (by decide) rfl ?_
    refine v_iinc (v := (v5 + 1)) (ls1 := [(5, .int (v5 + 1)), (4, .int (v6 + (1 : Int32))), (3, .int s0), (0, .ref v0), (2, .int v2), (6, .int v6)]) dX4_masterNamed_76 rfl rfl (by decide) rfl ?_
    refine v_goto (tgt := 8) dX4_masterNamed_79 (by decide) ?_
    exact v_sub (vs_c rfl (vs_c rfl (vs_c rfl (vs_c rfl (vs_c rfl vs_n))))) (hk8 v0 v2 s0 (v6 + (1 : Int32)) (v5 + 1) h)
  · replace h := ip_ c14 h
    refine v_iconst (v := -1) dX4_masterNamed_68 (by decide) ?_
    obtain rfl := Option.some.inj h
    exact v_iret dX4_masterNamed_69 rfl rfl

set_option maxRecDepth 20000 in
theorem tX4_masterNamed_8 {l : Launch} {g : GT} {sz : Option Nat} (N : Nat) (f : HF)  {r : (Int32 ⊕ String)} : ∀ (n : Nat), ∀ (v0 : Nat) (v2 : Int32) (v3 : Int32) (v4 : Int32) (v5 : Int32), DX4_masterNamed_8 N f n v0 v2 v3 v4 v5 = some r → V l g (fun _ => True) (RX4, cX4_masterNamed, 8, (Option.some Jvm.ClassFile.FieldType.int), [], "masterNamed") 10 (roI r f sz) 8 [(0, .ref v0), (2, .int v2), (3, .int v3), (4, .int v4), (5, .int v5)] [] f sz 0 0 := by
  intro n
  induction n with
  | zero => intro v0 v2 v3 v4 v5 h; cases h
  | succ n ih =>
    intro v0 v2 v3 v4 v5 h
    rw [DX4_masterNamed_8] at h
    refine v_iload dX4_masterNamed_8 rfl ?_
    refine v_bipush (v := 40) dX4_masterNamed_10 (by decide) ?_
    refine v_icmp_ge (tgt := 82) dX4_masterNamed_12 (by decide) (fun c17 => ?_) (fun c17 => ?_)
    · replace h := ip_ c17 h
      exact v_sub (vs_c rfl (vs_c rfl (vs_c rfl (vs_c rfl vs_n)))) (tX4_masterNamed_82 N f v0 v2 v3 v4 h)
    · replace h := in_ c17 h
      refine v_iload dX4_masterNamed_15 rfl ?_
      refine v_iload_n dX4_masterNamed_17 rfl rfl ?_
      refine v_icmp_gt (tgt := 82) dX4_masterNamed_18 (by decide) (fun c16 => ?_) (fun c16 => ?_)
      · replace h := ip_ c16 h
        exact v_sub (vs_c rfl (vs_c rfl (vs_c rfl (vs_c rfl vs_n)))) (tX4_masterNamed_82 N f v0 v2 v3 v4 h)
      · replace h := in_ c16 h
        refine v_aload_n dX4_masterNamed_21 rfl rfl ?_
        refine v_bipush (v := 46) dX4_masterNamed_22 (by decide) ?_
        refine v_iload dX4_masterNamed_24 rfl ?_
        refine v_iload_n dX4_masterNamed_26 rfl rfl ?_
        obtain ⟨x7, hx8, h⟩ := ob_some h
        have ehx8 := tX4_next (l := l) (g := g) (sz := sz) N v0 (46 : Int32) v4 v2 f hx8
        refine v_cVI dX4_masterNamed_27 ml_X4_49 ok_X4_next ehx8 (kX4_next N v0 (46 : Int32) v4 v2 f hx8) rfl (by decide) rfl (rest := []) rfl (Nat.le_of_ble_eq_true rfl) ?_
        refine v_istore (ls1 := [(6, .int x7), (0, .ref v0), (2, .int v2), (3, .int v3), (4, .int v4), (5, .int v5)]) dX4_masterNamed_30 (by decide) rfl ?_
        refine v_aload_n dX4_masterNamed_32 rfl rfl ?_
        refine v_iload dX4_masterNamed_33 rfl ?_
        refine v_iload dX4_masterNamed_35 rfl ?_
        obtain ⟨x9, hx10, h⟩ := ob_some h
        have ehx10 := tX4_plainNumber (l := l) (g := g) (sz := sz) N v0 v4 x7 f hx10
        refine v_cVI dX4_masterNamed_37 ml_X4_96 ok_X4_plainNumber ehx10 (kX4_plainNumber N v0 v4 x7 f hx10) rfl (by decide) rfl (rest := []) rfl (Nat.le_of_ble_eq_true rfl) ?_
        refine v_istore (ls1 := [(7, .int x9), (6, .int x7), (0, .ref v0), (2, .int v2), (3, .int v3), (4, .int v4), (5, .int v5)]) dX4_masterNamed_40 (by decide) rfl ?_
        refine v_iload dX4_masterNamed_42 rfl ?_
        refine v_iconst (v := -1) dX4_masterNamed_44 (by decide) ?_
        refine v_icmp_ne (tgt := 52) dX4_masterNamed_45 (by decide) (fun c15 => ?_) (fun c15 => ?_)
        · replace h := in_ c15 h
          refine v_aload_n dX4_masterNamed_52 rfl rfl ?_
          obtain ⟨x11, hx11, h⟩ := ob_some h
          refine v_getR dX4_masterNamed_53 fl_X4_20 hx11 ?_
          refine v_iload_n dX4_masterNamed_56 rfl rfl ?_
          refine v_iload dX4_masterNamed_57 rfl ?_
          rcases bRT_some h with ⟨x12, hx13, h⟩ | ⟨e9, hx13, h⟩
          rotate_left
          · cases h
            have ehx13 := tX6_firstNamed (l := l) (g := g) (sz := sz) N x11 v3 x9 f hx13
            exact v_cVx dX4_masterNamed_59 ml_X4_102 ok_X6_firstNamed ehx13 (kX6_firstNamed N x11 v3 x9 f hx13) rfl (by decide) rfl (rest := []) rfl (Nat.le_of_ble_eq_true rfl) rfl rfl
          have ehx13 := tX6_firstNamed (l := l) (g := g) (sz := sz) N x11 v3 x9 f hx13
          refine v_cVI dX4_masterNamed_59 ml_X4_102 ok_X6_firstNamed ehx13 (kX6_firstNamed N x11 v3 x9 f hx13) rfl (by decide) rfl (rest := []) rfl (Nat.le_of_ble_eq_true rfl) ?_
          exact v_sub (vs_c rfl (vs_c rfl (vs_c rfl (vs_c rfl vs_n)))) (tX4_masterNamed_62 N f (DX4_masterNamed_8 N f n) ih v0 v2 v5 x7 x12 h)
        · replace h := ip_ c15 h
          refine v_iconst (v := -1) dX4_masterNamed_48 (by decide) ?_
          refine v_goto (tgt := 62) dX4_masterNamed_49 (by decide) ?_
          exact v_sub (vs_c rfl (vs_c rfl (vs_c rfl (vs_c rfl vs_n)))) (tX4_masterNamed_62 N f (DX4_masterNamed_8 N f n) ih v0 v2 v5 x7 (-1 : Int32) h)

set_option maxRecDepth 20000 in
theorem kX4_masterNamed (N : Nat) (this : Nat) (p0 : Int32) (p1 : Int32) (f : HF) {r : (Int32 ⊕ String)} (h : DX4_masterNamed N this p0 p1 f = some r) : ck f this 3 = some () := by
  unfold DX4_masterNamed at h
  obtain ⟨_, hck, _⟩ := ob_some h
  exact hck

set_option maxRecDepth 20000 in
theorem tX4_masterNamed {l : Launch} {g : GT} {sz : Option Nat} (N : Nat) (this : Nat) (p0 : Int32) (p1 : Int32) (f : HF) {r : (Int32 ⊕ String)} (h : DX4_masterNamed N this p0 p1 f = some r) : Mt l g yX4_masterNamed cX4_masterNamed 8 (Option.some Jvm.ClassFile.FieldType.int) 10 [.ref this, .int p0, .int p1] f sz (roI r f sz) := by
  unfold DX4_masterNamed at h
  obtain ⟨_, hck, h⟩ := ob_some h
  refine mt_of (by decide) (Nat.le_of_ble_eq_true rfl) (?_ : V l g (fun _ => True) (RX4, cX4_masterNamed, 8, (Option.some Jvm.ClassFile.FieldType.int), [], "masterNamed") 10 (roI r f sz) 0 [(0, .ref this), (1, .int p0), (2, .int p1)] [] f sz 0 0)
  refine v_iconst (v := -1) dX4_masterNamed_0 (by decide) ?_
  refine v_istore_n (ls1 := [(3, .int (-1 : Int32)), (0, .ref this), (1, .int p0), (2, .int p1)]) dX4_masterNamed_1 rfl (by decide) rfl ?_
  refine v_iload_n dX4_masterNamed_2 rfl rfl ?_
  refine v_istore (ls1 := [(4, .int p0), (3, .int (-1 : Int32)), (0, .ref this), (1, .int p0), (2, .int p1)]) dX4_masterNamed_3 (by decide) rfl ?_
  refine v_iconst (v := 0) dX4_masterNamed_5 (by decide) ?_
  refine v_istore (ls1 := [(5, .int (0 : Int32)), (4, .int p0), (3, .int (-1 : Int32)), (0, .ref this), (1, .int p0), (2, .int p1)]) dX4_masterNamed_6 (by decide) rfl ?_
  exact v_sub (vs_c rfl (vs_c rfl (vs_c rfl (vs_c rfl (vs_c rfl vs_n))))) (tX4_masterNamed_8 N f N this p1 (-1 : Int32) p0 (0 : Int32) h)

/-! X4 couldTakeSigns (R) -/
def DX4_couldTakeSigns_15 (N : Nat) (f : HF)  (n : Nat) (v0 : Nat) (v1 : Nat) (v3 : Int32) (v4 : Int32) : Option Int32 :=
  match n with
  | 0 => none
  | n + 1 =>
    if v3 ≤ v4 then
      some (1 : Int32)
    else
      (gR f v0 3 1).bind fun x3 =>
      (DX5_get N x3 v4 f).bind fun x4 =>
      (DX2_isSign N v1 x4 f).bind fun x6 =>
      if x6 = 0 then
        some (0 : Int32)
      else
        DX4_couldTakeSigns_15 N f n v0 v1 v3 (v4 + 1)

def DX4_couldTakeSigns (N : Nat) (this : Nat) (p0 : Nat) (p1 : Int32) (p2 : Int32) (f : HF) : Option Int32 :=
  (ck f this 3).bind fun _ =>
  (DX2_room N p0 f).bind fun x1 =>
  if (p2 - p1) ≤ x1 then
    DX4_couldTakeSigns_15 N f N this p0 p2 p1
  else
    some (0 : Int32)

set_option maxRecDepth 20000 in
theorem tX4_couldTakeSigns_15 {l : Launch} {g : GT} {sz : Option Nat} (N : Nat) (f : HF)  {r : Int32} : ∀ (n : Nat), ∀ (v0 : Nat) (v1 : Nat) (v3 : Int32) (v4 : Int32), DX4_couldTakeSigns_15 N f n v0 v1 v3 v4 = some r → V l g (fun _ => True) (RX4, cX4_couldTakeSigns, 5, (Option.some Jvm.ClassFile.FieldType.boolean), [], "couldTakeSigns") 1 (roI (.inl r) f sz) 15 [(0, .ref v0), (1, .ref v1), (3, .int v3), (4, .int v4)] [] f sz 0 0 := by
  intro n
  induction n with
  | zero => intro v0 v1 v3 v4 h; cases h
  | succ n ih =>
    intro v0 v1 v3 v4 h
    rw [DX4_couldTakeSigns_15] at h
    refine v_iload dX4_couldTakeSigns_15 rfl ?_
    refine v_iload_n dX4_couldTakeSigns_17 rfl rfl ?_
    refine v_icmp_ge (tgt := 45) dX4_couldTakeSigns_18 (by decide) (fun c9 => ?_) (fun c9 => ?_)
    · replace h := ip_ c9 h
      refine v_iconst (v := 1) dX4_couldTakeSigns_45 (by decide) ?_
      obtain rfl := Option.some.inj h
      exact v_zret dX4_couldTakeSigns_46 rfl (Or.inr rfl) rfl
    · replace h := in_ c9 h
      refine v_aload_n dX4_couldTakeSigns_21 rfl rfl ?_
      refine v_aload_n dX4_couldTakeSigns_22 rfl rfl ?_
      obtain ⟨x3, hx3, h⟩ := ob_some h
      refine v_getR dX4_couldTakeSigns_23 fl_X4_14 hx3 ?_
      refine v_iload dX4_couldTakeSigns_26 rfl ?_
      obtain ⟨x4, hx5, h⟩ := ob_some h
      have ehx5 := tX5_get (l := l) (g := g) (sz := sz) N x3 v4 f hx5
      refine v_cVI dX4_couldTakeSigns_28 ml_X4_53 ok_X5_get ehx5 (kX5_get N x3 v4 f hx5) rfl (by decide) rfl (rest := [.ref v1]) rfl (Nat.le_of_ble_eq_true rfl) ?_
      obtain ⟨x6, hx7, h⟩ := ob_some h
      have ehx7 := tX2_isSign (l := l) (g := g) (sz := sz) N v1 x4 f hx7
      refine v_cVI dX4_couldTakeSigns_31 ml_X4_126 ok_X2_isSign ehx7 (kX2_isSign N v1 x4 f hx7) rfl (by decide) rfl (rest := []) rfl (Nat.le_of_ble_eq_true rfl) ?_
      refine v_if_ne (tgt := 39) dX4_couldTakeSigns_34 (by decide) (fun c8 => ?_) (fun c8 => ?_)
      · replace h := in_ c8 h
        refine v_iinc (v := (v4 + 1)) (ls1 := [(4, .int (v4 + 1)), (0, .ref v0), (1, .ref v1), (3, .int v3)]) dX4_couldTakeSigns_39 rfl rfl (by decide) rfl ?_
        refine v_goto (tgt := 15) dX4_couldTakeSigns_42 (by decide) ?_
        exact v_sub (vs_c rfl (vs_c rfl (vs_c rfl (vs_c rfl vs_n)))) (ih v0 v1 v3 (v4 + 1) h)
      · replace h := ip_ c8 h
        refine v_iconst (v := 0) dX4_couldTakeSigns_37 (by decide) ?_
        obtain rfl := Option.some.inj h
        exact v_zret dX4_couldTakeSigns_38 rfl (Or.inl rfl) rfl

set_option maxRecDepth 20000 in
theorem kX4_couldTakeSigns (N : Nat) (this : Nat) (p0 : Nat) (p1 : Int32) (p2 : Int32) (f : HF) {r : Int32} (h : DX4_couldTakeSigns N this p0 p1 p2 f = some r) : ck f this 3 = some () := by
  unfold DX4_couldTakeSigns at h
  obtain ⟨_, hck, _⟩ := ob_some h
  exact hck

set_option maxRecDepth 20000 in
theorem tX4_couldTakeSigns {l : Launch} {g : GT} {sz : Option Nat} (N : Nat) (this : Nat) (p0 : Nat) (p1 : Int32) (p2 : Int32) (f : HF) {r : Int32} (h : DX4_couldTakeSigns N this p0 p1 p2 f = some r) : Mt l g yX4_couldTakeSigns cX4_couldTakeSigns 5 (Option.some Jvm.ClassFile.FieldType.boolean) 1 [.ref this, .ref p0, .int p1, .int p2] f sz (roI (.inl r) f sz) := by
  unfold DX4_couldTakeSigns at h
  obtain ⟨_, hck, h⟩ := ob_some h
  refine mt_of (by decide) (Nat.le_of_ble_eq_true rfl) (?_ : V l g (fun _ => True) (RX4, cX4_couldTakeSigns, 5, (Option.some Jvm.ClassFile.FieldType.boolean), [], "couldTakeSigns") 1 (roI (.inl r) f sz) 0 [(0, .ref this), (1, .ref p0), (2, .int p1), (3, .int p2)] [] f sz 0 0)
  refine v_iload_n dX4_couldTakeSigns_0 rfl rfl ?_
  refine v_iload_n dX4_couldTakeSigns_1 rfl rfl ?_
  refine v_isub dX4_couldTakeSigns_2 ?_
  refine v_aload_n dX4_couldTakeSigns_3 rfl rfl ?_
  obtain ⟨x1, hx2, h⟩ := ob_some h
  have ehx2 := tX2_room (l := l) (g := g) (sz := sz) N p0 f hx2
  refine v_cVI dX4_couldTakeSigns_4 ml_X4_123 ok_X2_room ehx2 (kX2_room N p0 f hx2) rfl (by decide) rfl (rest := [.int (p2 - p1)]) rfl (Nat.le_of_ble_eq_true rfl) ?_
  refine v_icmp_le (tgt := 12) dX4_couldTakeSigns_7 (by decide) (fun c10 => ?_) (fun c10 => ?_)
  · replace h := ip_ c10 h
    refine v_iload_n dX4_couldTakeSigns_12 rfl rfl ?_
    refine v_istore (ls1 := [(4, .int p1), (0, .ref this), (1, .ref p0), (2, .int p1), (3, .int p2)]) dX4_couldTakeSigns_13 (by decide) rfl ?_
    exact v_sub (vs_c rfl (vs_c rfl (vs_c rfl (vs_c rfl vs_n)))) (tX4_couldTakeSigns_15 N f N this p0 p2 p1 h)
  · replace h := in_ c10 h
    refine v_iconst (v := 0) dX4_couldTakeSigns_10 (by decide) ?_
    obtain rfl := Option.some.inj h
    exact v_zret dX4_couldTakeSigns_11 rfl (Or.inl rfl) rfl

/-! X4 couldTake (R) -/
def DX4_couldTake (N : Nat) (this : Nat) (p0 : Nat) (p1 : Int32) (p2 : Int32) (f : HF) : Option Int32 :=
  (ck f this 3).bind fun _ =>
  (DX2_hasSigns N p0 f).bind fun x1 =>
  if x1 = 0 then
    (gI f p0 1 1).bind fun x3 =>
    if x3 = (2 : Int32) then
      if (p2 - p1) = (1 : Int32) then
        (gR f this 3 1).bind fun x14 =>
        (DX5_get N x14 p1 f).bind fun x15 =>
        (DX2_isFlag N (x15 - (48 : Int32)) f).bind fun x17 =>
        if x17 = 0 then
          some (0 : Int32)
        else
          some (1 : Int32)
      else
        some (0 : Int32)
    else
      if p1 = p2 then
        (DX2_mayBeNone N p0 f).bind fun x11 =>
        if x11 = 0 ∨ x11 = 1 then some x11 else none
      else
        (DX4_plainNumber N this p1 p2 f).bind fun x4 =>
        if x4 = (-1 : Int32) then
          some (0 : Int32)
        else
          (gR f p0 1 9).bind fun x6 =>
          (DX5_find N x6 x4 f).bind fun x7 =>
          if x7 = (-1 : Int32) then
            some (0 : Int32)
          else
            some (1 : Int32)
  else
    (DX4_couldTakeSigns N this p0 p1 p2 f).bind fun x22 =>
    if x22 = 0 ∨ x22 = 1 then some x22 else none

set_option maxRecDepth 20000 in
theorem kX4_couldTake (N : Nat) (this : Nat) (p0 : Nat) (p1 : Int32) (p2 : Int32) (f : HF) {r : Int32} (h : DX4_couldTake N this p0 p1 p2 f = some r) : ck f this 3 = some () := by
  unfold DX4_couldTake at h
  obtain ⟨_, hck, _⟩ := ob_some h
  exact hck

set_option maxRecDepth 20000 in
theorem tX4_couldTake {l : Launch} {g : GT} {sz : Option Nat} (N : Nat) (this : Nat) (p0 : Nat) (p1 : Int32) (p2 : Int32) (f : HF) {r : Int32} (h : DX4_couldTake N this p0 p1 p2 f = some r) : Mt l g yX4_couldTake cX4_couldTake 5 (Option.some Jvm.ClassFile.FieldType.boolean) 2 [.ref this, .ref p0, .int p1, .int p2] f sz (roI (.inl r) f sz) := by
  unfold DX4_couldTake at h
  obtain ⟨_, hck, h⟩ := ob_some h
  refine mt_of (by decide) (Nat.le_of_ble_eq_true rfl) (?_ : V l g (fun _ => True) (RX4, cX4_couldTake, 5, (Option.some Jvm.ClassFile.FieldType.boolean), [], "couldTake") 2 (roI (.inl r) f sz) 0 [(0, .ref this), (1, .ref p0), (2, .int p1), (3, .int p2)] [] f sz 0 0)
  refine v_aload_n dX4_couldTake_0 rfl rfl ?_
  obtain ⟨x1, hx2, h⟩ := ob_some h
  have ehx2 := tX2_hasSigns (l := l) (g := g) (sz := sz) N p0 f hx2
  refine v_cVI dX4_couldTake_1 ml_X4_75 ok_X2_hasSigns ehx2 (kX2_hasSigns N p0 f hx2) rfl (by decide) rfl (rest := []) rfl (Nat.le_of_ble_eq_true rfl) ?_
  refine v_if_eq (tgt := 15) dX4_couldTake_4 (by decide) (fun c24 => ?_) (fun c24 => ?_)
  · replace h := ip_ c24 h
    refine v_aload_n dX4_couldTake_15 rfl rfl ?_
    obtain ⟨x3, hx3, h⟩ := ob_some h
    refine v_getI dX4_couldTake_16 fl_X4_86 hx3 ?_
    refine v_iconst (v := 2) dX4_couldTake_19 (by decide) ?_
    refine v_icmp_ne (tgt := 53) dX4_couldTake_20 (by decide) (fun c21 => ?_) (fun c21 => ?_)
    · replace h := in_ c21 h
      refine v_iload_n dX4_couldTake_53 rfl rfl ?_
      refine v_iload_n dX4_couldTake_54 rfl rfl ?_
      refine v_icmp_ne (tgt := 63) dX4_couldTake_55 (by decide) (fun c13 => ?_) (fun c13 => ?_)
      · replace h := in_ c13 h
        refine v_aload_n dX4_couldTake_63 rfl rfl ?_
        refine v_iload_n dX4_couldTake_64 rfl rfl ?_
        refine v_iload_n dX4_couldTake_65 rfl rfl ?_
        obtain ⟨x4, hx5, h⟩ := ob_some h
        have ehx5 := tX4_plainNumber (l := l) (g := g) (sz := sz) N this p1 p2 f hx5
        refine v_cVI dX4_couldTake_66 ml_X4_96 ok_X4_plainNumber ehx5 (kX4_plainNumber N this p1 p2 f hx5) rfl (by decide) rfl (rest := []) rfl (Nat.le_of_ble_eq_true rfl) ?_
        refine v_istore (ls1 := [(4, .int x4), (0, .ref this), (1, .ref p0), (2, .int p1), (3, .int p2)]) dX4_couldTake_69 (by decide) rfl ?_
        refine v_iload dX4_couldTake_71 rfl ?_
        refine v_iconst (v := -1) dX4_couldTake_73 (by decide) ?_
        refine v_icmp_eq (tgt := 94) dX4_couldTake_74 (by decide) (fun c10 => ?_) (fun c10 => ?_)
        · replace h := ip_ c10 h
          refine v_iconst (v := 0) dX4_couldTake_94 (by decide) ?_
          obtain rfl := Option.some.inj h
          exact v_zret dX4_couldTake_95 rfl (Or.inl rfl) rfl
        · replace h := in_ c10 h
          refine v_aload_n dX4_couldTake_77 rfl rfl ?_
          obtain ⟨x6, hx6, h⟩ := ob_some h
          refine v_getR dX4_couldTake_78 fl_X4_93 hx6 ?_
          refine v_iload dX4_couldTake_81 rfl ?_
          obtain ⟨x7, hx8, h⟩ := ob_some h
          have ehx8 := tX5_find (l := l) (g := g) (sz := sz) N x6 x4 f hx8
          refine v_cVI dX4_couldTake_83 ml_X4_99 ok_X5_find ehx8 (kX5_find N x6 x4 f hx8) rfl (by decide) rfl (rest := []) rfl (Nat.le_of_ble_eq_true rfl) ?_
          refine v_iconst (v := -1) dX4_couldTake_86 (by decide) ?_
          refine v_icmp_eq (tgt := 94) dX4_couldTake_87 (by decide) (fun c9 => ?_) (fun c9 => ?_)
          · replace h := ip_ c9 h
            refine v_iconst (v := 0) dX4_couldTake_94 (by decide) ?_
            obtain rfl := Option.some.inj h
            exact v_zret dX4_couldTake_95 rfl (Or.inl rfl) rfl
          · replace h := in_ c9 h
            refine v_iconst (v := 1) dX4_couldTake_90 (by decide) ?_
            refine v_goto (tgt := 95) dX4_couldTake_91 (by decide) ?_
            obtain rfl := Option.some.inj h
            exact v_zret dX4_couldTake_95 rfl (Or.inr rfl) rfl
      · replace h := ip_ c13 h
        refine v_aload_n dX4_couldTake_58 rfl rfl ?_
        obtain ⟨x11, hx12, h⟩ := ob_some h
        have ehx12 := tX2_mayBeNone (l := l) (g := g) (sz := sz) N p0 f hx12
        refine v_cVI dX4_couldTake_59 ml_X4_120 ok_X2_mayBeNone ehx12 (kX2_mayBeNone N p0 f hx12) rfl (by decide) rfl (rest := []) rfl (Nat.le_of_ble_eq_true rfl) ?_
        obtain ⟨hB, h⟩ := if_some h
        obtain rfl := Option.some.inj h
        exact v_zret dX4_couldTake_62 rfl hB rfl
    · replace h := ip_ c21 h
      refine v_iload_n dX4_couldTake_23 rfl rfl ?_
      refine v_iload_n dX4_couldTake_24 rfl rfl ?_
      refine v_isub dX4_couldTake_25 ?_
      refine v_iconst (v := 1) dX4_couldTake_26 (by decide) ?_
      refine v_icmp_ne (tgt := 51) dX4_couldTake_27 (by decide) (fun c20 => ?_) (fun c20 => ?_)
      · replace h := in_ c20 h
        refine v_iconst (v := 0) dX4_couldTake_51 (by decide) ?_
        obtain rfl := Option.some.inj h
        exact v_zret dX4_couldTake_52 rfl (Or.inl rfl) rfl
      · replace h := ip_ c20 h
        refine v_aload_n dX4_couldTake_30 rfl rfl ?_
        obtain ⟨x14, hx14, h⟩ := ob_some h
        refine v_getR dX4_couldTake_31 fl_X4_14 hx14 ?_
        refine v_iload_n dX4_couldTake_34 rfl rfl ?_
        obtain ⟨x15, hx16, h⟩ := ob_some h
        have ehx16 := tX5_get (l := l) (g := g) (sz := sz) N x14 p1 f hx16
        refine v_cVI dX4_couldTake_35 ml_X4_53 ok_X5_get ehx16 (kX5_get N x14 p1 f hx16) rfl (by decide) rfl (rest := []) rfl (Nat.le_of_ble_eq_true rfl) ?_
        refine v_bipush (v := 48) dX4_couldTake_38 (by decide) ?_
        refine v_isub dX4_couldTake_40 ?_
        obtain ⟨x17, hx18, h⟩ := ob_some h
        have ehx18 := tX2_isFlag (l := l) (g := g) (sz := sz) N (x15 - (48 : Int32)) f hx18
        refine v_cSI dX4_couldTake_41 ml_X4_117 ok_X2_isFlag ehx18 (by decide) rfl (rest := []) rfl (Nat.le_of_ble_eq_true rfl) ?_
        refine v_if_eq (tgt := 51) dX4_couldTake_44 (by decide) (fun c19 => ?_) (fun c19 => ?_)
        · replace h := ip_ c19 h
          refine v_iconst (v := 0) dX4_couldTake_51 (by decide) ?_
          obtain rfl := Option.some.inj h
          exact v_zret dX4_couldTake_52 rfl (Or.inl rfl) rfl
        · replace h := in_ c19 h
          refine v_iconst (v := 1) dX4_couldTake_47 (by decide) ?_
          refine v_goto (tgt := 52) dX4_couldTake_48 (by decide) ?_
          obtain rfl := Option.some.inj h
          exact v_zret dX4_couldTake_52 rfl (Or.inr rfl) rfl
  · replace h := in_ c24 h
    refine v_aload_n dX4_couldTake_7 rfl rfl ?_
    refine v_aload_n dX4_couldTake_8 rfl rfl ?_
    refine v_iload_n dX4_couldTake_9 rfl rfl ?_
    refine v_iload_n dX4_couldTake_10 rfl rfl ?_
    obtain ⟨x22, hx23, h⟩ := ob_some h
    have ehx23 := tX4_couldTakeSigns (l := l) (g := g) (sz := sz) N this p0 p1 p2 f hx23
    refine v_cVI dX4_couldTake_11 ml_X4_114 ok_X4_couldTakeSigns ehx23 (kX4_couldTakeSigns N this p0 p1 p2 f hx23) rfl (by decide) rfl (rest := []) rfl (Nat.le_of_ble_eq_true rfl) ?_
    obtain ⟨hB, h⟩ := if_some h
    obtain rfl := Option.some.inj h
    exact v_zret dX4_couldTake_14 rfl hB rfl

/-! X4 isGood (RT) -/
def DX4_isGood (N : Nat) (this : Nat) (p0 : Int32) (p1 : Int32) (f : HF) : Option (Int32 ⊕ String) :=
  (ck f this 3).bind fun _ =>
  (DX4_next N this (61 : Int32) p0 p1 f).bind fun x1 =>
  bRT (DX4_masterNamed N this p0 x1 f) fun x3 =>
  (gR f this 3 1).bind fun x5 =>
  (DX5_count N x5 f).bind fun x6 =>
  if p1 = x6 then
    some (.inl (0 : Int32))
  else
    if x1 = p1 then
      some (.inl (0 : Int32))
    else
      if x3 = (-1 : Int32) then
        some (.inl (0 : Int32))
      else
        (gR f this 3 0).bind fun x8 =>
        bRT (DX6_get N x8 x3 f) fun x9 =>
        (gI f x9 1 6).bind fun x11 =>
        if x11 = 0 then
          (DX4_couldTake N this x9 (x1 + (1 : Int32)) p1 f).bind fun x12 =>
          if x12 = 0 then
            some (.inl (0 : Int32))
          else
            some (.inl (1 : Int32))
        else
          some (.inl (0 : Int32))

set_option maxRecDepth 20000 in
theorem kX4_isGood (N : Nat) (this : Nat) (p0 : Int32) (p1 : Int32) (f : HF) {r : (Int32 ⊕ String)} (h : DX4_isGood N this p0 p1 f = some r) : ck f this 3 = some () := by
  unfold DX4_isGood at h
  obtain ⟨_, hck, _⟩ := ob_some h
  exact hck

set_option maxRecDepth 20000 in
theorem tX4_isGood {l : Launch} {g : GT} {sz : Option Nat} (N : Nat) (this : Nat) (p0 : Int32) (p1 : Int32) (f : HF) {r : (Int32 ⊕ String)} (h : DX4_isGood N this p0 p1 f = some r) : Mt l g yX4_isGood cX4_isGood 6 (Option.some Jvm.ClassFile.FieldType.boolean) 11 [.ref this, .int p0, .int p1] f sz (roI r f sz) := by
  unfold DX4_isGood at h
  obtain ⟨_, hck, h⟩ := ob_some h
  refine mt_of (by decide) (Nat.le_of_ble_eq_true rfl) (?_ : V l g (fun _ => True) (RX4, cX4_isGood, 6, (Option.some Jvm.ClassFile.FieldType.boolean), [], "isGood") 11 (roI r f sz) 0 [(0, .ref this), (1, .int p0), (2, .int p1)] [] f sz 0 0)
  refine v_aload_n dX4_isGood_0 rfl rfl ?_
  refine v_bipush (v := 61) dX4_isGood_1 (by decide) ?_
  refine v_iload_n dX4_isGood_3 rfl rfl ?_
  refine v_iload_n dX4_isGood_4 rfl rfl ?_
  obtain ⟨x1, hx2, h⟩ := ob_some h
  have ehx2 := tX4_next (l := l) (g := g) (sz := sz) N this (61 : Int32) p0 p1 f hx2
  refine v_cVI dX4_isGood_5 ml_X4_49 ok_X4_next ehx2 (kX4_next N this (61 : Int32) p0 p1 f hx2) rfl (by decide) rfl (rest := []) rfl (Nat.le_of_ble_eq_true rfl) ?_
  refine v_istore_n (ls1 := [(3, .int x1), (0, .ref this), (1, .int p0), (2, .int p1)]) dX4_isGood_8 rfl (by decide) rfl ?_
  refine v_aload_n dX4_isGood_9 rfl rfl ?_
  refine v_iload_n dX4_isGood_10 rfl rfl ?_
  refine v_iload_n dX4_isGood_11 rfl rfl ?_
  rcases bRT_some h with ⟨x3, hx4, h⟩ | ⟨e9, hx4, h⟩
  rotate_left
  · cases h
    have ehx4 := tX4_masterNamed (l := l) (g := g) (sz := sz) N this p0 x1 f hx4
    exact v_cVx dX4_isGood_12 ml_X4_56 ok_X4_masterNamed ehx4 (kX4_masterNamed N this p0 x1 f hx4) rfl (by decide) rfl (rest := []) rfl (Nat.le_of_ble_eq_true rfl) rfl rfl
  have ehx4 := tX4_masterNamed (l := l) (g := g) (sz := sz) N this p0 x1 f hx4
  refine v_cVI dX4_isGood_12 ml_X4_56 ok_X4_masterNamed ehx4 (kX4_masterNamed N this p0 x1 f hx4) rfl (by decide) rfl (rest := []) rfl (Nat.le_of_ble_eq_true rfl) ?_
  refine v_istore (ls1 := [(4, .int x3), (3, .int x1), (0, .ref this), (1, .int p0), (2, .int p1)]) dX4_isGood_15 (by decide) rfl ?_
  refine v_iload_n dX4_isGood_17 rfl rfl ?_
  refine v_aload_n dX4_isGood_18 rfl rfl ?_
  obtain ⟨x5, hx5, h⟩ := ob_some h
  refine v_getR dX4_isGood_19 fl_X4_14 hx5 ?_
  obtain ⟨x6, hx7, h⟩ := ob_some h
  have ehx7 := tX5_count (l := l) (g := g) (sz := sz) N x5 f hx7
  refine v_cVI dX4_isGood_22 ml_X4_34 ok_X5_count ehx7 (kX5_count N x5 f hx7) rfl (by decide) rfl (rest := [.int p1]) rfl (Nat.le_of_ble_eq_true rfl) ?_
  refine v_icmp_eq (tgt := 39) dX4_isGood_25 (by decide) (fun c18 => ?_) (fun c18 => ?_)
  · replace h := ip_ c18 h
    refine v_iconst (v := 0) dX4_isGood_39 (by decide) ?_
    obtain rfl := Option.some.inj h
    exact v_zret dX4_isGood_40 rfl (Or.inl rfl) rfl
  · replace h := in_ c18 h
    refine v_iload_n dX4_isGood_28 rfl rfl ?_
    refine v_iload_n dX4_isGood_29 rfl rfl ?_
    refine v_icmp_eq (tgt := 39) dX4_isGood_30 (by decide) (fun c17 => ?_) (fun c17 => ?_)
    · replace h := ip_ c17 h
      refine v_iconst (v := 0) dX4_isGood_39 (by decide) ?_
      obtain rfl := Option.some.inj h
      exact v_zret dX4_isGood_40 rfl (Or.inl rfl) rfl
    · replace h := in_ c17 h
      refine v_iload dX4_isGood_33 rfl ?_
      refine v_iconst (v := -1) dX4_isGood_35 (by decide) ?_
      refine v_icmp_ne (tgt := 41) dX4_isGood_36 (by decide) (fun c16 => ?_) (fun c16 => ?_)
      · replace h := in_ c16 h
        refine v_aload_n dX4_isGood_41 rfl rfl ?_
        obtain ⟨x8, hx8, h⟩ := ob_some h
        refine v_getR dX4_isGood_42 fl_X4_20 hx8 ?_
        refine v_iload dX4_isGood_45 rfl ?_
        rcases bRT_some h with ⟨x9, hx10, h⟩ | ⟨e9, hx10, h⟩
        rotate_left
        · cases h
          have ehx10 := tX6_get (l := l) (g := g) (sz := sz) N x8 x3 f hx10
          exact v_cVx dX4_isGood_47 ml_X4_60 ok_X6_get ehx10 (kX6_get N x8 x3 f hx10) rfl (by decide) rfl (rest := []) rfl (Nat.le_of_ble_eq_true rfl) rfl rfl
        have ehx10 := tX6_get (l := l) (g := g) (sz := sz) N x8 x3 f hx10
        refine v_cVR dX4_isGood_47 ml_X4_60 ok_X6_get ehx10 (kX6_get N x8 x3 f hx10) rfl (by decide) rfl (rest := []) rfl (Nat.le_of_ble_eq_true rfl) ?_
        refine v_astore (ls1 := [(5, .ref x9), (4, .int x3), (3, .int x1), (0, .ref this), (1, .int p0), (2, .int p1)]) dX4_isGood_50 (by decide) rfl ?_
        refine v_aload dX4_isGood_52 rfl ?_
        obtain ⟨x11, hx11, h⟩ := ob_some h
        refine v_getI dX4_isGood_54 fl_X4_65 hx11 ?_
        refine v_if_ne (tgt := 77) dX4_isGood_57 (by decide) (fun c15 => ?_) (fun c15 => ?_)
        · replace h := in_ c15 h
          refine v_iconst (v := 0) dX4_isGood_77 (by decide) ?_
          obtain rfl := Option.some.inj h
          exact v_zret dX4_isGood_78 rfl (Or.inl rfl) rfl
        · replace h := ip_ c15 h
          refine v_aload_n dX4_isGood_60 rfl rfl ?_
          refine v_aload dX4_isGood_61 rfl ?_
          refine v_iload_n dX4_isGood_63 rfl rfl ?_
          refine v_iconst (v := 1) dX4_isGood_64 (by decide) ?_
          refine v_iadd dX4_isGood_65 ?_
          refine v_iload_n dX4_isGood_66 rfl rfl ?_
          obtain ⟨x12, hx13, h⟩ := ob_some h
          have ehx13 := tX4_couldTake (l := l) (g := g) (sz := sz) N this x9 (x1 + (1 : Int32)) p1 f hx13
          refine v_cVI dX4_isGood_67 ml_X4_71 ok_X4_couldTake ehx13 (kX4_couldTake N this x9 (x1 + (1 : Int32)) p1 f hx13) rfl (by decide) rfl (rest := []) rfl (Nat.le_of_ble_eq_true rfl) ?_
          refine v_if_eq (tgt := 77) dX4_isGood_70 (by decide) (fun c14 => ?_) (fun c14 => ?_)
          · replace h := ip_ c14 h
            refine v_iconst (v := 0) dX4_isGood_77 (by decide) ?_
            obtain rfl := Option.some.inj h
            exact v_zret dX4_isGood_78 rfl (Or.inl rfl) rfl
          · replace h := in_ c14 h
            refine v_iconst (v := 1) dX4_isGood_73 (by decide) ?_
            refine v_goto (tgt := 78) dX4_isGood_74 (by decide) ?_
            obtain rfl := Option.some.inj h
            exact v_zret dX4_isGood_78 rfl (Or.inr rfl) rfl
      · replace h := ip_ c16 h
        refine v_iconst (v := 0) dX4_isGood_39 (by decide) ?_
        obtain rfl := Option.some.inj h
        exact v_zret dX4_isGood_40 rfl (Or.inl rfl) rfl

/-! X4 checkAll (RT) -/
def DX4_checkAll_6 (N : Nat) (f : HF)  (n : Nat) (v0 : Nat) (v1 : Int32) (v2 : Int32) (v3 : Int32) : Option (Int32 ⊕ String) :=
  match n with
  | 0 => none
  | n + 1 =>
    if (3000 : Int32) ≤ v3 then
      some (.inl v1)
    else
      (gR f v0 3 1).bind fun x1 =>
      (DX5_count N x1 f).bind fun x2 =>
      if x2 ≤ v2 then
        some (.inl v1)
      else
        (DX4_endOf N v0 v2 f).bind fun x4 =>
        bRT (DX4_isGood N v0 v2 x4 f) fun x6 =>
        if x6 = 0 then
          some (.inl ((-1 : Int32) - v1))
        else
          DX4_checkAll_6 N f n v0 (v1 + 1) (x4 + (1 : Int32)) (v3 + 1)

def DX4_checkAll (N : Nat) (this : Nat) (f : HF) : Option (Int32 ⊕ String) :=
  (ck f this 3).bind fun _ =>
  DX4_checkAll_6 N f N this (0 : Int32) (0 : Int32) (0 : Int32)

set_option maxRecDepth 20000 in
theorem tX4_checkAll_6 {l : Launch} {g : GT} {sz : Option Nat} (N : Nat) (f : HF)  {r : (Int32 ⊕ String)} : ∀ (n : Nat), ∀ (v0 : Nat) (v1 : Int32) (v2 : Int32) (v3 : Int32), DX4_checkAll_6 N f n v0 v1 v2 v3 = some r → V l g (fun _ => True) (RX4, cX4_checkAll, 5, (Option.some Jvm.ClassFile.FieldType.int), [], "checkAll") 12 (roI r f sz) 6 [(0, .ref v0), (1, .int v1), (2, .int v2), (3, .int v3)] [] f sz 0 0 := by
  intro n
  induction n with
  | zero => intro v0 v1 v2 v3 h; cases h
  | succ n ih =>
    intro v0 v1 v2 v3 h
    rw [DX4_checkAll_6] at h
    refine v_iload_n dX4_checkAll_6 rfl rfl ?_
    refine v_sipush (v := 3000) dX4_checkAll_7 (by decide) ?_
    refine v_icmp_ge (tgt := 59) dX4_checkAll_10 (by decide) (fun c10 => ?_) (fun c10 => ?_)
    · replace h := ip_ c10 h
      refine v_iload_n dX4_checkAll_59 rfl rfl ?_
      obtain rfl := Option.some.inj h
      exact v_iret dX4_checkAll_60 rfl rfl
    · replace h := in_ c10 h
      refine v_iload_n dX4_checkAll_13 rfl rfl ?_
      refine v_aload_n dX4_checkAll_14 rfl rfl ?_
      obtain ⟨x1, hx1, h⟩ := ob_some h
      refine v_getR dX4_checkAll_15 fl_X4_14 hx1 ?_
      obtain ⟨x2, hx3, h⟩ := ob_some h
      have ehx3 := tX5_count (l := l) (g := g) (sz := sz) N x1 f hx3
      refine v_cVI dX4_checkAll_18 ml_X4_34 ok_X5_count ehx3 (kX5_count N x1 f hx3) rfl (by decide) rfl (rest := [.int v2]) rfl (Nat.le_of_ble_eq_true rfl) ?_
      refine v_icmp_ge (tgt := 59) dX4_checkAll_21 (by decide) (fun c9 => ?_) (fun c9 => ?_)
      · replace h := ip_ c9 h
        refine v_iload_n dX4_checkAll_59 rfl rfl ?_
        obtain rfl := Option.some.inj h
        exact v_iret dX4_checkAll_60 rfl rfl
      · replace h := in_ c9 h
        refine v_aload_n dX4_checkAll_24 rfl rfl ?_
        refine v_iload_n dX4_checkAll_25 rfl rfl ?_
        obtain ⟨x4, hx5, h⟩ := ob_some h
        have ehx5 := tX4_endOf (l := l) (g := g) (sz := sz) N v0 v2 f hx5
        refine v_cVI dX4_checkAll_26 ml_X4_37 ok_X4_endOf ehx5 (kX4_endOf N v0 v2 f hx5) rfl (by decide) rfl (rest := []) rfl (Nat.le_of_ble_eq_true rfl) ?_
        refine v_istore (ls1 := [(4, .int x4), (0, .ref v0), (1, .int v1), (2, .int v2), (3, .int v3)]) dX4_checkAll_29 (by decide) rfl ?_
        refine v_aload_n dX4_checkAll_31 rfl rfl ?_
        refine v_iload_n dX4_checkAll_32 rfl rfl ?_
        refine v_iload dX4_checkAll_33 rfl ?_
        rcases bRT_some h with ⟨x6, hx7, h⟩ | ⟨e9, hx7, h⟩
        rotate_left
        · cases h
          have ehx7 := tX4_isGood (l := l) (g := g) (sz := sz) N v0 v2 x4 f hx7
          exact v_cVx dX4_checkAll_35 ml_X4_41 ok_X4_isGood ehx7 (kX4_isGood N v0 v2 x4 f hx7) rfl (by decide) rfl (rest := []) rfl (Nat.le_of_ble_eq_true rfl) rfl rfl
        have ehx7 := tX4_isGood (l := l) (g := g) (sz := sz) N v0 v2 x4 f hx7
        refine v_cVI dX4_checkAll_35 ml_X4_41 ok_X4_isGood ehx7 (kX4_isGood N v0 v2 x4 f hx7) rfl (by decide) rfl (rest := []) rfl (Nat.le_of_ble_eq_true rfl) ?_
        refine v_if_ne (tgt := 45) dX4_checkAll_38 (by decide) (fun c8 => ?_) (fun c8 => ?_)
        · replace h := in_ c8 h
          refine v_iinc (v := (v1 + 1)) (ls1 := [(1, .int (v1 + 1)), (4, .int x4), (0, .ref v0), (2, .int v2), (3, .int v3)]) dX4_checkAll_45 rfl rfl (by decide) rfl ?_
          refine v_iload dX4_checkAll_48 rfl ?_
          refine v_iconst (v := 1) dX4_checkAll_50 (by decide) ?_
          refine v_iadd dX4_checkAll_51 ?_
          refine v_istore_n (ls1 := [(2, .int (x4 + (1 : Int32))), (1, .int (v1 + 1)), (4, .int x4), (0, .ref v0), (3, .int v3)]) dX4_checkAll_52 rfl (by decide) rfl ?_
          refine v_iinc (v := (v3 + 1)) (ls1 := [(3, .int (v3 + 1)), (2, .int (x4 + (1 : Int32))), (1, .int (v1 + 1)), (4, .int x4), (0, .ref v0)]) dX4_checkAll_53 rfl rfl (by decide) rfl ?_
          refine v_goto (tgt := 6) dX4_checkAll_56 (by decide) ?_
          exact v_sub (vs_c rfl (vs_c rfl (vs_c rfl (vs_c rfl vs_n)))) (ih v0 (v1 + 1) (x4 + (1 : Int32)) (v3 + 1) h)
        · replace h := ip_ c8 h
          refine v_iconst (v := -1) dX4_checkAll_41 (by decide) ?_
          refine v_iload_n dX4_checkAll_42 rfl rfl ?_
          refine v_isub dX4_checkAll_43 ?_
          obtain rfl := Option.some.inj h
          exact v_iret dX4_checkAll_44 rfl rfl

set_option maxRecDepth 20000 in
theorem kX4_checkAll (N : Nat) (this : Nat) (f : HF) {r : (Int32 ⊕ String)} (h : DX4_checkAll N this f = some r) : ck f this 3 = some () := by
  unfold DX4_checkAll at h
  obtain ⟨_, hck, _⟩ := ob_some h
  exact hck

set_option maxRecDepth 20000 in
theorem tX4_checkAll {l : Launch} {g : GT} {sz : Option Nat} (N : Nat) (this : Nat) (f : HF) {r : (Int32 ⊕ String)} (h : DX4_checkAll N this f = some r) : Mt l g yX4_checkAll cX4_checkAll 5 (Option.some Jvm.ClassFile.FieldType.int) 12 [.ref this] f sz (roI r f sz) := by
  unfold DX4_checkAll at h
  obtain ⟨_, hck, h⟩ := ob_some h
  refine mt_of (by decide) (Nat.le_of_ble_eq_true rfl) (?_ : V l g (fun _ => True) (RX4, cX4_checkAll, 5, (Option.some Jvm.ClassFile.FieldType.int), [], "checkAll") 12 (roI r f sz) 0 [(0, .ref this)] [] f sz 0 0)
  refine v_iconst (v := 0) dX4_checkAll_0 (by decide) ?_
  refine v_istore_n (ls1 := [(1, .int (0 : Int32)), (0, .ref this)]) dX4_checkAll_1 rfl (by decide) rfl ?_
  refine v_iconst (v := 0) dX4_checkAll_2 (by decide) ?_
  refine v_istore_n (ls1 := [(2, .int (0 : Int32)), (1, .int (0 : Int32)), (0, .ref this)]) dX4_checkAll_3 rfl (by decide) rfl ?_
  refine v_iconst (v := 0) dX4_checkAll_4 (by decide) ?_
  refine v_istore_n (ls1 := [(3, .int (0 : Int32)), (2, .int (0 : Int32)), (1, .int (0 : Int32)), (0, .ref this)]) dX4_checkAll_5 rfl (by decide) rfl ?_
  exact v_sub (vs_c rfl (vs_c rfl (vs_c rfl (vs_c rfl vs_n)))) (tX4_checkAll_6 N f N this (0 : Int32) (0 : Int32) (0 : Int32) h)

/-! X4 take (WT) -/
def DX4_take (N : Nat) (this : Nat) (p0 : Int32) (p1 : Int32) (f : HF) : Option ((Unit ⊕ String) × HF) :=
  (ck f this 3).bind fun _ =>
  (DX4_next N this (61 : Int32) p0 p1 f).bind fun x1 =>
  bRW (DX4_masterNamed N this p0 x1 f) f fun x3 =>
  if x3 = (-1 : Int32) then
    some (.inl (), f)
  else
    (gR f this 3 0).bind fun x5 =>
    bRW (DX6_get N x5 x3 f) f fun x6 =>
    (DX2_hasSigns N x6 f).bind fun x8 =>
    if x8 = 0 then
      (gI f x6 1 1).bind fun x10 =>
      if x10 = (2 : Int32) then
        (gR f this 3 1).bind fun x17 =>
        (DX5_get N x17 (x1 + (1 : Int32)) f).bind fun x18 =>
        (pV f x6 1 10 (.int (x18 - (48 : Int32)))).bind fun f20 =>
        some (.inl (), f20)
      else
        (gR f x6 1 9).bind fun x11 =>
        (DX4_plainNumber N this (x1 + (1 : Int32)) p1 f).bind fun x12 =>
        (DX5_find N x11 x12 f).bind fun x14 =>
        (pV f x6 1 10 (.int x14)).bind fun f16 =>
        some (.inl (), f16)
    else
      (gR f x6 1 8).bind fun x22 =>
      bW (DX5_clear N x22 f) fun x23 f25 =>
      (gR f25 x6 1 8).bind fun x26 =>
      (gR f25 this 3 1).bind fun x27 =>
      bW (DX5_addAll N x26 x27 (x1 + (1 : Int32)) p1 f25) fun x28 f30 =>
      some (.inl (), f30)

set_option maxRecDepth 20000 in
theorem kX4_take (N : Nat) (this : Nat) (p0 : Int32) (p1 : Int32) (f : HF) {r : ((Unit ⊕ String) × HF)} (h : DX4_take N this p0 p1 f = some r) : ck f this 3 = some () := by
  unfold DX4_take at h
  obtain ⟨_, hck, _⟩ := ob_some h
  exact hck

set_option maxRecDepth 20000 in
theorem tX4_take {l : Launch} {g : GT} {sz : Option Nat} (N : Nat) (this : Nat) (p0 : Int32) (p1 : Int32) (f : HF) {r : ((Unit ⊕ String) × HF)} (h : DX4_take N this p0 p1 f = some r) : Mt l g yX4_take cX4_take 6 (Option.none : Option Jvm.ClassFile.FieldType) 11 [.ref this, .int p0, .int p1] f sz (roU r.1 r.2 sz) := by
  unfold DX4_take at h
  obtain ⟨_, hck, h⟩ := ob_some h
  refine mt_of (by decide) (Nat.le_of_ble_eq_true rfl) (?_ : V l g (fun _ => True) (RX4, cX4_take, 6, (Option.none : Option Jvm.ClassFile.FieldType), [], "take") 11 (roU r.1 r.2 sz) 0 [(0, .ref this), (1, .int p0), (2, .int p1)] [] f sz 0 0)
  refine v_aload_n dX4_take_0 rfl rfl ?_
  refine v_bipush (v := 61) dX4_take_1 (by decide) ?_
  refine v_iload_n dX4_take_3 rfl rfl ?_
  refine v_iload_n dX4_take_4 rfl rfl ?_
  obtain ⟨x1, hx2, h⟩ := ob_some h
  have ehx2 := tX4_next (l := l) (g := g) (sz := sz) N this (61 : Int32) p0 p1 f hx2
  refine v_cVI dX4_take_5 ml_X4_49 ok_X4_next ehx2 (kX4_next N this (61 : Int32) p0 p1 f hx2) rfl (by decide) rfl (rest := []) rfl (Nat.le_of_ble_eq_true rfl) ?_
  refine v_istore_n (ls1 := [(3, .int x1), (0, .ref this), (1, .int p0), (2, .int p1)]) dX4_take_8 rfl (by decide) rfl ?_
  refine v_aload_n dX4_take_9 rfl rfl ?_
  refine v_iload_n dX4_take_10 rfl rfl ?_
  refine v_iload_n dX4_take_11 rfl rfl ?_
  rcases bRW_some h with ⟨x3, hx4, h⟩ | ⟨e9, hx4, h⟩
  rotate_left
  · cases h
    have ehx4 := tX4_masterNamed (l := l) (g := g) (sz := sz) N this p0 x1 f hx4
    exact v_cVx dX4_take_12 ml_X4_56 ok_X4_masterNamed ehx4 (kX4_masterNamed N this p0 x1 f hx4) rfl (by decide) rfl (rest := []) rfl (Nat.le_of_ble_eq_true rfl) rfl rfl
  have ehx4 := tX4_masterNamed (l := l) (g := g) (sz := sz) N this p0 x1 f hx4
  refine v_cVI dX4_take_12 ml_X4_56 ok_X4_masterNamed ehx4 (kX4_masterNamed N this p0 x1 f hx4) rfl (by decide) rfl (rest := []) rfl (Nat.le_of_ble_eq_true rfl) ?_
  refine v_istore (ls1 := [(4, .int x3), (3, .int x1), (0, .ref this), (1, .int p0), (2, .int p1)]) dX4_take_15 (by decide) rfl ?_
  refine v_iload dX4_take_17 rfl ?_
  refine v_iconst (v := -1) dX4_take_19 (by decide) ?_
  refine v_icmp_ne (tgt := 24) dX4_take_20 (by decide) (fun c32 => ?_) (fun c32 => ?_)
  · replace h := in_ c32 h
    refine v_aload_n dX4_take_24 rfl rfl ?_
    obtain ⟨x5, hx5, h⟩ := ob_some h
    refine v_getR dX4_take_25 fl_X4_20 hx5 ?_
    refine v_iload dX4_take_28 rfl ?_
    rcases bRW_some h with ⟨x6, hx7, h⟩ | ⟨e9, hx7, h⟩
    rotate_left
    · cases h
      have ehx7 := tX6_get (l := l) (g := g) (sz := sz) N x5 x3 f hx7
      exact v_cVx dX4_take_30 ml_X4_60 ok_X6_get ehx7 (kX6_get N x5 x3 f hx7) rfl (by decide) rfl (rest := []) rfl (Nat.le_of_ble_eq_true rfl) rfl rfl
    have ehx7 := tX6_get (l := l) (g := g) (sz := sz) N x5 x3 f hx7
    refine v_cVR dX4_take_30 ml_X4_60 ok_X6_get ehx7 (kX6_get N x5 x3 f hx7) rfl (by decide) rfl (rest := []) rfl (Nat.le_of_ble_eq_true rfl) ?_
    refine v_astore (ls1 := [(5, .ref x6), (4, .int x3), (3, .int x1), (0, .ref this), (1, .int p0), (2, .int p1)]) dX4_take_33 (by decide) rfl ?_
    refine v_aload dX4_take_35 rfl ?_
    obtain ⟨x8, hx9, h⟩ := ob_some h
    have ehx9 := tX2_hasSigns (l := l) (g := g) (sz := sz) N x6 f hx9
    refine v_cVI dX4_take_37 ml_X4_75 ok_X2_hasSigns ehx9 (kX2_hasSigns N x6 f hx9) rfl (by decide) rfl (rest := []) rfl (Nat.le_of_ble_eq_true rfl) ?_
    refine v_if_eq (tgt := 70) dX4_take_40 (by decide) (fun c31 => ?_) (fun c31 => ?_)
    · replace h := ip_ c31 h
      refine v_aload dX4_take_70 rfl ?_
      obtain ⟨x10, hx10, h⟩ := ob_some h
      refine v_getI dX4_take_72 fl_X4_86 hx10 ?_
      refine v_iconst (v := 2) dX4_take_75 (by decide) ?_
      refine v_icmp_ne (tgt := 100) dX4_take_76 (by decide) (fun c21 => ?_) (fun c21 => ?_)
      · replace h := in_ c21 h
        refine v_aload dX4_take_100 rfl ?_
        refine v_aload dX4_take_102 rfl ?_
        obtain ⟨x11, hx11, h⟩ := ob_some h
        refine v_getR dX4_take_104 fl_X4_93 hx11 ?_
        refine v_aload_n dX4_take_107 rfl rfl ?_
        refine v_iload_n dX4_take_108 rfl rfl ?_
        refine v_iconst (v := 1) dX4_take_109 (by decide) ?_
        refine v_iadd dX4_take_110 ?_
        refine v_iload_n dX4_take_111 rfl rfl ?_
        obtain ⟨x12, hx13, h⟩ := ob_some h
        have ehx13 := tX4_plainNumber (l := l) (g := g) (sz := sz) N this (x1 + (1 : Int32)) p1 f hx13
        refine v_cVI dX4_take_112 ml_X4_96 ok_X4_plainNumber ehx13 (kX4_plainNumber N this (x1 + (1 : Int32)) p1 f hx13) rfl (by decide) rfl (rest := [.ref x11, .ref x6]) rfl (Nat.le_of_ble_eq_true rfl) ?_
        obtain ⟨x14, hx15, h⟩ := ob_some h
        have ehx15 := tX5_find (l := l) (g := g) (sz := sz) N x11 x12 f hx15
        refine v_cVI dX4_take_115 ml_X4_99 ok_X5_find ehx15 (kX5_find N x11 x12 f hx15) rfl (by decide) rfl (rest := [.ref x6]) rfl (Nat.le_of_ble_eq_true rfl) ?_
        obtain ⟨f16, hf16, h⟩ := ob_some h
        refine v_pI dX4_take_118 fp_X4_90 hf16 ?_
        obtain rfl := Option.some.inj h
        exact v_vret dX4_take_121 rfl rfl
      · replace h := ip_ c21 h
        refine v_aload dX4_take_79 rfl ?_
        refine v_aload_n dX4_take_81 rfl rfl ?_
        obtain ⟨x17, hx17, h⟩ := ob_some h
        refine v_getR dX4_take_82 fl_X4_14 hx17 ?_
        refine v_iload_n dX4_take_85 rfl rfl ?_
        refine v_iconst (v := 1) dX4_take_86 (by decide) ?_
        refine v_iadd dX4_take_87 ?_
        obtain ⟨x18, hx19, h⟩ := ob_some h
        have ehx19 := tX5_get (l := l) (g := g) (sz := sz) N x17 (x1 + (1 : Int32)) f hx19
        refine v_cVI dX4_take_88 ml_X4_53 ok_X5_get ehx19 (kX5_get N x17 (x1 + (1 : Int32)) f hx19) rfl (by decide) rfl (rest := [.ref x6]) rfl (Nat.le_of_ble_eq_true rfl) ?_
        refine v_bipush (v := 48) dX4_take_91 (by decide) ?_
        refine v_isub dX4_take_93 ?_
        obtain ⟨f20, hf20, h⟩ := ob_some h
        refine v_pI dX4_take_94 fp_X4_90 hf20 ?_
        refine v_goto (tgt := 121) dX4_take_97 (by decide) ?_
        obtain rfl := Option.some.inj h
        exact v_vret dX4_take_121 rfl rfl
    · replace h := in_ c31 h
      refine v_aload dX4_take_43 rfl ?_
      obtain ⟨x22, hx22, h⟩ := ob_some h
      refine v_getR dX4_take_45 fl_X4_79 hx22 ?_
      obtain ⟨x23, f25, hx24, h⟩ := bW_some h
      have ehx24 := tX5_clear (l := l) (g := g) (sz := sz) N x22 f hx24
      refine v_cVU dX4_take_48 ml_X4_31 ok_X5_clear ehx24 (kX5_clear N x22 f hx24) rfl (by decide) rfl (rest := []) rfl (Nat.le_of_ble_eq_true rfl) ?_
      refine v_aload dX4_take_51 rfl ?_
      obtain ⟨x26, hx26, h⟩ := ob_some h
      refine v_getR dX4_take_53 fl_X4_79 hx26 ?_
      refine v_aload_n dX4_take_56 rfl rfl ?_
      obtain ⟨x27, hx27, h⟩ := ob_some h
      refine v_getR dX4_take_57 fl_X4_14 hx27 ?_
      refine v_iload_n dX4_take_60 rfl rfl ?_
      refine v_iconst (v := 1) dX4_take_61 (by decide) ?_
      refine v_iadd dX4_take_62 ?_
      refine v_iload_n dX4_take_63 rfl rfl ?_
      obtain ⟨x28, f30, hx29, h⟩ := bW_some h
      have ehx29 := tX5_addAll (l := l) (g := g) (sz := sz) N x26 x27 (x1 + (1 : Int32)) p1 f25 hx29
      refine v_cVU dX4_take_64 ml_X4_82 ok_X5_addAll ehx29 (kX5_addAll N x26 x27 (x1 + (1 : Int32)) p1 f25 hx29) rfl (by decide) rfl (rest := []) rfl (Nat.le_of_ble_eq_true rfl) ?_
      refine v_goto (tgt := 121) dX4_take_67 (by decide) ?_
      obtain rfl := Option.some.inj h
      exact v_vret dX4_take_121 rfl rfl
  · replace h := ip_ c32 h
    obtain rfl := Option.some.inj h
    exact v_vret dX4_take_23 rfl rfl

