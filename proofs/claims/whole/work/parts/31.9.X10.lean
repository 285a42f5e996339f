/-! X10 readAll (W) -/
def DX10_readAll_16 (N : Nat)  (v0 : Nat) (v1 : Int32) (f : HF) : Option (Int32 × HF) :=
    (pV f v0 9 37 (.int (0 : Int32))).bind fun f4 =>
    some (v1, f4)

def DX10_readAll (N : Nat) (this : Nat) (f : HF) : Option (Int32 × HF) :=
  (ck f this 9).bind fun _ =>
  bW (DX10_goOver N this (0 : Int32) f) fun x1 f3 =>
  if x1 ≤ 0 then
    DX10_readAll_16 N this x1 f3
  else
    bW (DX10_goOver N this (1 : Int32) f3) fun x5 f7 =>
    DX10_readAll_16 N this x5 f7

set_option maxRecDepth 20000 in
theorem tX10_readAll_16 {l : Launch} {g : GT} {sz : Option Nat} (N : Nat)  {r : (Int32 × HF)} : ∀ (v0 : Nat) (v1 : Int32) (f : HF), DX10_readAll_16 N v0 v1 f = some r → V l g (fun _ => True) (RX10, cX10_readAll, 2, (Option.some Jvm.ClassFile.FieldType.int), [], "readAll") 5 (roI (.inl r.1) r.2 sz) 16 [(0, .ref v0), (1, .int v1)] [] f sz 0 0 := by
  intro v0 v1 f h
  unfold DX10_readAll_16 at h
  refine v_aload_n dX10_readAll_16 rfl rfl ?_
  refine v_iconst (v := 0) dX10_readAll_17 (by decide) ?_
  obtain ⟨f4, hf4, h⟩ := ob_some h
  refine v_pI dX10_readAll_18 fp_X10_299 hf4 ?_
  refine v_iload_n dX10_readAll_21 rfl rfl ?_
  obtain rfl := Option.some.inj h
  exact v_iret dX10_readAll_22 rfl rfl

set_option maxRecDepth 20000 in
theorem kX10_readAll (N : Nat) (this : Nat) (f : HF) {r : (Int32 × HF)} (h : DX10_readAll N this f = some r) : ck f this 9 = some () := by
  unfold DX10_readAll at h
  obtain ⟨_, hck, _⟩ := ob_some h
  exact hck

set_option maxRecDepth 20000 in
theorem tX10_readAll {l : Launch} {g : GT} {sz : Option Nat} (N : Nat) (this : Nat) (f : HF) {r : (Int32 × HF)} (h : DX10_readAll N this f = some r) : Mt l g yX10_readAll cX10_readAll 2 (Option.some Jvm.ClassFile.FieldType.int) 5 [.ref this] f sz (roI (.inl r.1) r.2 sz) := by
  unfold DX10_readAll at h
  obtain ⟨_, hck, h⟩ := ob_some h
  refine mt_of (by decide) (Nat.le_of_ble_eq_true rfl) (?_ : V l g (fun _ => True) (RX10, cX10_readAll, 2, (Option.some Jvm.ClassFile.FieldType.int), [], "readAll") 5 (roI (.inl r.1) r.2 sz) 0 [(0, .ref this)] [] f sz 0 0)
  refine v_aload_n dX10_readAll_0 rfl rfl ?_
  refine v_iconst (v := 0) dX10_readAll_1 (by decide) ?_
  obtain ⟨x1, f3, hx2, h⟩ := bW_some h
  have ehx2 := tX10_goOver (l := l) (g := g) (sz := sz) N this (0 : Int32) f hx2
  refine v_cVI dX10_readAll_2 ml_X10_315 ok_X10_goOver ehx2 (kX10_goOver N this (0 : Int32) f hx2) rfl (by decide) rfl (rest := []) rfl (Nat.le_of_ble_eq_true rfl) ?_
  refine v_istore_n (ls1 := [(1, .int x1), (0, .ref this)]) dX10_readAll_5 rfl (by decide) rfl ?_
  refine v_iload_n dX10_readAll_6 rfl rfl ?_
  refine v_if_le (tgt := 16) dX10_readAll_7 (by decide) (fun c8 => ?_) (fun c8 => ?_)
  · replace h := ip_ c8 h
    exact v_sub (vs_c rfl (vs_c rfl vs_n)) (tX10_readAll_16 N this x1 f3 h)
  · replace h := in_ c8 h
    refine v_aload_n dX10_readAll_10 rfl rfl ?_
    refine v_iconst (v := 1) dX10_readAll_11 (by decide) ?_
    obtain ⟨x5, f7, hx6, h⟩ := bW_some h
    have ehx6 := tX10_goOver (l := l) (g := g) (sz := sz) N this (1 : Int32) f3 hx6
    refine v_cVI dX10_readAll_12 ml_X10_315 ok_X10_goOver ehx6 (kX10_goOver N this (1 : Int32) f3 hx6) rfl (by decide) rfl (rest := []) rfl (Nat.le_of_ble_eq_true rfl) ?_
    refine v_istore_n (ls1 := [(1, .int x5), (0, .ref this)]) dX10_readAll_15 rfl (by decide) rfl ?_
    exact v_sub (vs_c rfl (vs_c rfl vs_n)) (tX10_readAll_16 N this x5 f7 h)

/-! X10 read (W) -/
def DX10_read_38 (N : Nat)  (v0 : Nat) (v1 : Int32) (s0 : Nat) (s1 : Int32) (f : HF) : Option (Int32 × HF) :=
    (pV f s0 9 0 (.int s1)).bind fun f3 =>
    (gI f3 v0 9 0).bind fun x4 =>
    if x4 ≤ 0 then
      if v1 = (-1 : Int32) then
        bW (DX10_readAll N v0 f3) fun x11 f13 =>
        some (x11, f13)
      else
        (gR f3 v0 9 36).bind fun x5 =>
        (gI f3 v0 9 37).bind fun x6 =>
        (sI f3 x5 0 x6 v1).bind fun f7 =>
        (gI f7 v0 9 37).bind fun x8 =>
        (pV f7 v0 9 37 (.int (x8 + (1 : Int32)))).bind fun f9 =>
        (gI f9 v0 9 37).bind fun x10 =>
        some (x10, f9)
    else
      some ((0 : Int32), f3)

def DX10_read_37 (N : Nat)  (v0 : Nat) (v1 : Int32) (s0 : Nat) (f : HF) : Option (Int32 × HF) :=
    DX10_read_38 N v0 v1 s0 (0 : Int32) f

def DX10_read (N : Nat) (this : Nat) (p0 : Int32) (f : HF) : Option (Int32 × HF) :=
  (ck f this 9).bind fun _ =>
  (DX10_isIn N (p0.toInt64) (-1 : Int64) (255 : Int64) f).bind fun x1 =>
  if x1 = 0 then
    DX10_read_38 N this p0 this (1 : Int32) f
  else
    if p0 < 0 then
      DX10_read_37 N this p0 this f
    else
      (gI f this 9 37).bind fun x16 =>
      if x16 = (3000 : Int32) then
        DX10_read_38 N this p0 this (2 : Int32) f
      else
        DX10_read_37 N this p0 this f

set_option maxRecDepth 20000 in
theorem tX10_read_38 {l : Launch} {g : GT} {sz : Option Nat} (N : Nat)  {r : (Int32 × HF)} : ∀ (v0 : Nat) (v1 : Int32) (s0 : Nat) (s1 : Int32) (f : HF), DX10_read_38 N v0 v1 s0 s1 f = some r → V l g (fun _ => True) (RX10, cX10_read, 2, (Option.some Jvm.ClassFile.FieldType.int), [], "read") 6 (roI (.inl r.1) r.2 sz) 38 [(0, .ref v0), (1, .int v1)] [.int s1, .ref s0] f sz 0 0 := by
  intro v0 v1 s0 s1 f h
  unfold DX10_read_38 at h
  obtain ⟨f3, hf3, h⟩ := ob_some h
  refine v_pI dX10_read_38 fp_X10_102 hf3 ?_
  refine v_aload_n dX10_read_41 rfl rfl ?_
  obtain ⟨x4, hx4, h⟩ := ob_some h
  refine v_getI dX10_read_42 fl_X10_102 hx4 ?_
  refine v_if_le (tgt := 50) dX10_read_45 (by decide) (fun c15 => ?_) (fun c15 => ?_)
  · replace h := ip_ c15 h
    refine v_iload_n dX10_read_50 rfl rfl ?_
    refine v_iconst (v := -1) dX10_read_51 (by decide) ?_
    refine v_icmp_ne (tgt := 60) dX10_read_52 (by decide) (fun c14 => ?_) (fun c14 => ?_)
    · replace h := in_ c14 h
      refine v_aload_n dX10_read_60 rfl rfl ?_
      obtain ⟨x5, hx5, h⟩ := ob_some h
      refine v_getR dX10_read_61 fl_X10_99 hx5 ?_
      refine v_aload_n dX10_read_64 rfl rfl ?_
      obtain ⟨x6, hx6, h⟩ := ob_some h
      refine v_getI dX10_read_65 fl_X10_299 hx6 ?_
      refine v_iload_n dX10_read_68 rfl rfl ?_
      obtain ⟨f7, hf7, h⟩ := ob_some h
      refine v_iast dX10_read_69 hf7 ?_
      refine v_aload_n dX10_read_70 rfl rfl ?_
      refine v_dup dX10_read_71 rfl ?_
      obtain ⟨x8, hx8, h⟩ := ob_some h
      refine v_getI dX10_read_72 fl_X10_299 hx8 ?_
      refine v_iconst (v := 1) dX10_read_75 (by decide) ?_
      refine v_iadd dX10_read_76 ?_
      obtain ⟨f9, hf9, h⟩ := ob_some h
      refine v_pI dX10_read_77 fp_X10_299 hf9 ?_
      refine v_aload_n dX10_read_80 rfl rfl ?_
      obtain ⟨x10, hx10, h⟩ := ob_some h
      refine v_getI dX10_read_81 fl_X10_299 hx10 ?_
      obtain rfl := Option.some.inj h
      exact v_iret dX10_read_84 rfl rfl
    · replace h := ip_ c14 h
      refine v_aload_n dX10_read_55 rfl rfl ?_
      obtain ⟨x11, f13, hx12, h⟩ := bW_some h
      have ehx12 := tX10_readAll (l := l) (g := g) (sz := sz) N v0 f3 hx12
      refine v_cVI dX10_read_56 ml_X10_321 ok_X10_readAll ehx12 (kX10_readAll N v0 f3 hx12) rfl (by decide) rfl (rest := []) rfl (Nat.le_of_ble_eq_true rfl) ?_
      obtain rfl := Option.some.inj h
      exact v_iret dX10_read_59 rfl rfl
  · replace h := in_ c15 h
    refine v_iconst (v := 0) dX10_read_48 (by decide) ?_
    obtain rfl := Option.some.inj h
    exact v_iret dX10_read_49 rfl rfl

set_option maxRecDepth 20000 in
theorem tX10_read_37 {l : Launch} {g : GT} {sz : Option Nat} (N : Nat)  {r : (Int32 × HF)} : ∀ (v0 : Nat) (v1 : Int32) (s0 : Nat) (f : HF), DX10_read_37 N v0 v1 s0 f = some r → V l g (fun _ => True) (RX10, cX10_read, 2, (Option.some Jvm.ClassFile.FieldType.int), [], "read") 6 (roI (.inl r.1) r.2 sz) 37 [(0, .ref v0), (1, .int v1)] [.ref s0] f sz 0 0 := by
  intro v0 v1 s0 f h
  unfold DX10_read_37 at h
  refine v_iconst (v := 0) dX10_read_37 (by decide) ?_
  exact v_sub (vs_c rfl (vs_c rfl vs_n)) (tX10_read_38 N v0 v1 s0 (0 : Int32) f h)

set_option maxRecDepth 20000 in
theorem kX10_read (N : Nat) (this : Nat) (p0 : Int32) (f : HF) {r : (Int32 × HF)} (h : DX10_read N this p0 f = some r) : ck f this 9 = some () := by
  unfold DX10_read at h
  obtain ⟨_, hck, _⟩ := ob_some h
  exact hck

set_option maxRecDepth 20000 in
theorem tX10_read {l : Launch} {g : GT} {sz : Option Nat} (N : Nat) (this : Nat) (p0 : Int32) (f : HF) {r : (Int32 × HF)} (h : DX10_read N this p0 f = some r) : Mt l g yX10_read cX10_read 2 (Option.some Jvm.ClassFile.FieldType.int) 6 [.ref this, .int p0] f sz (roI (.inl r.1) r.2 sz) := by
  unfold DX10_read at h
  obtain ⟨_, hck, h⟩ := ob_some h
  refine mt_of (by decide) (Nat.le_of_ble_eq_true rfl) (?_ : V l g (fun _ => True) (RX10, cX10_read, 2, (Option.some Jvm.ClassFile.FieldType.int), [], "read") 6 (roI (.inl r.1) r.2 sz) 0 [(0, .ref this), (1, .int p0)] [] f sz 0 0)
  refine v_aload_n dX10_read_0 rfl rfl ?_
  refine v_iload_n dX10_read_1 rfl rfl ?_
  refine v_i2l dX10_read_2 ?_
  refine v_ldc2 dX10_read_3 kc_X10_193 ?_
  refine v_ldc2 dX10_read_6 kc_X10_319 ?_
  obtain ⟨x1, hx2, h⟩ := ob_some h
  have ehx2 := tX10_isIn (l := l) (g := g) (sz := sz) N (p0.toInt64) (-1 : Int64) (255 : Int64) f hx2
  refine v_cSI dX10_read_9 ml_X10_115 ok_X10_isIn ehx2 (by decide) rfl (rest := [.ref this]) rfl (Nat.le_of_ble_eq_true rfl) ?_
  refine v_if_ne (tgt := 19) dX10_read_12 (by decide) (fun c19 => ?_) (fun c19 => ?_)
  · replace h := in_ c19 h
    refine v_iload_n dX10_read_19 rfl rfl ?_
    refine v_if_lt (tgt := 37) dX10_read_20 (by decide) (fun c18 => ?_) (fun c18 => ?_)
    · replace h := ip_ c18 h
      exact v_sub (vs_c rfl (vs_c rfl vs_n)) (tX10_read_37 N this p0 this f h)
    · replace h := in_ c18 h
      refine v_aload_n dX10_read_23 rfl rfl ?_
      obtain ⟨x16, hx16, h⟩ := ob_some h
      refine v_getI dX10_read_24 fl_X10_299 hx16 ?_
      refine v_sipush (v := 3000) dX10_read_27 (by decide) ?_
      refine v_icmp_ne (tgt := 37) dX10_read_30 (by decide) (fun c17 => ?_) (fun c17 => ?_)
      · replace h := in_ c17 h
        exact v_sub (vs_c rfl (vs_c rfl vs_n)) (tX10_read_37 N this p0 this f h)
      · replace h := ip_ c17 h
        refine v_iconst (v := 2) dX10_read_33 (by decide) ?_
        refine v_goto (tgt := 38) dX10_read_34 (by decide) ?_
        exact v_sub (vs_c rfl (vs_c rfl vs_n)) (tX10_read_38 N this p0 this (2 : Int32) f h)
  · replace h := ip_ c19 h
    refine v_iconst (v := 1) dX10_read_15 (by decide) ?_
    refine v_goto (tgt := 38) dX10_read_16 (by decide) ?_
    exact v_sub (vs_c rfl (vs_c rfl vs_n)) (tX10_read_38 N this p0 this (1 : Int32) f h)

/-! X10 lock (W) -/
def DX10_lock_37 (N : Nat)  (v0 : Nat) (v1 : Int32) (v2 : Int32) (s0 : Int32) (f : HF) : Option (Int32 × HF) :=
    (gR f v0 9 22).bind fun x9 =>
    (gR f v0 9 5).bind fun x10 =>
    (aI f x10 0 v1).bind fun x11 =>
    if v2 = 0 ∨ v2 = 1 then
    (sI f x9 2 x11 v2).bind fun f12 =>
    some (s0, f12)
    else none

def DX10_lock (N : Nat) (this : Nat) (p0 : Int32) (p1 : Int32) (f : HF) : Option (Int32 × HF) :=
  (ck f this 9).bind fun _ =>
  (DX10_checkField N this p0 f).bind fun x1 =>
  (pV f this 9 0 (.int x1)).bind fun f3 =>
  (gI f3 this 9 0).bind fun x4 =>
  if x4 ≤ 0 then
    (gR f3 this 9 22).bind fun x5 =>
    (gR f3 this 9 5).bind fun x6 =>
    (aI f3 x6 0 p0).bind fun x7 =>
    (aI f3 x5 2 x7).bind fun x8 =>
    if x8 = 0 then
      DX10_lock_37 N this p0 p1 (0 : Int32) f3
    else
      DX10_lock_37 N this p0 p1 (1 : Int32) f3
  else
    some ((0 : Int32), f3)

set_option maxRecDepth 20000 in
theorem tX10_lock_37 {l : Launch} {g : GT} {sz : Option Nat} (N : Nat)  {r : (Int32 × HF)} : ∀ (v0 : Nat) (v1 : Int32) (v2 : Int32) (s0 : Int32) (f : HF), DX10_lock_37 N v0 v1 v2 s0 f = some r → V l g (fun _ => True) (RX10, cX10_lock, 4, (Option.some Jvm.ClassFile.FieldType.int), [], "lock") 2 (roI (.inl r.1) r.2 sz) 37 [(0, .ref v0), (1, .int v1), (2, .int v2)] [.int s0] f sz 0 0 := by
  intro v0 v1 v2 s0 f h
  unfold DX10_lock_37 at h
  refine v_istore_n (ls1 := [(3, .int s0), (0, .ref v0), (1, .int v1), (2, .int v2)]) dX10_lock_37 rfl (by decide) rfl ?_
  refine v_aload_n dX10_lock_38 rfl rfl ?_
  obtain ⟨x9, hx9, h⟩ := ob_some h
  refine v_getR dX10_lock_39 fl_X10_72 hx9 ?_
  refine v_aload_n dX10_lock_42 rfl rfl ?_
  obtain ⟨x10, hx10, h⟩ := ob_some h
  refine v_getR dX10_lock_43 fl_X10_19 hx10 ?_
  refine v_iload_n dX10_lock_46 rfl rfl ?_
  obtain ⟨x11, hx11, h⟩ := ob_some h
  refine v_iald dX10_lock_47 hx11 ?_
  refine v_iload_n dX10_lock_48 rfl rfl ?_
  obtain ⟨hB, h⟩ := if_some h
  obtain ⟨f12, hf12, h⟩ := ob_some h
  refine v_zast dX10_lock_49 hB hf12 ?_
  refine v_iload_n dX10_lock_50 rfl rfl ?_
  obtain rfl := Option.some.inj h
  exact v_iret dX10_lock_51 rfl rfl

set_option maxRecDepth 20000 in
theorem kX10_lock (N : Nat) (this : Nat) (p0 : Int32) (p1 : Int32) (f : HF) {r : (Int32 × HF)} (h : DX10_lock N this p0 p1 f = some r) : ck f this 9 = some () := by
  unfold DX10_lock at h
  obtain ⟨_, hck, _⟩ := ob_some h
  exact hck

set_option maxRecDepth 20000 in
theorem tX10_lock {l : Launch} {g : GT} {sz : Option Nat} (N : Nat) (this : Nat) (p0 : Int32) (p1 : Int32) (f : HF) {r : (Int32 × HF)} (h : DX10_lock N this p0 p1 f = some r) : Mt l g yX10_lock cX10_lock 4 (Option.some Jvm.ClassFile.FieldType.int) 2 [.ref this, .int p0, .int p1] f sz (roI (.inl r.1) r.2 sz) := by
  unfold DX10_lock at h
  obtain ⟨_, hck, h⟩ := ob_some h
  refine mt_of (by decide) (Nat.le_of_ble_eq_true rfl) (?_ : V l g (fun _ => True) (RX10, cX10_lock, 4, (Option.some Jvm.ClassFile.FieldType.int), [], "lock") 2 (roI (.inl r.1) r.2 sz) 0 [(0, .ref this), (1, .int p0), (2, .int p1)] [] f sz 0 0)
  refine v_aload_n dX10_lock_0 rfl rfl ?_
  refine v_aload_n dX10_lock_1 rfl rfl ?_
  refine v_iload_n dX10_lock_2 rfl rfl ?_
  obtain ⟨x1, hx2, h⟩ := ob_some h
  have ehx2 := tX10_checkField (l := l) (g := g) (sz := sz) N this p0 f hx2
  refine v_cVI dX10_lock_3 ml_X10_262 ok_X10_checkField ehx2 (kX10_checkField N this p0 f hx2) rfl (by decide) rfl (rest := [.ref this]) rfl (Nat.le_of_ble_eq_true rfl) ?_
  obtain ⟨f3, hf3, h⟩ := ob_some h
  refine v_pI dX10_lock_6 fp_X10_102 hf3 ?_
  refine v_aload_n dX10_lock_9 rfl rfl ?_
  obtain ⟨x4, hx4, h⟩ := ob_some h
  refine v_getI dX10_lock_10 fl_X10_102 hx4 ?_
  refine v_if_le (tgt := 18) dX10_lock_13 (by decide) (fun c14 => ?_) (fun c14 => ?_)
  · replace h := ip_ c14 h
    refine v_aload_n dX10_lock_18 rfl rfl ?_
    obtain ⟨x5, hx5, h⟩ := ob_some h
    refine v_getR dX10_lock_19 fl_X10_72 hx5 ?_
    refine v_aload_n dX10_lock_22 rfl rfl ?_
    obtain ⟨x6, hx6, h⟩ := ob_some h
    refine v_getR dX10_lock_23 fl_X10_19 hx6 ?_
    refine v_iload_n dX10_lock_26 rfl rfl ?_
    obtain ⟨x7, hx7, h⟩ := ob_some h
    refine v_iald dX10_lock_27 hx7 ?_
    obtain ⟨x8, hx8, h⟩ := ob_some h
    refine v_zald dX10_lock_28 hx8 ?_
    refine v_if_eq (tgt := 36) dX10_lock_29 (by decide) (fun c13 => ?_) (fun c13 => ?_)
    · replace h := ip_ c13 h
      refine v_iconst (v := 0) dX10_lock_36 (by decide) ?_
      exact v_sub (vs_c rfl (vs_c rfl (vs_c rfl vs_n))) (tX10_lock_37 N this p0 p1 (0 : Int32) f3 h)
    · replace h := in_ c13 h
      refine v_iconst (v := 1) dX10_lock_32 (by decide) ?_
      refine v_goto (tgt := 37) dX10_lock_33 (by decide) ?_
      exact v_sub (vs_c rfl (vs_c rfl (vs_c rfl vs_n))) (tX10_lock_37 N this p0 p1 (1 : Int32) f3 h)
  · replace h := in_ c14 h
    refine v_iconst (v := 0) dX10_lock_16 (by decide) ?_
    obtain rfl := Option.some.inj h
    exact v_iret dX10_lock_17 rfl rfl

