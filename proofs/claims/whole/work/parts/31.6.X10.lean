/-! X10 shown (W) -/
def DX10_shown_14 (N : Nat)  (v0 : Nat) (v1 : Int32) (v2 : Int32) (s0 : Nat) (s1 : Int32) (f : HF) : Option (Int32 × HF) :=
    (pV f s0 9 0 (.int s1)).bind fun f3 =>
    (gI f3 v0 9 0).bind fun x4 =>
    if x4 ≤ 0 then
      (gR f3 v0 9 5).bind fun x5 =>
      (aI f3 x5 0 v1).bind fun x6 =>
      bW (DX10_show N v0 x6 f3) fun x7 f9 =>
      if v2 < 0 then
        some ((-1 : Int32), f9)
      else
        (gI f9 v0 9 28).bind fun x10 =>
        if x10 ≤ v2 then
          some ((-1 : Int32), f9)
        else
          (gR f9 v0 9 27).bind fun x11 =>
          (aI f9 x11 0 v2).bind fun x12 =>
          some (x12, f9)
    else
      some ((0 : Int32), f3)

def DX10_shown (N : Nat) (this : Nat) (p0 : Int32) (p1 : Int32) (f : HF) : Option (Int32 × HF) :=
  (ck f this 9).bind fun _ =>
  (DX10_no N this p0 f).bind fun x1 =>
  if x1 = 0 then
    DX10_shown_14 N this p0 p1 this (0 : Int32) f
  else
    DX10_shown_14 N this p0 p1 this (1 : Int32) f

set_option maxRecDepth 20000 in
theorem tX10_shown_14 {l : Launch} {g : GT} {sz : Option Nat} (N : Nat)  {r : (Int32 × HF)} : ∀ (v0 : Nat) (v1 : Int32) (v2 : Int32) (s0 : Nat) (s1 : Int32) (f : HF), DX10_shown_14 N v0 v1 v2 s0 s1 f = some r → V l g (fun _ => True) (RX10, cX10_shown, 3, (Option.some Jvm.ClassFile.FieldType.int), [], "shown") 4 (roI (.inl r.1) r.2 sz) 14 [(0, .ref v0), (1, .int v1), (2, .int v2)] [.int s1, .ref s0] f sz 0 0 := by
  intro v0 v1 v2 s0 s1 f h
  unfold DX10_shown_14 at h
  obtain ⟨f3, hf3, h⟩ := ob_some h
  refine v_pI dX10_shown_14 fp_X10_102 hf3 ?_
  refine v_aload_n dX10_shown_17 rfl rfl ?_
  obtain ⟨x4, hx4, h⟩ := ob_some h
  refine v_getI dX10_shown_18 fl_X10_102 hx4 ?_
  refine v_if_le (tgt := 26) dX10_shown_21 (by decide) (fun c15 => ?_) (fun c15 => ?_)
  · replace h := ip_ c15 h
    refine v_aload_n dX10_shown_26 rfl rfl ?_
    refine v_aload_n dX10_shown_27 rfl rfl ?_
    obtain ⟨x5, hx5, h⟩ := ob_some h
    refine v_getR dX10_shown_28 fl_X10_19 hx5 ?_
    refine v_iload_n dX10_shown_31 rfl rfl ?_
    obtain ⟨x6, hx6, h⟩ := ob_some h
    refine v_iald dX10_shown_32 hx6 ?_
    obtain ⟨x7, f9, hx8, h⟩ := bW_some h
    have ehx8 := tX10_show (l := l) (g := g) (sz := sz) N v0 x6 f3 hx8
    refine v_cVU dX10_shown_33 ml_X10_256 ok_X10_show ehx8 (kX10_show N v0 x6 f3 hx8) rfl (by decide) rfl (rest := []) rfl (Nat.le_of_ble_eq_true rfl) ?_
    refine v_iload_n dX10_shown_36 rfl rfl ?_
    refine v_if_lt (tgt := 57) dX10_shown_37 (by decide) (fun c14 => ?_) (fun c14 => ?_)
    · replace h := ip_ c14 h
      refine v_iconst (v := -1) dX10_shown_57 (by decide) ?_
      obtain rfl := Option.some.inj h
      exact v_iret dX10_shown_58 rfl rfl
    · replace h := in_ c14 h
      refine v_iload_n dX10_shown_40 rfl rfl ?_
      refine v_aload_n dX10_shown_41 rfl rfl ?_
      obtain ⟨x10, hx10, h⟩ := ob_some h
      refine v_getI dX10_shown_42 fl_X10_180 hx10 ?_
      refine v_icmp_ge (tgt := 57) dX10_shown_45 (by decide) (fun c13 => ?_) (fun c13 => ?_)
      · replace h := ip_ c13 h
        refine v_iconst (v := -1) dX10_shown_57 (by decide) ?_
        obtain rfl := Option.some.inj h
        exact v_iret dX10_shown_58 rfl rfl
      · replace h := in_ c13 h
        refine v_aload_n dX10_shown_48 rfl rfl ?_
        obtain ⟨x11, hx11, h⟩ := ob_some h
        refine v_getR dX10_shown_49 fl_X10_84 hx11 ?_
        refine v_iload_n dX10_shown_52 rfl rfl ?_
        obtain ⟨x12, hx12, h⟩ := ob_some h
        refine v_iald dX10_shown_53 hx12 ?_
        refine v_goto (tgt := 58) dX10_shown_54 (by decide) ?_
        obtain rfl := Option.some.inj h
        exact v_iret dX10_shown_58 rfl rfl
  · replace h := in_ c15 h
    refine v_iconst (v := 0) dX10_shown_24 (by decide) ?_
    obtain rfl := Option.some.inj h
    exact v_iret dX10_shown_25 rfl rfl

set_option maxRecDepth 20000 in
theorem kX10_shown (N : Nat) (this : Nat) (p0 : Int32) (p1 : Int32) (f : HF) {r : (Int32 × HF)} (h : DX10_shown N this p0 p1 f = some r) : ck f this 9 = some () := by
  unfold DX10_shown at h
  obtain ⟨_, hck, _⟩ := ob_some h
  exact hck

set_option maxRecDepth 20000 in
theorem tX10_shown {l : Launch} {g : GT} {sz : Option Nat} (N : Nat) (this : Nat) (p0 : Int32) (p1 : Int32) (f : HF) {r : (Int32 × HF)} (h : DX10_shown N this p0 p1 f = some r) : Mt l g yX10_shown cX10_shown 3 (Option.some Jvm.ClassFile.FieldType.int) 4 [.ref this, .int p0, .int p1] f sz (roI (.inl r.1) r.2 sz) := by
  unfold DX10_shown at h
  obtain ⟨_, hck, h⟩ := ob_some h
  refine mt_of (by decide) (Nat.le_of_ble_eq_true rfl) (?_ : V l g (fun _ => True) (RX10, cX10_shown, 3, (Option.some Jvm.ClassFile.FieldType.int), [], "shown") 4 (roI (.inl r.1) r.2 sz) 0 [(0, .ref this), (1, .int p0), (2, .int p1)] [] f sz 0 0)
  refine v_aload_n dX10_shown_0 rfl rfl ?_
  refine v_aload_n dX10_shown_1 rfl rfl ?_
  refine v_iload_n dX10_shown_2 rfl rfl ?_
  obtain ⟨x1, hx2, h⟩ := ob_some h
  have ehx2 := tX10_no (l := l) (g := g) (sz := sz) N this p0 f hx2
  refine v_cVI dX10_shown_3 ml_X10_109 ok_X10_no ehx2 (kX10_no N this p0 f hx2) rfl (by decide) rfl (rest := [.ref this]) rfl (Nat.le_of_ble_eq_true rfl) ?_
  refine v_if_eq (tgt := 13) dX10_shown_6 (by decide) (fun c16 => ?_) (fun c16 => ?_)
  · replace h := ip_ c16 h
    refine v_iconst (v := 0) dX10_shown_13 (by decide) ?_
    exact v_sub (vs_c rfl (vs_c rfl (vs_c rfl vs_n))) (tX10_shown_14 N this p0 p1 this (0 : Int32) f h)
  · replace h := in_ c16 h
    refine v_iconst (v := 1) dX10_shown_9 (by decide) ?_
    refine v_goto (tgt := 14) dX10_shown_10 (by decide) ?_
    exact v_sub (vs_c rfl (vs_c rfl (vs_c rfl vs_n))) (tX10_shown_14 N this p0 p1 this (1 : Int32) f h)

/-! X10 cells (R) -/
def DX10_cells (N : Nat) (this : Nat) (p0 : Int32) (f : HF) : Option Int32 :=
  (ck f this 9).bind fun _ =>
  (gR f this 9 2).bind fun x1 =>
  (aI f x1 0 p0).bind fun x2 =>
  if x2 = (1 : Int32) then
    (gR f this 9 15).bind fun x3 =>
    (aI f x3 0 (((5 : Int32) * p0) + (1 : Int32))).bind fun x4 =>
    some x4
  else
    some (0 : Int32)

set_option maxRecDepth 20000 in
theorem kX10_cells (N : Nat) (this : Nat) (p0 : Int32) (f : HF) {r : Int32} (h : DX10_cells N this p0 f = some r) : ck f this 9 = some () := by
  unfold DX10_cells at h
  obtain ⟨_, hck, _⟩ := ob_some h
  exact hck

set_option maxRecDepth 20000 in
theorem tX10_cells {l : Launch} {g : GT} {sz : Option Nat} (N : Nat) (this : Nat) (p0 : Int32) (f : HF) {r : Int32} (h : DX10_cells N this p0 f = some r) : Mt l g yX10_cells cX10_cells 2 (Option.some Jvm.ClassFile.FieldType.int) 0 [.ref this, .int p0] f sz (roI (.inl r) f sz) := by
  unfold DX10_cells at h
  obtain ⟨_, hck, h⟩ := ob_some h
  refine mt_of (by decide) (Nat.le_of_ble_eq_true rfl) (?_ : V l g (fun _ => True) (RX10, cX10_cells, 2, (Option.some Jvm.ClassFile.FieldType.int), [], "cells") 0 (roI (.inl r) f sz) 0 [(0, .ref this), (1, .int p0)] [] f sz 0 0)
  refine v_aload_n dX10_cells_0 rfl rfl ?_
  obtain ⟨x1, hx1, h⟩ := ob_some h
  refine v_getR dX10_cells_1 fl_X10_7 hx1 ?_
  refine v_iload_n dX10_cells_4 rfl rfl ?_
  obtain ⟨x2, hx2, h⟩ := ob_some h
  refine v_iald dX10_cells_5 hx2 ?_
  refine v_iconst (v := 1) dX10_cells_6 (by decide) ?_
  refine v_icmp_ne (tgt := 23) dX10_cells_7 (by decide) (fun c5 => ?_) (fun c5 => ?_)
  · replace h := in_ c5 h
    refine v_iconst (v := 0) dX10_cells_23 (by decide) ?_
    obtain rfl := Option.some.inj h
    exact v_iret dX10_cells_24 rfl rfl
  · replace h := ip_ c5 h
    refine v_aload_n dX10_cells_10 rfl rfl ?_
    obtain ⟨x3, hx3, h⟩ := ob_some h
    refine v_getR dX10_cells_11 fl_X10_50 hx3 ?_
    refine v_iconst (v := 5) dX10_cells_14 (by decide) ?_
    refine v_iload_n dX10_cells_15 rfl rfl ?_
    refine v_imul dX10_cells_16 ?_
    refine v_iconst (v := 1) dX10_cells_17 (by decide) ?_
    refine v_iadd dX10_cells_18 ?_
    obtain ⟨x4, hx4, h⟩ := ob_some h
    refine v_iald dX10_cells_19 hx4 ?_
    refine v_goto (tgt := 24) dX10_cells_20 (by decide) ?_
    obtain rfl := Option.some.inj h
    exact v_iret dX10_cells_24 rfl rfl

/-! X10 sizeOf (W) -/
def DX10_sizeOf_82 (N : Nat) (k39 : Nat → Int32 → Int64 → Int32 → HF → Option (Int32 × HF)) (v0 : Nat) (v1 : Int32) (v3 : Int64) (v5 : Int32) (f : HF) : Option (Int32 × HF) :=
    k39 v0 v1 v3 (v5 / (2 : Int32)) f

def DX10_sizeOf_39 (N : Nat)  (n : Nat) (v0 : Nat) (v1 : Int32) (v3 : Int64) (v5 : Int32) (f : HF) : Option (Int32 × HF) :=
  match n with
  | 0 => none
  | n + 1 =>
    if v5 ≤ (5 : Int32) then
      some ((-6 : Int32), f)
    else
      (gR f v0 9 6).bind fun x9 =>
      (aI f x9 0 v1).bind fun x10 =>
      if (x10.toInt64) < (v3 * (((v5 / (2 : Int32))).toInt64)) then
        DX10_sizeOf_82 N (DX10_sizeOf_39 N n) v0 v1 v3 v5 f
      else
        (gR f v0 9 7).bind fun x11 =>
        (aI f x11 0 v1).bind fun x12 =>
        if x12 < (v5 + (v5 / (4 : Int32))) then
          DX10_sizeOf_82 N (DX10_sizeOf_39 N n) v0 v1 v3 v5 f
        else
          some (v5, f)

def DX10_sizeOf_34 (N : Nat)  (v0 : Nat) (v1 : Int32) (s0 : Int64) (f : HF) : Option (Int32 × HF) :=
    DX10_sizeOf_39 N N v0 v1 s0 (96 : Int32) f

def DX10_sizeOf (N : Nat) (this : Nat) (p0 : Int32) (f : HF) : Option (Int32 × HF) :=
  (ck f this 9).bind fun _ =>
  (gR f this 9 5).bind fun x1 =>
  (aI f x1 0 p0).bind fun x2 =>
  bW (DX10_show N this x2 f) fun x3 f5 =>
  (DX10_cells N this x2 f5).bind fun x6 =>
  if x6 ≤ 0 then
    (gI f5 this 9 28).bind fun x8 =>
    DX10_sizeOf_34 N this p0 (x8.toInt64) f5
  else
    (DX10_cells N this x2 f5).bind fun x16 =>
    DX10_sizeOf_34 N this p0 (x16.toInt64) f5

set_option maxRecDepth 20000 in
theorem tX10_sizeOf_82 {l : Launch} {g : GT} {sz : Option Nat} (N : Nat) (k39 : Nat → Int32 → Int64 → Int32 → HF → Option (Int32 × HF)) {r : (Int32 × HF)} (hk39 : ∀ (w0 : Nat) (w1 : Int32) (w3 : Int64) (w5 : Int32) (f : HF), k39 w0 w1 w3 w5 f = some r → V l g (fun _ => True) (RX10, cX10_sizeOf, 6, (Option.some Jvm.ClassFile.FieldType.int), [], "sizeOf") 4 (roI (.inl r.1) r.2 sz) 39 [(0, .ref w0), (1, .int w1), (3, .long w3), (5, .int w5)] [] f sz 0 0) : ∀ (v0 : Nat) (v1 : Int32) (v3 : Int64) (v5 : Int32) (f : HF), DX10_sizeOf_82 N k39 v0 v1 v3 v5 f = some r → V l g (fun _ => True) (RX10, cX10_sizeOf, 6, (Option.some Jvm.ClassFile.FieldType.int), [], "sizeOf") 4 (roI (.inl r.1) r.2 sz) 82 [(0, .ref v0), (1, .int v1), (3, .long v3), (5, .int v5)] [] f sz 0 0 := by
  intro v0 v1 v3 v5 f h
  unfold DX10_sizeOf_82 at h
  refine v_iload dX10_sizeOf_82 rfl ?_
  refine v_iconst (v := 2) dX10_sizeOf_84 (by decide) ?_
  refine v_idiv dX10_sizeOf_85 (by decide) ?_
  refine v_istore (ls1 := [(5, .int (v5 / (2 : Int32))), (0, .ref v0), (1, .int v1), (3, .long v3)]) dX10_sizeOf_86 (by decide) rfl ?_
  refine v_goto (tgt := 39) dX10_sizeOf_88 (by decide) ?_
  exact v_sub (vs_c rfl (vs_c rfl (vs_c rfl (vs_c rfl vs_n)))) (hk39 v0 v1 v3 (v5 / (2 : Int32)) f h)

set_option maxRecDepth 20000 in
theorem tX10_sizeOf_39 {l : Launch} {g : GT} {sz : Option Nat} (N : Nat)  {r : (Int32 × HF)} : ∀ (n : Nat), ∀ (v0 : Nat) (v1 : Int32) (v3 : Int64) (v5 : Int32) (f : HF), DX10_sizeOf_39 N n v0 v1 v3 v5 f = some r → V l g (fun _ => True) (RX10, cX10_sizeOf, 6, (Option.some Jvm.ClassFile.FieldType.int), [], "sizeOf") 4 (roI (.inl r.1) r.2 sz) 39 [(0, .ref v0), (1, .int v1), (3, .long v3), (5, .int v5)] [] f sz 0 0 := by
  intro n
  induction n with
  | zero => intro v0 v1 v3 v5 f h; cases h
  | succ n ih =>
    intro v0 v1 v3 v5 f h
    rw [DX10_sizeOf_39] at h
    refine v_iload dX10_sizeOf_39 rfl ?_
    refine v_iconst (v := 5) dX10_sizeOf_41 (by decide) ?_
    refine v_icmp_le (tgt := 91) dX10_sizeOf_42 (by decide) (fun c15 => ?_) (fun c15 => ?_)
    · replace h := ip_ c15 h
      refine v_bipush (v := -6) dX10_sizeOf_91 (by decide) ?_
      obtain rfl := Option.some.inj h
      exact v_iret dX10_sizeOf_93 rfl rfl
    · replace h := in_ c15 h
      refine v_lload_n dX10_sizeOf_45 rfl rfl ?_
      refine v_iload dX10_sizeOf_46 rfl ?_
      refine v_iconst (v := 2) dX10_sizeOf_48 (by decide) ?_
      refine v_idiv dX10_sizeOf_49 (by decide) ?_
      refine v_i2l dX10_sizeOf_50 ?_
      refine v_lmul dX10_sizeOf_51 ?_
      refine v_aload_n dX10_sizeOf_52 rfl rfl ?_
      obtain ⟨x9, hx9, h⟩ := ob_some h
      refine v_getR dX10_sizeOf_53 fl_X10_22 hx9 ?_
      refine v_iload_n dX10_sizeOf_56 rfl rfl ?_
      obtain ⟨x10, hx10, h⟩ := ob_some h
      refine v_iald dX10_sizeOf_57 hx10 ?_
      refine v_i2l dX10_sizeOf_58 ?_
      refine v_lcmp_gt (tgt := 82) dX10_sizeOf_59 dX10_sizeOf_60 (by decide) (fun c14 => ?_) (fun c14 => ?_)
      · replace h := ip_ c14 h
        exact v_sub (vs_c rfl (vs_c rfl (vs_c rfl (vs_c rfl vs_n)))) (tX10_sizeOf_82 N (DX10_sizeOf_39 N n) ih v0 v1 v3 v5 f h)
      · replace h := in_ c14 h
        refine v_iload dX10_sizeOf_63 rfl ?_
        refine v_iload dX10_sizeOf_65 rfl ?_
        refine v_iconst (v := 4) dX10_sizeOf_67 (by decide) ?_
        refine v_idiv dX10_sizeOf_68 (by decide) ?_
        refine v_iadd dX10_sizeOf_69 ?_
        refine v_aload_n dX10_sizeOf_70 rfl rfl ?_
        obtain ⟨x11, hx11, h⟩ := ob_some h
        refine v_getR dX10_sizeOf_71 fl_X10_25 hx11 ?_
        refine v_iload_n dX10_sizeOf_74 rfl rfl ?_
        obtain ⟨x12, hx12, h⟩ := ob_some h
        refine v_iald dX10_sizeOf_75 hx12 ?_
        refine v_icmp_gt (tgt := 82) dX10_sizeOf_76 (by decide) (fun c13 => ?_) (fun c13 => ?_)
        · replace h := ip_ c13 h
          exact v_sub (vs_c rfl (vs_c rfl (vs_c rfl (vs_c rfl vs_n)))) (tX10_sizeOf_82 N (DX10_sizeOf_39 N n) ih v0 v1 v3 v5 f h)
        · replace h := in_ c13 h
          refine v_iload dX10_sizeOf_79 rfl ?_
          obtain rfl := Option.some.inj h
          exact v_iret dX10_sizeOf_81 rfl rfl

set_option maxRecDepth 20000 in
theorem tX10_sizeOf_34 {l : Launch} {g : GT} {sz : Option Nat} (N : Nat)  {r : (Int32 × HF)} : ∀ (v0 : Nat) (v1 : Int32) (s0 : Int64) (f : HF), DX10_sizeOf_34 N v0 v1 s0 f = some r → V l g (fun _ => True) (RX10, cX10_sizeOf, 6, (Option.some Jvm.ClassFile.FieldType.int), [], "sizeOf") 4 (roI (.inl r.1) r.2 sz) 34 [(0, .ref v0), (1, .int v1)] [.long s0] f sz 0 0 := by
  intro v0 v1 s0 f h
  unfold DX10_sizeOf_34 at h
  refine v_lstore_n (ls1 := [(3, .long s0), (0, .ref v0), (1, .int v1)]) dX10_sizeOf_34 rfl (by decide) rfl ?_
  refine v_bipush (v := 96) dX10_sizeOf_35 (by decide) ?_
  refine v_istore (ls1 := [(5, .int (96 : Int32)), (3, .long s0), (0, .ref v0), (1, .int v1)]) dX10_sizeOf_37 (by decide) rfl ?_
  exact v_sub (vs_c rfl (vs_c rfl (vs_c rfl (vs_c rfl vs_n)))) (tX10_sizeOf_39 N N v0 v1 s0 (96 : Int32) f h)

set_option maxRecDepth 20000 in
theorem kX10_sizeOf (N : Nat) (this : Nat) (p0 : Int32) (f : HF) {r : (Int32 × HF)} (h : DX10_sizeOf N this p0 f = some r) : ck f this 9 = some () := by
  unfold DX10_sizeOf at h
  obtain ⟨_, hck, _⟩ := ob_some h
  exact hck

set_option maxRecDepth 20000 in
theorem tX10_sizeOf {l : Launch} {g : GT} {sz : Option Nat} (N : Nat) (this : Nat) (p0 : Int32) (f : HF) {r : (Int32 × HF)} (h : DX10_sizeOf N this p0 f = some r) : Mt l g yX10_sizeOf cX10_sizeOf 6 (Option.some Jvm.ClassFile.FieldType.int) 4 [.ref this, .int p0] f sz (roI (.inl r.1) r.2 sz) := by
  unfold DX10_sizeOf at h
  obtain ⟨_, hck, h⟩ := ob_some h
  refine mt_of (by decide) (Nat.le_of_ble_eq_true rfl) (?_ : V l g (fun _ => True) (RX10, cX10_sizeOf, 6, (Option.some Jvm.ClassFile.FieldType.int), [], "sizeOf") 4 (roI (.inl r.1) r.2 sz) 0 [(0, .ref this), (1, .int p0)] [] f sz 0 0)
  refine v_aload_n dX10_sizeOf_0 rfl rfl ?_
  obtain ⟨x1, hx1, h⟩ := ob_some h
  refine v_getR dX10_sizeOf_1 fl_X10_19 hx1 ?_
  refine v_iload_n dX10_sizeOf_4 rfl rfl ?_
  obtain ⟨x2, hx2, h⟩ := ob_some h
  refine v_iald dX10_sizeOf_5 hx2 ?_
  refine v_istore_n (ls1 := [(2, .int x2), (0, .ref this), (1, .int p0)]) dX10_sizeOf_6 rfl (by decide) rfl ?_
  refine v_aload_n dX10_sizeOf_7 rfl rfl ?_
  refine v_iload_n dX10_sizeOf_8 rfl rfl ?_
  obtain ⟨x3, f5, hx4, h⟩ := bW_some h
  have ehx4 := tX10_show (l := l) (g := g) (sz := sz) N this x2 f hx4
  refine v_cVU dX10_sizeOf_9 ml_X10_256 ok_X10_show ehx4 (kX10_show N this x2 f hx4) rfl (by decide) rfl (rest := []) rfl (Nat.le_of_ble_eq_true rfl) ?_
  refine v_aload_n dX10_sizeOf_12 rfl rfl ?_
  refine v_iload_n dX10_sizeOf_13 rfl rfl ?_
  obtain ⟨x6, hx7, h⟩ := ob_some h
  have ehx7 := tX10_cells (l := l) (g := g) (sz := sz) N this x2 f5 hx7
  refine v_cVI dX10_sizeOf_14 ml_X10_259 ok_X10_cells ehx7 (kX10_cells N this x2 f5 hx7) rfl (by decide) rfl (rest := []) rfl (Nat.le_of_ble_eq_true rfl) ?_
  refine v_if_le (tgt := 29) dX10_sizeOf_17 (by decide) (fun c18 => ?_) (fun c18 => ?_)
  · replace h := ip_ c18 h
    refine v_aload_n dX10_sizeOf_29 rfl rfl ?_
    obtain ⟨x8, hx8, h⟩ := ob_some h
    refine v_getI dX10_sizeOf_30 fl_X10_180 hx8 ?_
    refine v_i2l dX10_sizeOf_33 ?_
    exact v_sub (vs_c rfl (vs_c rfl vs_n)) (tX10_sizeOf_34 N this p0 (x8.toInt64) f5 h)
  · replace h := in_ c18 h
    refine v_aload_n dX10_sizeOf_20 rfl rfl ?_
    refine v_iload_n dX10_sizeOf_21 rfl rfl ?_
    obtain ⟨x16, hx17, h⟩ := ob_some h
    have ehx17 := tX10_cells (l := l) (g := g) (sz := sz) N this x2 f5 hx17
    refine v_cVI dX10_sizeOf_22 ml_X10_259 ok_X10_cells ehx17 (kX10_cells N this x2 f5 hx17) rfl (by decide) rfl (rest := []) rfl (Nat.le_of_ble_eq_true rfl) ?_
    refine v_i2l dX10_sizeOf_25 ?_
    refine v_goto (tgt := 34) dX10_sizeOf_26 (by decide) ?_
    exact v_sub (vs_c rfl (vs_c rfl vs_n)) (tX10_sizeOf_34 N this p0 (x16.toInt64) f5 h)

/-! X10 checkField (R) -/
def DX10_checkField (N : Nat) (this : Nat) (p0 : Int32) (f : HF) : Option Int32 :=
  (ck f this 9).bind fun _ =>
  (DX10_no N this p0 f).bind fun x1 =>
  if x1 = 0 then
    (gR f this 9 2).bind fun x3 =>
    (aI f x3 0 p0).bind fun x4 =>
    if x4 = 0 then
      some (2 : Int32)
    else
      some (0 : Int32)
  else
    some (1 : Int32)

set_option maxRecDepth 20000 in
theorem kX10_checkField (N : Nat) (this : Nat) (p0 : Int32) (f : HF) {r : Int32} (h : DX10_checkField N this p0 f = some r) : ck f this 9 = some () := by
  unfold DX10_checkField at h
  obtain ⟨_, hck, _⟩ := ob_some h
  exact hck

set_option maxRecDepth 20000 in
theorem tX10_checkField {l : Launch} {g : GT} {sz : Option Nat} (N : Nat) (this : Nat) (p0 : Int32) (f : HF) {r : Int32} (h : DX10_checkField N this p0 f = some r) : Mt l g yX10_checkField cX10_checkField 2 (Option.some Jvm.ClassFile.FieldType.int) 1 [.ref this, .int p0] f sz (roI (.inl r) f sz) := by
  unfold DX10_checkField at h
  obtain ⟨_, hck, h⟩ := ob_some h
  refine mt_of (by decide) (Nat.le_of_ble_eq_true rfl) (?_ : V l g (fun _ => True) (RX10, cX10_checkField, 2, (Option.some Jvm.ClassFile.FieldType.int), [], "checkField") 1 (roI (.inl r) f sz) 0 [(0, .ref this), (1, .int p0)] [] f sz 0 0)
  refine v_aload_n dX10_checkField_0 rfl rfl ?_
  refine v_iload_n dX10_checkField_1 rfl rfl ?_
  obtain ⟨x1, hx2, h⟩ := ob_some h
  have ehx2 := tX10_no (l := l) (g := g) (sz := sz) N this p0 f hx2
  refine v_cVI dX10_checkField_2 ml_X10_109 ok_X10_no ehx2 (kX10_no N this p0 f hx2) rfl (by decide) rfl (rest := []) rfl (Nat.le_of_ble_eq_true rfl) ?_
  refine v_if_eq (tgt := 12) dX10_checkField_5 (by decide) (fun c6 => ?_) (fun c6 => ?_)
  · replace h := ip_ c6 h
    refine v_aload_n dX10_checkField_12 rfl rfl ?_
    obtain ⟨x3, hx3, h⟩ := ob_some h
    refine v_getR dX10_checkField_13 fl_X10_7 hx3 ?_
    refine v_iload_n dX10_checkField_16 rfl rfl ?_
    obtain ⟨x4, hx4, h⟩ := ob_some h
    refine v_iald dX10_checkField_17 hx4 ?_
    refine v_if_ne (tgt := 25) dX10_checkField_18 (by decide) (fun c5 => ?_) (fun c5 => ?_)
    · replace h := in_ c5 h
      refine v_iconst (v := 0) dX10_checkField_25 (by decide) ?_
      obtain rfl := Option.some.inj h
      exact v_iret dX10_checkField_26 rfl rfl
    · replace h := ip_ c5 h
      refine v_iconst (v := 2) dX10_checkField_21 (by decide) ?_
      refine v_goto (tgt := 26) dX10_checkField_22 (by decide) ?_
      obtain rfl := Option.some.inj h
      exact v_iret dX10_checkField_26 rfl rfl
  · replace h := in_ c6 h
    refine v_iconst (v := 1) dX10_checkField_8 (by decide) ?_
    refine v_goto (tgt := 26) dX10_checkField_9 (by decide) ?_
    obtain rfl := Option.some.inj h
    exact v_iret dX10_checkField_26 rfl rfl

/-! X10 size (W) -/
def DX10_size (N : Nat) (this : Nat) (p0 : Int32) (f : HF) : Option (Int32 × HF) :=
  (ck f this 9).bind fun _ =>
  (DX10_checkField N this p0 f).bind fun x1 =>
  (pV f this 9 0 (.int x1)).bind fun f3 =>
  (gI f3 this 9 0).bind fun x4 =>
  if x4 ≤ 0 then
    bW (DX10_sizeOf N this p0 f3) fun x5 f7 =>
    some (x5, f7)
  else
    some ((0 : Int32), f3)

set_option maxRecDepth 20000 in
theorem kX10_size (N : Nat) (this : Nat) (p0 : Int32) (f : HF) {r : (Int32 × HF)} (h : DX10_size N this p0 f = some r) : ck f this 9 = some () := by
  unfold DX10_size at h
  obtain ⟨_, hck, _⟩ := ob_some h
  exact hck

set_option maxRecDepth 20000 in
theorem tX10_size {l : Launch} {g : GT} {sz : Option Nat} (N : Nat) (this : Nat) (p0 : Int32) (f : HF) {r : (Int32 × HF)} (h : DX10_size N this p0 f = some r) : Mt l g yX10_size cX10_size 2 (Option.some Jvm.ClassFile.FieldType.int) 5 [.ref this, .int p0] f sz (roI (.inl r.1) r.2 sz) := by
  unfold DX10_size at h
  obtain ⟨_, hck, h⟩ := ob_some h
  refine mt_of (by decide) (Nat.le_of_ble_eq_true rfl) (?_ : V l g (fun _ => True) (RX10, cX10_size, 2, (Option.some Jvm.ClassFile.FieldType.int), [], "size") 5 (roI (.inl r.1) r.2 sz) 0 [(0, .ref this), (1, .int p0)] [] f sz 0 0)
  refine v_aload_n dX10_size_0 rfl rfl ?_
  refine v_aload_n dX10_size_1 rfl rfl ?_
  refine v_iload_n dX10_size_2 rfl rfl ?_
  obtain ⟨x1, hx2, h⟩ := ob_some h
  have ehx2 := tX10_checkField (l := l) (g := g) (sz := sz) N this p0 f hx2
  refine v_cVI dX10_size_3 ml_X10_262 ok_X10_checkField ehx2 (kX10_checkField N this p0 f hx2) rfl (by decide) rfl (rest := [.ref this]) rfl (Nat.le_of_ble_eq_true rfl) ?_
  obtain ⟨f3, hf3, h⟩ := ob_some h
  refine v_pI dX10_size_6 fp_X10_102 hf3 ?_
  refine v_aload_n dX10_size_9 rfl rfl ?_
  obtain ⟨x4, hx4, h⟩ := ob_some h
  refine v_getI dX10_size_10 fl_X10_102 hx4 ?_
  refine v_if_le (tgt := 20) dX10_size_13 (by decide) (fun c8 => ?_) (fun c8 => ?_)
  · replace h := ip_ c8 h
    refine v_aload_n dX10_size_20 rfl rfl ?_
    refine v_iload_n dX10_size_21 rfl rfl ?_
    obtain ⟨x5, f7, hx6, h⟩ := bW_some h
    have ehx6 := tX10_sizeOf (l := l) (g := g) (sz := sz) N this p0 f3 hx6
    refine v_cVI dX10_size_22 ml_X10_265 ok_X10_sizeOf ehx6 (kX10_sizeOf N this p0 f3 hx6) rfl (by decide) rfl (rest := []) rfl (Nat.le_of_ble_eq_true rfl) ?_
    obtain rfl := Option.some.inj h
    exact v_iret dX10_size_25 rfl rfl
  · replace h := in_ c8 h
    refine v_iconst (v := 0) dX10_size_16 (by decide) ?_
    refine v_goto (tgt := 25) dX10_size_17 (by decide) ?_
    obtain rfl := Option.some.inj h
    exact v_iret dX10_size_25 rfl rfl

/-! X10 validate (W) -/
def DX10_validate_111 (N : Nat)  (v0 : Nat) (v2 : Int32) (f : HF) : Option (Int32 × HF) :=
    (gR f v0 9 2).bind fun x13 =>
    (aI f x13 0 v2).bind fun x14 =>
    if x14 = (5 : Int32) then
      (gR f v0 9 11).bind fun x15 =>
      (aI f x15 0 v2).bind fun x16 =>
      if x16 = 0 then
        some ((1 : Int32), f)
      else
        (DX10_amountOf N v0 v2 f).bind fun x17 =>
        if x17 = (9000000000000000000 : Int64) then
          some ((3 : Int32), f)
        else
          (gR f v0 9 16).bind fun x19 =>
          (aL f x19 v2).bind fun x20 =>
          if x20 ≤ x17 then
            (gR f v0 9 17).bind fun x21 =>
            (aL f x21 v2).bind fun x22 =>
            if x17 ≤ x22 then
              some ((1 : Int32), f)
            else
              some ((5 : Int32), f)
          else
            some ((4 : Int32), f)
    else
      some ((1 : Int32), f)

def DX10_validate_92 (N : Nat)  (v0 : Nat) (v2 : Int32) (s0 : Int32) (f : HF) : Option (Int32 × HF) :=
    if s0 = 0 then
      DX10_validate_111 N v0 v2 f
    else
      (gR f v0 9 15).bind fun x28 =>
      (aI f x28 0 ((5 : Int32) * v2)).bind fun x29 =>
      if x29 = (1 : Int32) then
        some ((2 : Int32), f)
      else
        DX10_validate_111 N v0 v2 f

def DX10_validate (N : Nat) (this : Nat) (p0 : Int32) (f : HF) : Option (Int32 × HF) :=
  (ck f this 9).bind fun _ =>
  (DX10_checkField N this p0 f).bind fun x1 =>
  (pV f this 9 0 (.int x1)).bind fun f3 =>
  (gI f3 this 9 0).bind fun x4 =>
  if x4 ≤ 0 then
    (gR f3 this 9 5).bind fun x5 =>
    (aI f3 x5 0 p0).bind fun x6 =>
    (DX10_isSigned N this x6 f3).bind fun x7 =>
    if x7 = 0 then
      (gR f3 this 9 2).bind fun x9 =>
      (aI f3 x9 0 x6).bind fun x10 =>
      if x10 = (2 : Int32) then
        (gR f3 this 9 12).bind fun x33 =>
        (aI f3 x33 0 x6).bind fun x34 =>
        if x34 = 0 then
          DX10_validate_92 N this x6 (1 : Int32) f3
        else
          DX10_validate_92 N this x6 (0 : Int32) f3
      else
        (gR f3 this 9 12).bind fun x11 =>
        (aI f3 x11 0 x6).bind fun x12 =>
        if x12 = (-1 : Int32) then
          DX10_validate_92 N this x6 (1 : Int32) f3
        else
          DX10_validate_92 N this x6 (0 : Int32) f3
    else
      (gR f3 this 9 11).bind fun x37 =>
      (aI f3 x37 0 x6).bind fun x38 =>
      if x38 = 0 then
        DX10_validate_92 N this x6 (1 : Int32) f3
      else
        DX10_validate_92 N this x6 (0 : Int32) f3
  else
    some ((0 : Int32), f3)

set_option maxRecDepth 20000 in
theorem tX10_validate_111 {l : Launch} {g : GT} {sz : Option Nat} (N : Nat)  {r : (Int32 × HF)} : ∀ (v0 : Nat) (v2 : Int32) (f : HF), DX10_validate_111 N v0 v2 f = some r → V l g (fun _ => True) (RX10, cX10_validate, 6, (Option.some Jvm.ClassFile.FieldType.int), [], "validate") 2 (roI (.inl r.1) r.2 sz) 111 [(0, .ref v0), (2, .int v2)] [] f sz 0 0 := by
  intro v0 v2 f h
  unfold DX10_validate_111 at h
  refine v_aload_n dX10_validate_111 rfl rfl ?_
  obtain ⟨x13, hx13, h⟩ := ob_some h
  refine v_getR dX10_validate_112 fl_X10_7 hx13 ?_
  refine v_iload_n dX10_validate_115 rfl rfl ?_
  obtain ⟨x14, hx14, h⟩ := ob_some h
  refine v_iald dX10_validate_116 hx14 ?_
  refine v_iconst (v := 5) dX10_validate_117 (by decide) ?_
  refine v_icmp_ne (tgt := 130) dX10_validate_118 (by decide) (fun c27 => ?_) (fun c27 => ?_)
  · replace h := in_ c27 h
    refine v_iconst (v := 1) dX10_validate_130 (by decide) ?_
    obtain rfl := Option.some.inj h
    exact v_iret dX10_validate_131 rfl rfl
  · replace h := ip_ c27 h
    refine v_aload_n dX10_validate_121 rfl rfl ?_
    obtain ⟨x15, hx15, h⟩ := ob_some h
    refine v_getR dX10_validate_122 fl_X10_38 hx15 ?_
    refine v_iload_n dX10_validate_125 rfl rfl ?_
    obtain ⟨x16, hx16, h⟩ := ob_some h
    refine v_iald dX10_validate_126 hx16 ?_
    refine v_if_ne (tgt := 132) dX10_validate_127 (by decide) (fun c26 => ?_) (fun c26 => ?_)
    · replace h := in_ c26 h
      refine v_aload_n dX10_validate_132 rfl rfl ?_
      refine v_iload_n dX10_validate_133 rfl rfl ?_
      obtain ⟨x17, hx18, h⟩ := ob_some h
      have ehx18 := tX10_amountOf (l := l) (g := g) (sz := sz) N v0 v2 f hx18
      refine v_cVL dX10_validate_134 ml_X10_209 ok_X10_amountOf ehx18 (kX10_amountOf N v0 v2 f hx18) rfl (by decide) rfl (rest := []) rfl (Nat.le_of_ble_eq_true rfl) ?_
      refine v_lstore (ls1 := [(4, .long x17), (0, .ref v0), (2, .int v2)]) dX10_validate_137 (by decide) rfl ?_
      refine v_lload dX10_validate_139 rfl ?_
      refine v_ldc2 dX10_validate_141 kc_X10_178 ?_
      refine v_lcmp_ne (tgt := 152) dX10_validate_144 dX10_validate_145 (by decide) (fun c25 => ?_) (fun c25 => ?_)
      · replace h := in_ c25 h
        refine v_lload dX10_validate_152 rfl ?_
        refine v_aload_n dX10_validate_154 rfl rfl ?_
        obtain ⟨x19, hx19, h⟩ := ob_some h
        refine v_getR dX10_validate_155 fl_X10_53 hx19 ?_
        refine v_iload_n dX10_validate_158 rfl rfl ?_
        obtain ⟨x20, hx20, h⟩ := ob_some h
        refine v_lald dX10_validate_159 hx20 ?_
        refine v_lcmp_ge (tgt := 168) dX10_validate_160 dX10_validate_161 (by decide) (fun c24 => ?_) (fun c24 => ?_)
        · replace h := ip_ c24 h
          refine v_lload dX10_validate_168 rfl ?_
          refine v_aload_n dX10_validate_170 rfl rfl ?_
          obtain ⟨x21, hx21, h⟩ := ob_some h
          refine v_getR dX10_validate_171 fl_X10_57 hx21 ?_
          refine v_iload_n dX10_validate_174 rfl rfl ?_
          obtain ⟨x22, hx22, h⟩ := ob_some h
          refine v_lald dX10_validate_175 hx22 ?_
          refine v_lcmp_le (tgt := 184) dX10_validate_176 dX10_validate_177 (by decide) (fun c23 => ?_) (fun c23 => ?_)
          · replace h := ip_ c23 h
            refine v_iconst (v := 1) dX10_validate_184 (by decide) ?_
            obtain rfl := Option.some.inj h
            exact v_iret dX10_validate_185 rfl rfl
          · replace h := in_ c23 h
            refine v_iconst (v := 5) dX10_validate_180 (by decide) ?_
            refine v_goto (tgt := 185) dX10_validate_181 (by decide) ?_
            obtain rfl := Option.some.inj h
            exact v_iret dX10_validate_185 rfl rfl
        · replace h := in_ c24 h
          refine v_iconst (v := 4) dX10_validate_164 (by decide) ?_
          refine v_goto (tgt := 185) dX10_validate_165 (by decide) ?_
          obtain rfl := Option.some.inj h
          exact v_iret dX10_validate_185 rfl rfl
      · replace h := ip_ c25 h
        refine v_iconst (v := 3) dX10_validate_148 (by decide) ?_
        refine v_goto (tgt := 185) dX10_validate_149 (by decide) ?_
        obtain rfl := Option.some.inj h
        exact v_iret dX10_validate_185 rfl rfl
    · replace h := ip_ c26 h
      refine v_iconst (v := 1) dX10_validate_130 (by decide) ?_
      obtain rfl := Option.some.inj h
      exact v_iret dX10_validate_131 rfl rfl

set_option maxRecDepth 20000 in
theorem tX10_validate_92 {l : Launch} {g : GT} {sz : Option Nat} (N : Nat)  {r : (Int32 × HF)} : ∀ (v0 : Nat) (v2 : Int32) (s0 : Int32) (f : HF), DX10_validate_92 N v0 v2 s0 f = some r → V l g (fun _ => True) (RX10, cX10_validate, 6, (Option.some Jvm.ClassFile.FieldType.int), [], "validate") 2 (roI (.inl r.1) r.2 sz) 92 [(0, .ref v0), (2, .int v2)] [.int s0] f sz 0 0 := by
  intro v0 v2 s0 f h
  unfold DX10_validate_92 at h
  refine v_istore_n (ls1 := [(3, .int s0), (0, .ref v0), (2, .int v2)]) dX10_validate_92 rfl (by decide) rfl ?_
  refine v_iload_n dX10_validate_93 rfl rfl ?_
  refine v_if_eq (tgt := 111) dX10_validate_94 (by decide) (fun c31 => ?_) (fun c31 => ?_)
  · replace h := ip_ c31 h
    exact v_sub (vs_c rfl (vs_c rfl vs_n)) (tX10_validate_111 N v0 v2 f h)
  · replace h := in_ c31 h
    refine v_aload_n dX10_validate_97 rfl rfl ?_
    obtain ⟨x28, hx28, h⟩ := ob_some h
    refine v_getR dX10_validate_98 fl_X10_50 hx28 ?_
    refine v_iconst (v := 5) dX10_validate_101 (by decide) ?_
    refine v_iload_n dX10_validate_102 rfl rfl ?_
    refine v_imul dX10_validate_103 ?_
    obtain ⟨x29, hx29, h⟩ := ob_some h
    refine v_iald dX10_validate_104 hx29 ?_
    refine v_iconst (v := 1) dX10_validate_105 (by decide) ?_
    refine v_icmp_ne (tgt := 111) dX10_validate_106 (by decide) (fun c30 => ?_) (fun c30 => ?_)
    · replace h := in_ c30 h
      exact v_sub (vs_c rfl (vs_c rfl vs_n)) (tX10_validate_111 N v0 v2 f h)
    · replace h := ip_ c30 h
      refine v_iconst (v := 2) dX10_validate_109 (by decide) ?_
      obtain rfl := Option.some.inj h
      exact v_iret dX10_validate_110 rfl rfl

set_option maxRecDepth 20000 in
theorem kX10_validate (N : Nat) (this : Nat) (p0 : Int32) (f : HF) {r : (Int32 × HF)} (h : DX10_validate N this p0 f = some r) : ck f this 9 = some () := by
  unfold DX10_validate at h
  obtain ⟨_, hck, _⟩ := ob_some h
  exact hck

set_option maxRecDepth 20000 in
theorem tX10_validate {l : Launch} {g : GT} {sz : Option Nat} (N : Nat) (this : Nat) (p0 : Int32) (f : HF) {r : (Int32 × HF)} (h : DX10_validate N this p0 f = some r) : Mt l g yX10_validate cX10_validate 6 (Option.some Jvm.ClassFile.FieldType.int) 2 [.ref this, .int p0] f sz (roI (.inl r.1) r.2 sz) := by
  unfold DX10_validate at h
  obtain ⟨_, hck, h⟩ := ob_some h
  refine mt_of (by decide) (Nat.le_of_ble_eq_true rfl) (?_ : V l g (fun _ => True) (RX10, cX10_validate, 6, (Option.some Jvm.ClassFile.FieldType.int), [], "validate") 2 (roI (.inl r.1) r.2 sz) 0 [(0, .ref this), (1, .int p0)] [] f sz 0 0)
  refine v_aload_n dX10_validate_0 rfl rfl ?_
  refine v_aload_n dX10_validate_1 rfl rfl ?_
  refine v_iload_n dX10_validate_2 rfl rfl ?_
  obtain ⟨x1, hx2, h⟩ := ob_some h
  have ehx2 := tX10_checkField (l := l) (g := g) (sz := sz) N this p0 f hx2
  refine v_cVI dX10_validate_3 ml_X10_262 ok_X10_checkField ehx2 (kX10_checkField N this p0 f hx2) rfl (by decide) rfl (rest := [.ref this]) rfl (Nat.le_of_ble_eq_true rfl) ?_
  obtain ⟨f3, hf3, h⟩ := ob_some h
  refine v_pI dX10_validate_6 fp_X10_102 hf3 ?_
  refine v_aload_n dX10_validate_9 rfl rfl ?_
  obtain ⟨x4, hx4, h⟩ := ob_some h
  refine v_getI dX10_validate_10 fl_X10_102 hx4 ?_
  refine v_if_le (tgt := 18) dX10_validate_13 (by decide) (fun c41 => ?_) (fun c41 => ?_)
  · replace h := ip_ c41 h
    refine v_aload_n dX10_validate_18 rfl rfl ?_
    obtain ⟨x5, hx5, h⟩ := ob_some h
    refine v_getR dX10_validate_19 fl_X10_19 hx5 ?_
    refine v_iload_n dX10_validate_22 rfl rfl ?_
    obtain ⟨x6, hx6, h⟩ := ob_some h
    refine v_iald dX10_validate_23 hx6 ?_
    refine v_istore_n (ls1 := [(2, .int x6), (0, .ref this), (1, .int p0)]) dX10_validate_24 rfl (by decide) rfl ?_
    refine v_aload_n dX10_validate_25 rfl rfl ?_
    refine v_iload_n dX10_validate_26 rfl rfl ?_
    obtain ⟨x7, hx8, h⟩ := ob_some h
    have ehx8 := tX10_isSigned (l := l) (g := g) (sz := sz) N this x6 f3 hx8
    refine v_cVI dX10_validate_27 ml_X10_140 ok_X10_isSigned ehx8 (kX10_isSigned N this x6 f3 hx8) rfl (by decide) rfl (rest := []) rfl (Nat.le_of_ble_eq_true rfl) ?_
    refine v_if_eq (tgt := 50) dX10_validate_30 (by decide) (fun c40 => ?_) (fun c40 => ?_)
    · replace h := ip_ c40 h
      refine v_aload_n dX10_validate_50 rfl rfl ?_
      obtain ⟨x9, hx9, h⟩ := ob_some h
      refine v_getR dX10_validate_51 fl_X10_7 hx9 ?_
      refine v_iload_n dX10_validate_54 rfl rfl ?_
      obtain ⟨x10, hx10, h⟩ := ob_some h
      refine v_iald dX10_validate_55 hx10 ?_
      refine v_iconst (v := 2) dX10_validate_56 (by decide) ?_
      refine v_icmp_ne (tgt := 77) dX10_validate_57 (by decide) (fun c36 => ?_) (fun c36 => ?_)
      · replace h := in_ c36 h
        refine v_aload_n dX10_validate_77 rfl rfl ?_
        obtain ⟨x11, hx11, h⟩ := ob_some h
        refine v_getR dX10_validate_78 fl_X10_41 hx11 ?_
        refine v_iload_n dX10_validate_81 rfl rfl ?_
        obtain ⟨x12, hx12, h⟩ := ob_some h
        refine v_iald dX10_validate_82 hx12 ?_
        refine v_iconst (v := -1) dX10_validate_83 (by decide) ?_
        refine v_icmp_ne (tgt := 91) dX10_validate_84 (by decide) (fun c32 => ?_) (fun c32 => ?_)
        · replace h := in_ c32 h
          refine v_iconst (v := 0) dX10_validate_91 (by decide) ?_
          exact v_sub (vs_c rfl (vs_c rfl vs_n)) (tX10_validate_92 N this x6 (0 : Int32) f3 h)
        · replace h := ip_ c32 h
          refine v_iconst (v := 1) dX10_validate_87 (by decide) ?_
          refine v_goto (tgt := 92) dX10_validate_88 (by decide) ?_
          exact v_sub (vs_c rfl (vs_c rfl vs_n)) (tX10_validate_92 N this x6 (1 : Int32) f3 h)
      · replace h := ip_ c36 h
        refine v_aload_n dX10_validate_60 rfl rfl ?_
        obtain ⟨x33, hx33, h⟩ := ob_some h
        refine v_getR dX10_validate_61 fl_X10_41 hx33 ?_
        refine v_iload_n dX10_validate_64 rfl rfl ?_
        obtain ⟨x34, hx34, h⟩ := ob_some h
        refine v_iald dX10_validate_65 hx34 ?_
        refine v_if_ne (tgt := 73) dX10_validate_66 (by decide) (fun c35 => ?_) (fun c35 => ?_)
        · replace h := in_ c35 h
          refine v_iconst (v := 0) dX10_validate_73 (by decide) ?_
          refine v_goto (tgt := 92) dX10_validate_74 (by decide) ?_
          exact v_sub (vs_c rfl (vs_c rfl vs_n)) (tX10_validate_92 N this x6 (0 : Int32) f3 h)
        · replace h := ip_ c35 h
          refine v_iconst (v := 1) dX10_validate_69 (by decide) ?_
          refine v_goto (tgt := 92) dX10_validate_70 (by decide) ?_
          exact v_sub (vs_c rfl (vs_c rfl vs_n)) (tX10_validate_92 N this x6 (1 : Int32) f3 h)
    · replace h := in_ c40 h
      refine v_aload_n dX10_validate_33 rfl rfl ?_
      obtain ⟨x37, hx37, h⟩ := ob_some h
      refine v_getR dX10_validate_34 fl_X10_38 hx37 ?_
      refine v_iload_n dX10_validate_37 rfl rfl ?_
      obtain ⟨x38, hx38, h⟩ := ob_some h
      refine v_iald dX10_validate_38 hx38 ?_
      refine v_if_ne (tgt := 46) dX10_validate_39 (by decide) (fun c39 => ?_) (fun c39 => ?_)
      · replace h := in_ c39 h
        refine v_iconst (v := 0) dX10_validate_46 (by decide) ?_
        refine v_goto (tgt := 92) dX10_validate_47 (by decide) ?_
        exact v_sub (vs_c rfl (vs_c rfl vs_n)) (tX10_validate_92 N this x6 (0 : Int32) f3 h)
      · replace h := ip_ c39 h
        refine v_iconst (v := 1) dX10_validate_42 (by decide) ?_
        refine v_goto (tgt := 92) dX10_validate_43 (by decide) ?_
        exact v_sub (vs_c rfl (vs_c rfl vs_n)) (tX10_validate_92 N this x6 (1 : Int32) f3 h)
  · replace h := in_ c41 h
    refine v_iconst (v := 0) dX10_validate_16 (by decide) ?_
    obtain rfl := Option.some.inj h
    exact v_iret dX10_validate_17 rfl rfl

/-! X10 mark (W) -/
def DX10_mark (N : Nat) (p0 : Nat) (p1 : Int32) (p2 : Int32) (p3 : Int32) (p4 : Int32) (p5 : Int32) (f : HF) : Option (Unit × HF) :=
  (sI f p0 0 ((4 : Int32) * p1) p2).bind fun f1 =>
  (sI f1 p0 0 (((4 : Int32) * p1) + (1 : Int32)) p3).bind fun f2 =>
  (sI f2 p0 0 (((4 : Int32) * p1) + (2 : Int32)) p4).bind fun f3 =>
  (sI f3 p0 0 (((4 : Int32) * p1) + (3 : Int32)) p5).bind fun f4 =>
  some ((), f4)

set_option maxRecDepth 20000 in
theorem tX10_mark {l : Launch} {g : GT} {sz : Option Nat} (N : Nat) (p0 : Nat) (p1 : Int32) (p2 : Int32) (p3 : Int32) (p4 : Int32) (p5 : Int32) (f : HF) {r : (Unit × HF)} (h : DX10_mark N p0 p1 p2 p3 p4 p5 f = some r) : Mt l g yX10_mark cX10_mark 6 (Option.none : Option Jvm.ClassFile.FieldType) 0 [.ref p0, .int p1, .int p2, .int p3, .int p4, .int p5] f sz (roU (.inl r.1) r.2 sz) := by
  unfold DX10_mark at h
  refine mt_of (by decide) (Nat.le_of_ble_eq_true rfl) (?_ : V l g (fun _ => True) (RX10, cX10_mark, 6, (Option.none : Option Jvm.ClassFile.FieldType), [], "mark") 0 (roU (.inl r.1) r.2 sz) 0 [(0, .ref p0), (1, .int p1), (2, .int p2), (3, .int p3), (4, .int p4), (5, .int p5)] [] f sz 0 0)
  refine v_aload_n dX10_mark_0 rfl rfl ?_
  refine v_iconst (v := 4) dX10_mark_1 (by decide) ?_
  refine v_iload_n dX10_mark_2 rfl rfl ?_
  refine v_imul dX10_mark_3 ?_
  refine v_iload_n dX10_mark_4 rfl rfl ?_
  obtain ⟨f1, hf1, h⟩ := ob_some h
  refine v_iast dX10_mark_5 hf1 ?_
  refine v_aload_n dX10_mark_6 rfl rfl ?_
  refine v_iconst (v := 4) dX10_mark_7 (by decide) ?_
  refine v_iload_n dX10_mark_8 rfl rfl ?_
  refine v_imul dX10_mark_9 ?_
  refine v_iconst (v := 1) dX10_mark_10 (by decide) ?_
  refine v_iadd dX10_mark_11 ?_
  refine v_iload_n dX10_mark_12 rfl rfl ?_
  obtain ⟨f2, hf2, h⟩ := ob_some h
  refine v_iast dX10_mark_13 hf2 ?_
  refine v_aload_n dX10_mark_14 rfl rfl ?_
  refine v_iconst (v := 4) dX10_mark_15 (by decide) ?_
  refine v_iload_n dX10_mark_16 rfl rfl ?_
  refine v_imul dX10_mark_17 ?_
  refine v_iconst (v := 2) dX10_mark_18 (by decide) ?_
  refine v_iadd dX10_mark_19 ?_
  refine v_iload dX10_mark_20 rfl ?_
  obtain ⟨f3, hf3, h⟩ := ob_some h
  refine v_iast dX10_mark_22 hf3 ?_
  refine v_aload_n dX10_mark_23 rfl rfl ?_
  refine v_iconst (v := 4) dX10_mark_24 (by decide) ?_
  refine v_iload_n dX10_mark_25 rfl rfl ?_
  refine v_imul dX10_mark_26 ?_
  refine v_iconst (v := 3) dX10_mark_27 (by decide) ?_
  refine v_iadd dX10_mark_28 ?_
  refine v_iload dX10_mark_29 rfl ?_
  obtain ⟨f4, hf4, h⟩ := ob_some h
  refine v_iast dX10_mark_31 hf4 ?_
  obtain rfl := Option.some.inj h
  exact v_vret dX10_mark_32 rfl rfl

/-! X10 make (W) -/
def DX10_make_142 (N : Nat) (k94 : Nat → Int32 → Nat → Int32 → Int32 → Int32 → Int32 → Int32 → HF → Option (Int32 × HF)) (v0 : Nat) (v1 : Int32) (v2 : Nat) (v4 : Int32) (v5 : Int32) (v6 : Int32) (v8 : Int32) (v9 : Int32) (s0 : Int32) (f : HF) : Option (Int32 × HF) :=
    (gR f v0 9 27).bind fun x22 =>
    (aI f x22 0 v9).bind fun x23 =>
    (gR f v0 9 7).bind fun x24 =>
    (aI f x24 0 v1).bind fun x25 =>
    bW (DX10_mark N v2 (v9 + (1 : Int32)) x23 s0 ((x25 - v4) / (2 : Int32)) v4 f) fun x26 f28 =>
    k94 v0 v1 v2 v4 v5 v6 v8 (v9 + 1) f28

def DX10_make_94 (N : Nat)  (n : Nat) (v0 : Nat) (v1 : Int32) (v2 : Nat) (v4 : Int32) (v5 : Int32) (v6 : Int32) (v8 : Int32) (v9 : Int32) (f : HF) : Option (Int32 × HF) :=
  match n with
  | 0 => none
  | n + 1 =>
    (gI f v0 9 28).bind fun x20 =>
    if x20 ≤ v9 then
      (gI f v0 9 28).bind fun x21 =>
      some ((x21 + (1 : Int32)), f)
    else
      if v5 ≤ 0 then
        DX10_make_142 N (DX10_make_94 N n) v0 v1 v2 v4 v5 v6 v8 v9 (v8 + (v9 * (v4 / (2 : Int32)))) f
      else
        if ¬ v5 = 0 then
        if ¬ v5 = 0 then
        DX10_make_142 N (DX10_make_94 N n) v0 v1 v2 v4 v5 v6 v8 v9 (((v9 * v6) / v5) + (((v6 / v5) - (v4 / (2 : Int32))) / (2 : Int32))) f
        else none
        else none

def DX10_make_80 (N : Nat)  (v0 : Nat) (v1 : Int32) (v2 : Nat) (v4 : Int32) (v5 : Int32) (v6 : Int32) (s0 : Int32) (f : HF) : Option (Int32 × HF) :=
    bW (DX10_mark N v2 (0 : Int32) (0 : Int32) (0 : Int32) (0 : Int32) (0 : Int32) f) fun x17 f19 =>
    DX10_make_94 N N v0 v1 v2 v4 v5 v6 s0 (0 : Int32) f19

def DX10_make (N : Nat) (this : Nat) (p0 : Int32) (p1 : Nat) (f : HF) : Option (Int32 × HF) :=
  (ck f this 9).bind fun _ =>
  (gR f this 9 5).bind fun x1 =>
  (aI f x1 0 p0).bind fun x2 =>
  bW (DX10_sizeOf N this p0 f) fun x3 f5 =>
  (DX10_abs N (x3.toInt64) f5).bind fun x6 =>
  (DX10_cells N this x2 f5).bind fun x8 =>
  (gR f5 this 9 6).bind fun x10 =>
  (aI f5 x10 0 p0).bind fun x11 =>
  (gI f5 this 9 28).bind fun x12 =>
  (gR f5 this 9 8).bind fun x13 =>
  (aI f5 x13 0 p0).bind fun x14 =>
  if x14 = 0 then
    DX10_make_80 N this p0 p1 ((x6).toInt32) x8 x11 (0 : Int32) f5
  else
    (gR f5 this 9 8).bind fun x15 =>
    (aI f5 x15 0 p0).bind fun x16 =>
    if x16 = (1 : Int32) then
      DX10_make_80 N this p0 p1 ((x6).toInt32) x8 x11 ((x11 - (x12 * (((x6).toInt32) / (2 : Int32)))) / (2 : Int32)) f5
    else
      DX10_make_80 N this p0 p1 ((x6).toInt32) x8 x11 (x11 - (x12 * (((x6).toInt32) / (2 : Int32)))) f5

set_option maxRecDepth 20000 in
theorem tX10_make_142 {l : Launch} {g : GT} {sz : Option Nat} (N : Nat) (k94 : Nat → Int32 → Nat → Int32 → Int32 → Int32 → Int32 → Int32 → HF → Option (Int32 × HF)) {r : (Int32 × HF)} (hk94 : ∀ (w0 : Nat) (w1 : Int32) (w2 : Nat) (w4 : Int32) (w5 : Int32) (w6 : Int32) (w8 : Int32) (w9 : Int32) (f : HF), k94 w0 w1 w2 w4 w5 w6 w8 w9 f = some r → V l g (fun _ => True) (RX10, cX10_make, 11, (Option.some Jvm.ClassFile.FieldType.int), [], "make") 5 (roI (.inl r.1) r.2 sz) 94 [(0, .ref w0), (1, .int w1), (2, .ref w2), (4, .int w4), (5, .int w5), (6, .int w6), (8, .int w8), (9, .int w9)] [] f sz 0 0) : ∀ (v0 : Nat) (v1 : Int32) (v2 : Nat) (v4 : Int32) (v5 : Int32) (v6 : Int32) (v8 : Int32) (v9 : Int32) (s0 : Int32) (f : HF), DX10_make_142 N k94 v0 v1 v2 v4 v5 v6 v8 v9 s0 f = some r → V l g (fun _ => True) (RX10, cX10_make, 11, (Option.some Jvm.ClassFile.FieldType.int), [], "make") 5 (roI (.inl r.1) r.2 sz) 142 [(0, .ref v0), (1, .int v1), (2, .ref v2), (4, .int v4), (5, .int v5), (6, .int v6), (8, .int v8), (9, .int v9)] [.int s0] f sz 0 0 := by
  intro v0 v1 v2 v4 v5 v6 v8 v9 s0 f h
  unfold DX10_make_142 at h
  refine v_istore (ls1 := [(10, .int s0), (0, .ref v0), (1, .int v1), (2, .ref v2), (4, .int v4), (5, .int v5), (6, .int v6), (8, .int v8), (9, .int v9)]) dX10_make_142 (by decide) rfl ?_
  refine v_aload_n dX10_make_144 rfl rfl ?_
  refine v_iload dX10_make_145 rfl ?_
  refine v_iconst (v := 1) dX10_make_147 (by decide) ?_
  refine v_iadd dX10_make_148 ?_
  refine v_aload_n dX10_make_149 rfl rfl ?_
  obtain ⟨x22, hx22, h⟩ := ob_some h
  refine v_getR dX10_make_150 fl_X10_84 hx22 ?_
  refine v_iload dX10_make_153 rfl ?_
  obtain ⟨x23, hx23, h⟩ := ob_some h
  refine v_iald dX10_make_155 hx23 ?_
  refine v_iload dX10_make_156 rfl ?_
  refine v_aload_n dX10_make_158 rfl rfl ?_
  obtain ⟨x24, hx24, h⟩ := ob_some h
  refine v_getR dX10_make_159 fl_X10_25 hx24 ?_
  refine v_iload_n dX10_make_162 rfl rfl ?_
  obtain ⟨x25, hx25, h⟩ := ob_some h
  refine v_iald dX10_make_163 hx25 ?_
  refine v_iload dX10_make_164 rfl ?_
  refine v_isub dX10_make_166 ?_
  refine v_iconst (v := 2) dX10_make_167 (by decide) ?_
  refine v_idiv dX10_make_168 (by decide) ?_
  refine v_iload dX10_make_169 rfl ?_
  obtain ⟨x26, f28, hx27, h⟩ := bW_some h
  have ehx27 := tX10_mark (l := l) (g := g) (sz := sz) N v2 (v9 + (1 : Int32)) x23 s0 ((x25 - v4) / (2 : Int32)) v4 f hx27
  refine v_cSU dX10_make_171 ml_X10_268 ok_X10_mark ehx27 (by decide) rfl (rest := []) rfl (Nat.le_of_ble_eq_true rfl) ?_
  refine v_iinc (v := (v9 + 1)) (ls1 := [(9, .int (v9 + 1)), (10, .int s0), (0, .ref v0), (1, .int v1), (2, .ref v2), (4, .int v4), (5, .int v5), (6, .int v6), (8, .int v8)]) dX10_make_174 rfl rfl (by decide) rfl ?_
  refine v_goto (tgt := 94) dX10_make_177 (by decide) ?_
  exact v_sub (vs_c rfl (vs_c rfl (vs_c rfl (vs_c rfl (vs_c rfl (vs_c rfl (vs_c rfl (vs_c rfl vs_n)))))))) (hk94 v0 v1 v2 v4 v5 v6 v8 (v9 + 1) f28 h)

set_option maxRecDepth 20000 in
theorem tX10_make_94 {l : Launch} {g : GT} {sz : Option Nat} (N : Nat)  {r : (Int32 × HF)} : ∀ (n : Nat), ∀ (v0 : Nat) (v1 : Int32) (v2 : Nat) (v4 : Int32) (v5 : Int32) (v6 : Int32) (v8 : Int32) (v9 : Int32) (f : HF), DX10_make_94 N n v0 v1 v2 v4 v5 v6 v8 v9 f = some r → V l g (fun _ => True) (RX10, cX10_make, 11, (Option.some Jvm.ClassFile.FieldType.int), [], "make") 5 (roI (.inl r.1) r.2 sz) 94 [(0, .ref v0), (1, .int v1), (2, .ref v2), (4, .int v4), (5, .int v5), (6, .int v6), (8, .int v8), (9, .int v9)] [] f sz 0 0 := by
  intro n
  induction n with
  | zero => intro v0 v1 v2 v4 v5 v6 v8 v9 f h; cases h
  | succ n ih =>
    intro v0 v1 v2 v4 v5 v6 v8 v9 f h
    rw [DX10_make_94] at h
    refine v_iload dX10_make_94 rfl ?_
    refine v_aload_n dX10_make_96 rfl rfl ?_
    obtain ⟨x20, hx20, h⟩ := ob_some h
    refine v_getI dX10_make_97 fl_X10_180 hx20 ?_
    refine v_icmp_ge (tgt := 180) dX10_make_100 (by decide) (fun c30 => ?_) (fun c30 => ?_)
    · replace h := ip_ c30 h
      refine v_aload_n dX10_make_180 rfl rfl ?_
      obtain ⟨x21, hx21, h⟩ := ob_some h
      refine v_getI dX10_make_181 fl_X10_180 hx21 ?_
      refine v_iconst (v := 1) dX10_make_184 (by decide) ?_
      refine v_iadd dX10_make_185 ?_
      obtain rfl := Option.some.inj h
      exact v_iret dX10_make_186 rfl rfl
    · replace h := in_ c30 h
      refine v_iload dX10_make_103 rfl ?_
      refine v_if_le (tgt := 132) dX10_make_105 (by decide) (fun c29 => ?_) (fun c29 => ?_)
      · replace h := ip_ c29 h
        refine v_iload dX10_make_132 rfl ?_
        refine v_iload dX10_make_134 rfl ?_
        refine v_iload dX10_make_136 rfl ?_
        refine v_iconst (v := 2) dX10_make_138 (by decide) ?_
        refine v_idiv dX10_make_139 (by decide) ?_
        refine v_imul dX10_make_140 ?_
        refine v_iadd dX10_make_141 ?_
        exact v_sub (vs_c rfl (vs_c rfl (vs_c rfl (vs_c rfl (vs_c rfl (vs_c rfl (vs_c rfl (vs_c rfl vs_n)))))))) (tX10_make_142 N (DX10_make_94 N n) ih v0 v1 v2 v4 v5 v6 v8 v9 (v8 + (v9 * (v4 / (2 : Int32)))) f h)
      · replace h := in_ c29 h
        refine v_iload dX10_make_108 rfl ?_
        refine v_iload dX10_make_110 rfl ?_
        refine v_imul dX10_make_112 ?_
        refine v_iload dX10_make_113 rfl ?_
        obtain ⟨hz, h⟩ := if_some h
        refine v_idiv dX10_make_115 hz ?_
        refine v_iload dX10_make_116 rfl ?_
        refine v_iload dX10_make_118 rfl ?_
        obtain ⟨hz, h⟩ := if_some h
        refine v_idiv dX10_make_120 hz ?_
        refine v_iload dX10_make_121 rfl ?_
        refine v_iconst (v := 2) dX10_make_123 (by decide) ?_
        refine v_idiv dX10_make_124 (by decide) ?_
        refine v_isub dX10_make_125 ?_
        refine v_iconst (v := 2) dX10_make_126 (by decide) ?_
        refine v_idiv dX10_make_127 (by decide) ?_
        refine v_iadd dX10_make_128 ?_
        refine v_goto (tgt := 142) dX10_make_129 (by decide) ?_
        exact v_sub (vs_c rfl (vs_c rfl (vs_c rfl (vs_c rfl (vs_c rfl (vs_c rfl (vs_c rfl (vs_c rfl vs_n)))))))) (tX10_make_142 N (DX10_make_94 N n) ih v0 v1 v2 v4 v5 v6 v8 v9 (((v9 * v6) / v5) + (((v6 / v5) - (v4 / (2 : Int32))) / (2 : Int32))) f h)

set_option maxRecDepth 20000 in
theorem tX10_make_80 {l : Launch} {g : GT} {sz : Option Nat} (N : Nat)  {r : (Int32 × HF)} : ∀ (v0 : Nat) (v1 : Int32) (v2 : Nat) (v4 : Int32) (v5 : Int32) (v6 : Int32) (s0 : Int32) (f : HF), DX10_make_80 N v0 v1 v2 v4 v5 v6 s0 f = some r → V l g (fun _ => True) (RX10, cX10_make, 11, (Option.some Jvm.ClassFile.FieldType.int), [], "make") 5 (roI (.inl r.1) r.2 sz) 80 [(0, .ref v0), (1, .int v1), (2, .ref v2), (4, .int v4), (5, .int v5), (6, .int v6)] [.int s0] f sz 0 0 := by
  intro v0 v1 v2 v4 v5 v6 s0 f h
  unfold DX10_make_80 at h
  refine v_istore (ls1 := [(8, .int s0), (0, .ref v0), (1, .int v1), (2, .ref v2), (4, .int v4), (5, .int v5), (6, .int v6)]) dX10_make_80 (by decide) rfl ?_
  refine v_aload_n dX10_make_82 rfl rfl ?_
  refine v_iconst (v := 0) dX10_make_83 (by decide) ?_
  refine v_iconst (v := 0) dX10_make_84 (by decide) ?_
  refine v_iconst (v := 0) dX10_make_85 (by decide) ?_
  refine v_iconst (v := 0) dX10_make_86 (by decide) ?_
  refine v_iconst (v := 0) dX10_make_87 (by decide) ?_
  obtain ⟨x17, f19, hx18, h⟩ := bW_some h
  have ehx18 := tX10_mark (l := l) (g := g) (sz := sz) N v2 (0 : Int32) (0 : Int32) (0 : Int32) (0 : Int32) (0 : Int32) f hx18
  refine v_cSU dX10_make_88 ml_X10_268 ok_X10_mark ehx18 (by decide) rfl (rest := []) rfl (Nat.le_of_ble_eq_true rfl) ?_
  refine v_iconst (v := 0) dX10_make_91 (by decide) ?_
  refine v_istore (ls1 := [(9, .int (0 : Int32)), (8, .int s0), (0, .ref v0), (1, .int v1), (2, .ref v2), (4, .int v4), (5, .int v5), (6, .int v6)]) dX10_make_92 (by decide) rfl ?_
  exact v_sub (vs_c rfl (vs_c rfl (vs_c rfl (vs_c rfl (vs_c rfl (vs_c rfl (vs_c rfl (vs_c rfl vs_n)))))))) (tX10_make_94 N N v0 v1 v2 v4 v5 v6 s0 (0 : Int32) f19 h)

set_option maxRecDepth 20000 in
theorem kX10_make (N : Nat) (this : Nat) (p0 : Int32) (p1 : Nat) (f : HF) {r : (Int32 × HF)} (h : DX10_make N this p0 p1 f = some r) : ck f this 9 = some () := by
  unfold DX10_make at h
  obtain ⟨_, hck, _⟩ := ob_some h
  exact hck

set_option maxRecDepth 20000 in
theorem tX10_make {l : Launch} {g : GT} {sz : Option Nat} (N : Nat) (this : Nat) (p0 : Int32) (p1 : Nat) (f : HF) {r : (Int32 × HF)} (h : DX10_make N this p0 p1 f = some r) : Mt l g yX10_make cX10_make 11 (Option.some Jvm.ClassFile.FieldType.int) 5 [.ref this, .int p0, .ref p1] f sz (roI (.inl r.1) r.2 sz) := by
  unfold DX10_make at h
  obtain ⟨_, hck, h⟩ := ob_some h
  refine mt_of (by decide) (Nat.le_of_ble_eq_true rfl) (?_ : V l g (fun _ => True) (RX10, cX10_make, 11, (Option.some Jvm.ClassFile.FieldType.int), [], "make") 5 (roI (.inl r.1) r.2 sz) 0 [(0, .ref this), (1, .int p0), (2, .ref p1)] [] f sz 0 0)
  refine v_aload_n dX10_make_0 rfl rfl ?_
  obtain ⟨x1, hx1, h⟩ := ob_some h
  refine v_getR dX10_make_1 fl_X10_19 hx1 ?_
  refine v_iload_n dX10_make_4 rfl rfl ?_
  obtain ⟨x2, hx2, h⟩ := ob_some h
  refine v_iald dX10_make_5 hx2 ?_
  refine v_istore_n (ls1 := [(3, .int x2), (0, .ref this), (1, .int p0), (2, .ref p1)]) dX10_make_6 rfl (by decide) rfl ?_
  refine v_aload_n dX10_make_7 rfl rfl ?_
  refine v_iload_n dX10_make_8 rfl rfl ?_
  obtain ⟨x3, f5, hx4, h⟩ := bW_some h
  have ehx4 := tX10_sizeOf (l := l) (g := g) (sz := sz) N this p0 f hx4
  refine v_cVI dX10_make_9 ml_X10_265 ok_X10_sizeOf ehx4 (kX10_sizeOf N this p0 f hx4) rfl (by decide) rfl (rest := []) rfl (Nat.le_of_ble_eq_true rfl) ?_
  refine v_i2l dX10_make_12 ?_
  obtain ⟨x6, hx7, h⟩ := ob_some h
  have ehx7 := tX10_abs (l := l) (g := g) (sz := sz) N (x3.toInt64) f5 hx7
  refine v_cSL dX10_make_13 ml_X10_213 ok_X10_abs ehx7 (by decide) rfl (rest := []) rfl (Nat.le_of_ble_eq_true rfl) ?_
  refine v_l2i dX10_make_16 ?_
  refine v_istore (ls1 := [(4, .int ((x6).toInt32)), (3, .int x2), (0, .ref this), (1, .int p0), (2, .ref p1)]) dX10_make_17 (by decide) rfl ?_
  refine v_aload_n dX10_make_19 rfl rfl ?_
  refine v_iload_n dX10_make_20 rfl rfl ?_
  obtain ⟨x8, hx9, h⟩ := ob_some h
  have ehx9 := tX10_cells (l := l) (g := g) (sz := sz) N this x2 f5 hx9
  refine v_cVI dX10_make_21 ml_X10_259 ok_X10_cells ehx9 (kX10_cells N this x2 f5 hx9) rfl (by decide) rfl (rest := []) rfl (Nat.le_of_ble_eq_true rfl) ?_
  refine v_istore (ls1 := [(5, .int x8), (4, .int ((x6).toInt32)), (3, .int x2), (0, .ref this), (1, .int p0), (2, .ref p1)]) dX10_make_24 (by decide) rfl ?_
  refine v_aload_n dX10_make_26 rfl rfl ?_
  obtain ⟨x10, hx10, h⟩ := ob_some h
  refine v_getR dX10_make_27 fl_X10_22 hx10 ?_
  refine v_iload_n dX10_make_30 rfl rfl ?_
  obtain ⟨x11, hx11, h⟩ := ob_some h
  refine v_iald dX10_make_31 hx11 ?_
  refine v_istore (ls1 := [(6, .int x11), (5, .int x8), (4, .int ((x6).toInt32)), (3, .int x2), (0, .ref this), (1, .int p0), (2, .ref p1)]) dX10_make_32 (by decide) rfl ?_
  refine v_iload dX10_make_34 rfl ?_
  refine v_aload_n dX10_make_36 rfl rfl ?_
  obtain ⟨x12, hx12, h⟩ := ob_some h
  refine v_getI dX10_make_37 fl_X10_180 hx12 ?_
  refine v_iload dX10_make_40 rfl ?_
  refine v_iconst (v := 2) dX10_make_42 (by decide) ?_
  refine v_idiv dX10_make_43 (by decide) ?_
  refine v_imul dX10_make_44 ?_
  refine v_isub dX10_make_45 ?_
  refine v_istore (ls1 := [(7, .int (x11 - (x12 * (((x6).toInt32) / (2 : Int32))))), (6, .int x11), (5, .int x8), (4, .int ((x6).toInt32)), (3, .int x2), (0, .ref this), (1, .int p0), (2, .ref p1)]) dX10_make_46 (by decide) rfl ?_
  refine v_aload_n dX10_make_48 rfl rfl ?_
  obtain ⟨x13, hx13, h⟩ := ob_some h
  refine v_getR dX10_make_49 fl_X10_28 hx13 ?_
  refine v_iload_n dX10_make_52 rfl rfl ?_
  obtain ⟨x14, hx14, h⟩ := ob_some h
  refine v_iald dX10_make_53 hx14 ?_
  refine v_if_ne (tgt := 61) dX10_make_54 (by decide) (fun c32 => ?_) (fun c32 => ?_)
  · replace h := in_ c32 h
    refine v_aload_n dX10_make_61 rfl rfl ?_
    obtain ⟨x15, hx15, h⟩ := ob_some h
    refine v_getR dX10_make_62 fl_X10_28 hx15 ?_
    refine v_iload_n dX10_make_65 rfl rfl ?_
    obtain ⟨x16, hx16, h⟩ := ob_some h
    refine v_iald dX10_make_66 hx16 ?_
    refine v_iconst (v := 1) dX10_make_67 (by decide) ?_
    refine v_icmp_ne (tgt := 78) dX10_make_68 (by decide) (fun c31 => ?_) (fun c31 => ?_)
    · replace h := in_ c31 h
      refine v_iload dX10_make_78 rfl ?_
      exact v_sub (vs_c rfl (vs_c rfl (vs_c rfl (vs_c rfl (vs_c rfl (vs_c rfl vs_n)))))) (tX10_make_80 N this p0 p1 ((x6).toInt32) x8 x11 (x11 - (x12 * (((x6).toInt32) / (2 : Int32)))) f5 h)
    · replace h := ip_ c31 h
      refine v_iload dX10_make_71 rfl ?_
      refine v_iconst (v := 2) dX10_make_73 (by decide) ?_
      refine v_idiv dX10_make_74 (by decide) ?_
      refine v_goto (tgt := 80) dX10_make_75 (by decide) ?_
      exact v_sub (vs_c rfl (vs_c rfl (vs_c rfl (vs_c rfl (vs_c rfl (vs_c rfl vs_n)))))) (tX10_make_80 N this p0 p1 ((x6).toInt32) x8 x11 ((x11 - (x12 * (((x6).toInt32) / (2 : Int32)))) / (2 : Int32)) f5 h)
  · replace h := ip_ c32 h
    refine v_iconst (v := 0) dX10_make_57 (by decide) ?_
    refine v_goto (tgt := 80) dX10_make_58 (by decide) ?_
    exact v_sub (vs_c rfl (vs_c rfl (vs_c rfl (vs_c rfl (vs_c rfl (vs_c rfl vs_n)))))) (tX10_make_80 N this p0 p1 ((x6).toInt32) x8 x11 (0 : Int32) f5 h)

/-! X10 appearance (W) -/
def DX10_appearance (N : Nat) (this : Nat) (p0 : Int32) (f : HF) : Option (Int32 × HF) :=
  (ck f this 9).bind fun _ =>
  (DX10_checkField N this p0 f).bind fun x1 =>
  (pV f this 9 0 (.int x1)).bind fun f3 =>
  (gI f3 this 9 0).bind fun x4 =>
  if x4 ≤ 0 then
    (gR f3 this 9 29).bind fun x5 =>
    bW (DX10_make N this p0 x5 f3) fun x6 f8 =>
    (pV f8 this 9 30 (.int x6)).bind fun f9 =>
    (gI f9 this 9 30).bind fun x10 =>
    some (x10, f9)
  else
    some ((0 : Int32), f3)

set_option maxRecDepth 20000 in
theorem kX10_appearance (N : Nat) (this : Nat) (p0 : Int32) (f : HF) {r : (Int32 × HF)} (h : DX10_appearance N this p0 f = some r) : ck f this 9 = some () := by
  unfold DX10_appearance at h
  obtain ⟨_, hck, _⟩ := ob_some h
  exact hck

set_option maxRecDepth 20000 in
theorem tX10_appearance {l : Launch} {g : GT} {sz : Option Nat} (N : Nat) (this : Nat) (p0 : Int32) (f : HF) {r : (Int32 × HF)} (h : DX10_appearance N this p0 f = some r) : Mt l g yX10_appearance cX10_appearance 2 (Option.some Jvm.ClassFile.FieldType.int) 6 [.ref this, .int p0] f sz (roI (.inl r.1) r.2 sz) := by
  unfold DX10_appearance at h
  obtain ⟨_, hck, h⟩ := ob_some h
  refine mt_of (by decide) (Nat.le_of_ble_eq_true rfl) (?_ : V l g (fun _ => True) (RX10, cX10_appearance, 2, (Option.some Jvm.ClassFile.FieldType.int), [], "appearance") 6 (roI (.inl r.1) r.2 sz) 0 [(0, .ref this), (1, .int p0)] [] f sz 0 0)
  refine v_aload_n dX10_appearance_0 rfl rfl ?_
  refine v_aload_n dX10_appearance_1 rfl rfl ?_
  refine v_iload_n dX10_appearance_2 rfl rfl ?_
  obtain ⟨x1, hx2, h⟩ := ob_some h
  have ehx2 := tX10_checkField (l := l) (g := g) (sz := sz) N this p0 f hx2
  refine v_cVI dX10_appearance_3 ml_X10_262 ok_X10_checkField ehx2 (kX10_checkField N this p0 f hx2) rfl (by decide) rfl (rest := [.ref this]) rfl (Nat.le_of_ble_eq_true rfl) ?_
  obtain ⟨f3, hf3, h⟩ := ob_some h
  refine v_pI dX10_appearance_6 fp_X10_102 hf3 ?_
  refine v_aload_n dX10_appearance_9 rfl rfl ?_
  obtain ⟨x4, hx4, h⟩ := ob_some h
  refine v_getI dX10_appearance_10 fl_X10_102 hx4 ?_
  refine v_if_le (tgt := 18) dX10_appearance_13 (by decide) (fun c11 => ?_) (fun c11 => ?_)
  · replace h := ip_ c11 h
    refine v_aload_n dX10_appearance_18 rfl rfl ?_
    refine v_aload_n dX10_appearance_19 rfl rfl ?_
    refine v_iload_n dX10_appearance_20 rfl rfl ?_
    refine v_aload_n dX10_appearance_21 rfl rfl ?_
    obtain ⟨x5, hx5, h⟩ := ob_some h
    refine v_getR dX10_appearance_22 fl_X10_87 hx5 ?_
    obtain ⟨x6, f8, hx7, h⟩ := bW_some h
    have ehx7 := tX10_make (l := l) (g := g) (sz := sz) N this p0 x5 f3 hx7
    refine v_cVI dX10_appearance_25 ml_X10_272 ok_X10_make ehx7 (kX10_make N this p0 x5 f3 hx7) rfl (by decide) rfl (rest := [.ref this]) rfl (Nat.le_of_ble_eq_true rfl) ?_
    obtain ⟨f9, hf9, h⟩ := ob_some h
    refine v_pI dX10_appearance_28 fp_X10_276 hf9 ?_
    refine v_aload_n dX10_appearance_31 rfl rfl ?_
    obtain ⟨x10, hx10, h⟩ := ob_some h
    refine v_getI dX10_appearance_32 fl_X10_276 hx10 ?_
    obtain rfl := Option.some.inj h
    exact v_iret dX10_appearance_35 rfl rfl
  · replace h := in_ c11 h
    refine v_iconst (v := 0) dX10_appearance_16 (by decide) ?_
    obtain rfl := Option.some.inj h
    exact v_iret dX10_appearance_17 rfl rfl

/-! X10 mark (W) -/
def DX10_mark__34 (N : Nat)  (v0 : Nat) (v1 : Int32) (v2 : Int32) (s0 : Nat) (s1 : Int32) (f : HF) : Option (Int32 × HF) :=
    (pV f s0 9 0 (.int s1)).bind fun f4 =>
    (gI f4 v0 9 0).bind fun x5 =>
    if x5 ≤ 0 then
      (gR f4 v0 9 29).bind fun x6 =>
      (aI f4 x6 0 (((4 : Int32) * v1) + v2)).bind fun x7 =>
      some (x7, f4)
    else
      some ((0 : Int32), f4)

def DX10_mark__33 (N : Nat)  (v0 : Nat) (v1 : Int32) (v2 : Int32) (s0 : Nat) (f : HF) : Option (Int32 × HF) :=
    DX10_mark__34 N v0 v1 v2 s0 (1 : Int32) f

def DX10_mark_ (N : Nat) (this : Nat) (p0 : Int32) (p1 : Int32) (f : HF) : Option (Int32 × HF) :=
  (ck f this 9).bind fun _ =>
  (gI f this 9 30).bind fun x1 =>
  (DX10_isIn N (p0.toInt64) (0 : Int64) ((x1.toInt64) - (1 : Int64)) f).bind fun x2 =>
  if x2 = 0 then
    DX10_mark__33 N this p0 p1 this f
  else
    (DX10_isIn N (p1.toInt64) (0 : Int64) (3 : Int64) f).bind fun x9 =>
    if x9 = 0 then
      DX10_mark__33 N this p0 p1 this f
    else
      DX10_mark__34 N this p0 p1 this (0 : Int32) f

set_option maxRecDepth 20000 in
theorem tX10_mark__34 {l : Launch} {g : GT} {sz : Option Nat} (N : Nat)  {r : (Int32 × HF)} : ∀ (v0 : Nat) (v1 : Int32) (v2 : Int32) (s0 : Nat) (s1 : Int32) (f : HF), DX10_mark__34 N v0 v1 v2 s0 s1 f = some r → V l g (fun _ => True) (RX10, cX10_mark_, 3, (Option.some Jvm.ClassFile.FieldType.int), [], "mark") 1 (roI (.inl r.1) r.2 sz) 34 [(0, .ref v0), (1, .int v1), (2, .int v2)] [.int s1, .ref s0] f sz 0 0 := by
  intro v0 v1 v2 s0 s1 f h
  unfold DX10_mark__34 at h
  obtain ⟨f4, hf4, h⟩ := ob_some h
  refine v_pI dX10_mark__34 fp_X10_102 hf4 ?_
  refine v_aload_n dX10_mark__37 rfl rfl ?_
  obtain ⟨x5, hx5, h⟩ := ob_some h
  refine v_getI dX10_mark__38 fl_X10_102 hx5 ?_
  refine v_if_le (tgt := 48) dX10_mark__41 (by decide) (fun c8 => ?_) (fun c8 => ?_)
  · replace h := ip_ c8 h
    refine v_aload_n dX10_mark__48 rfl rfl ?_
    obtain ⟨x6, hx6, h⟩ := ob_some h
    refine v_getR dX10_mark__49 fl_X10_87 hx6 ?_
    refine v_iconst (v := 4) dX10_mark__52 (by decide) ?_
    refine v_iload_n dX10_mark__53 rfl rfl ?_
    refine v_imul dX10_mark__54 ?_
    refine v_iload_n dX10_mark__55 rfl rfl ?_
    refine v_iadd dX10_mark__56 ?_
    obtain ⟨x7, hx7, h⟩ := ob_some h
    refine v_iald dX10_mark__57 hx7 ?_
    obtain rfl := Option.some.inj h
    exact v_iret dX10_mark__58 rfl rfl
  · replace h := in_ c8 h
    refine v_iconst (v := 0) dX10_mark__44 (by decide) ?_
    refine v_goto (tgt := 58) dX10_mark__45 (by decide) ?_
    obtain rfl := Option.some.inj h
    exact v_iret dX10_mark__58 rfl rfl

set_option maxRecDepth 20000 in
theorem tX10_mark__33 {l : Launch} {g : GT} {sz : Option Nat} (N : Nat)  {r : (Int32 × HF)} : ∀ (v0 : Nat) (v1 : Int32) (v2 : Int32) (s0 : Nat) (f : HF), DX10_mark__33 N v0 v1 v2 s0 f = some r → V l g (fun _ => True) (RX10, cX10_mark_, 3, (Option.some Jvm.ClassFile.FieldType.int), [], "mark") 1 (roI (.inl r.1) r.2 sz) 33 [(0, .ref v0), (1, .int v1), (2, .int v2)] [.ref s0] f sz 0 0 := by
  intro v0 v1 v2 s0 f h
  unfold DX10_mark__33 at h
  refine v_iconst (v := 1) dX10_mark__33 (by decide) ?_
  exact v_sub (vs_c rfl (vs_c rfl (vs_c rfl vs_n))) (tX10_mark__34 N v0 v1 v2 s0 (1 : Int32) f h)

set_option maxRecDepth 20000 in
theorem kX10_mark_ (N : Nat) (this : Nat) (p0 : Int32) (p1 : Int32) (f : HF) {r : (Int32 × HF)} (h : DX10_mark_ N this p0 p1 f = some r) : ck f this 9 = some () := by
  unfold DX10_mark_ at h
  obtain ⟨_, hck, _⟩ := ob_some h
  exact hck

set_option maxRecDepth 20000 in
theorem tX10_mark_ {l : Launch} {g : GT} {sz : Option Nat} (N : Nat) (this : Nat) (p0 : Int32) (p1 : Int32) (f : HF) {r : (Int32 × HF)} (h : DX10_mark_ N this p0 p1 f = some r) : Mt l g yX10_mark_ cX10_mark_ 3 (Option.some Jvm.ClassFile.FieldType.int) 1 [.ref this, .int p0, .int p1] f sz (roI (.inl r.1) r.2 sz) := by
  unfold DX10_mark_ at h
  obtain ⟨_, hck, h⟩ := ob_some h
  refine mt_of (by decide) (Nat.le_of_ble_eq_true rfl) (?_ : V l g (fun _ => True) (RX10, cX10_mark_, 3, (Option.some Jvm.ClassFile.FieldType.int), [], "mark") 1 (roI (.inl r.1) r.2 sz) 0 [(0, .ref this), (1, .int p0), (2, .int p1)] [] f sz 0 0)
  refine v_aload_n dX10_mark__0 rfl rfl ?_
  refine v_iload_n dX10_mark__1 rfl rfl ?_
  refine v_i2l dX10_mark__2 ?_
  refine v_lconst (v := 0) dX10_mark__3 (by decide) ?_
  refine v_aload_n dX10_mark__4 rfl rfl ?_
  obtain ⟨x1, hx1, h⟩ := ob_some h
  refine v_getI dX10_mark__5 fl_X10_276 hx1 ?_
  refine v_i2l dX10_mark__8 ?_
  refine v_lconst (v := 1) dX10_mark__9 (by decide) ?_
  refine v_lsub dX10_mark__10 ?_
  obtain ⟨x2, hx3, h⟩ := ob_some h
  have ehx3 := tX10_isIn (l := l) (g := g) (sz := sz) N (p0.toInt64) (0 : Int64) ((x1.toInt64) - (1 : Int64)) f hx3
  refine v_cSI dX10_mark__11 ml_X10_115 ok_X10_isIn ehx3 (by decide) rfl (rest := [.ref this]) rfl (Nat.le_of_ble_eq_true rfl) ?_
  refine v_if_eq (tgt := 33) dX10_mark__14 (by decide) (fun c12 => ?_) (fun c12 => ?_)
  · replace h := ip_ c12 h
    exact v_sub (vs_c rfl (vs_c rfl (vs_c rfl vs_n))) (tX10_mark__33 N this p0 p1 this f h)
  · replace h := in_ c12 h
    refine v_iload_n dX10_mark__17 rfl rfl ?_
    refine v_i2l dX10_mark__18 ?_
    refine v_lconst (v := 0) dX10_mark__19 (by decide) ?_
    refine v_ldc2 dX10_mark__20 kc_X10_160 ?_
    obtain ⟨x9, hx10, h⟩ := ob_some h
    have ehx10 := tX10_isIn (l := l) (g := g) (sz := sz) N (p1.toInt64) (0 : Int64) (3 : Int64) f hx10
    refine v_cSI dX10_mark__23 ml_X10_115 ok_X10_isIn ehx10 (by decide) rfl (rest := [.ref this]) rfl (Nat.le_of_ble_eq_true rfl) ?_
    refine v_if_eq (tgt := 33) dX10_mark__26 (by decide) (fun c11 => ?_) (fun c11 => ?_)
    · replace h := ip_ c11 h
      exact v_sub (vs_c rfl (vs_c rfl (vs_c rfl vs_n))) (tX10_mark__33 N this p0 p1 this f h)
    · replace h := in_ c11 h
      refine v_iconst (v := 0) dX10_mark__29 (by decide) ?_
      refine v_goto (tgt := 34) dX10_mark__30 (by decide) ?_
      exact v_sub (vs_c rfl (vs_c rfl (vs_c rfl vs_n))) (tX10_mark__34 N this p0 p1 this (0 : Int32) f h)

