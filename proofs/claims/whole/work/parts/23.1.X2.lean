/-! X2 amount (R) -/
def DX2_amount (N : Nat) (this : Nat) (f : HF) : Option Int64 :=
  (ck f this 1).bind fun _ =>
  (gI f this 1 1).bind fun x1 =>
  if x1 = (2 : Int32) then
    (gI f this 1 10).bind fun x7 =>
    some ((1000 : Int64) * (x7.toInt64))
  else
    (gI f this 1 1).bind fun x2 =>
    if x2 = (5 : Int32) then
      (gR f this 1 8).bind fun x3 =>
      (DX0_of N x3 f).bind fun x4 =>
      some x4
    else
      some (-9223372036854775808 : Int64)

set_option maxRecDepth 20000 in
theorem kX2_amount (N : Nat) (this : Nat) (f : HF) {r : Int64} (h : DX2_amount N this f = some r) : ck f this 1 = some () := by
  unfold DX2_amount at h
  obtain ⟨_, hck, _⟩ := ob_some h
  exact hck

set_option maxRecDepth 20000 in
theorem tX2_amount {l : Launch} {g : GT} {sz : Option Nat} (N : Nat) (this : Nat) (f : HF) {r : Int64} (h : DX2_amount N this f = some r) : Mt l g yX2_amount cX2_amount 1 (Option.some Jvm.ClassFile.FieldType.long) 3 [.ref this] f sz (roL (.inl r) f sz) := by
  unfold DX2_amount at h
  obtain ⟨_, hck, h⟩ := ob_some h
  refine mt_of (by decide) (Nat.le_of_ble_eq_true rfl) (?_ : V l g (fun _ => True) (RX2, cX2_amount, 1, (Option.some Jvm.ClassFile.FieldType.long), [], "amount") 3 (roL (.inl r) f sz) 0 [(0, .ref this)] [] f sz 0 0)
  refine v_aload_n dX2_amount_0 rfl rfl ?_
  obtain ⟨x1, hx1, h⟩ := ob_some h
  refine v_getI dX2_amount_1 fl_X2_48 hx1 ?_
  refine v_iconst (v := 2) dX2_amount_4 (by decide) ?_
  refine v_icmp_ne (tgt := 18) dX2_amount_5 (by decide) (fun c8 => ?_) (fun c8 => ?_)
  · replace h := in_ c8 h
    refine v_aload_n dX2_amount_18 rfl rfl ?_
    obtain ⟨x2, hx2, h⟩ := ob_some h
    refine v_getI dX2_amount_19 fl_X2_48 hx2 ?_
    refine v_iconst (v := 5) dX2_amount_22 (by decide) ?_
    refine v_icmp_ne (tgt := 36) dX2_amount_23 (by decide) (fun c6 => ?_) (fun c6 => ?_)
    · replace h := in_ c6 h
      refine v_ldc2 dX2_amount_36 kc_X2_105 ?_
      obtain rfl := Option.some.inj h
      exact v_lret dX2_amount_39 rfl rfl
    · replace h := ip_ c6 h
      refine v_aload_n dX2_amount_26 rfl rfl ?_
      obtain ⟨x3, hx3, h⟩ := ob_some h
      refine v_getR dX2_amount_27 fl_X2_20 hx3 ?_
      obtain ⟨x4, hx5, h⟩ := ob_some h
      have ehx5 := tX0_of (l := l) (g := g) (sz := sz) N x3 f hx5
      refine v_cSL dX2_amount_30 ml_X2_99 ok_X0_of ehx5 (by decide) rfl (rest := []) rfl (Nat.le_of_ble_eq_true rfl) ?_
      refine v_goto (tgt := 39) dX2_amount_33 (by decide) ?_
      obtain rfl := Option.some.inj h
      exact v_lret dX2_amount_39 rfl rfl
  · replace h := ip_ c8 h
    refine v_ldc2 dX2_amount_8 kc_X2_97 ?_
    refine v_aload_n dX2_amount_11 rfl rfl ?_
    obtain ⟨x7, hx7, h⟩ := ob_some h
    refine v_getI dX2_amount_12 fl_X2_61 hx7 ?_
    refine v_i2l dX2_amount_15 ?_
    refine v_lmul dX2_amount_16 ?_
    obtain rfl := Option.some.inj h
    exact v_lret dX2_amount_17 rfl rfl

/-! X2 verdict (R) -/
def DX2_verdict_19 (N : Nat) (f : HF)  (v0 : Nat) : Option Int32 :=
    (gI f v0 1 1).bind fun x3 =>
    if x3 = (5 : Int32) then
      (gR f v0 1 8).bind fun x4 =>
      (DX5_count N x4 f).bind fun x5 =>
      if x5 = 0 then
        some (1 : Int32)
      else
        (DX2_amount N v0 f).bind fun x7 =>
        if x7 = (-9223372036854775808 : Int64) then
          some (3 : Int32)
        else
          (gL f v0 1 11).bind fun x9 =>
          if x9 ≤ x7 then
            (gL f v0 1 12).bind fun x10 =>
            if x7 ≤ x10 then
              some (1 : Int32)
            else
              some (5 : Int32)
          else
            some (4 : Int32)
    else
      some (1 : Int32)

def DX2_verdict (N : Nat) (this : Nat) (f : HF) : Option Int32 :=
  (ck f this 1).bind fun _ =>
  (gR f this 1 7).bind fun x1 =>
  (aI f x1 0 (0 : Int32)).bind fun x2 =>
  if x2 = (1 : Int32) then
    (DX2_isEmpty N this f).bind fun x16 =>
    if x16 = 0 then
      DX2_verdict_19 N f this
    else
      some (2 : Int32)
  else
    DX2_verdict_19 N f this

set_option maxRecDepth 20000 in
theorem tX2_verdict_19 {l : Launch} {g : GT} {sz : Option Nat} (N : Nat) (f : HF)  {r : Int32} : ∀ (v0 : Nat), DX2_verdict_19 N f v0 = some r → V l g (fun _ => True) (RX2, cX2_verdict, 3, (Option.some Jvm.ClassFile.FieldType.int), [], "verdict") 4 (roI (.inl r) f sz) 19 [(0, .ref v0)] [] f sz 0 0 := by
  intro v0 h
  unfold DX2_verdict_19 at h
  refine v_aload_n dX2_verdict_19 rfl rfl ?_
  obtain ⟨x3, hx3, h⟩ := ob_some h
  refine v_getI dX2_verdict_20 fl_X2_48 hx3 ?_
  refine v_iconst (v := 5) dX2_verdict_23 (by decide) ?_
  refine v_icmp_ne (tgt := 37) dX2_verdict_24 (by decide) (fun c15 => ?_) (fun c15 => ?_)
  · replace h := in_ c15 h
    refine v_iconst (v := 1) dX2_verdict_37 (by decide) ?_
    obtain rfl := Option.some.inj h
    exact v_iret dX2_verdict_38 rfl rfl
  · replace h := ip_ c15 h
    refine v_aload_n dX2_verdict_27 rfl rfl ?_
    obtain ⟨x4, hx4, h⟩ := ob_some h
    refine v_getR dX2_verdict_28 fl_X2_20 hx4 ?_
    obtain ⟨x5, hx6, h⟩ := ob_some h
    have ehx6 := tX5_count (l := l) (g := g) (sz := sz) N x4 f hx6
    refine v_cVI dX2_verdict_31 ml_X2_83 ok_X5_count ehx6 (kX5_count N x4 f hx6) rfl (by decide) rfl (rest := []) rfl (Nat.le_of_ble_eq_true rfl) ?_
    refine v_if_ne (tgt := 39) dX2_verdict_34 (by decide) (fun c14 => ?_) (fun c14 => ?_)
    · replace h := in_ c14 h
      refine v_aload_n dX2_verdict_39 rfl rfl ?_
      obtain ⟨x7, hx8, h⟩ := ob_some h
      have ehx8 := tX2_amount (l := l) (g := g) (sz := sz) N v0 f hx8
      refine v_cVL dX2_verdict_40 ml_X2_110 ok_X2_amount ehx8 (kX2_amount N v0 f hx8) rfl (by decide) rfl (rest := []) rfl (Nat.le_of_ble_eq_true rfl) ?_
      refine v_lstore_n (ls1 := [(1, .long x7), (0, .ref v0)]) dX2_verdict_43 rfl (by decide) rfl ?_
      refine v_lload_n dX2_verdict_44 rfl rfl ?_
      refine v_ldc2 dX2_verdict_45 kc_X2_105 ?_
      refine v_lcmp_ne (tgt := 54) dX2_verdict_48 dX2_verdict_49 (by decide) (fun c13 => ?_) (fun c13 => ?_)
      · replace h := in_ c13 h
        refine v_lload_n dX2_verdict_54 rfl rfl ?_
        refine v_aload_n dX2_verdict_55 rfl rfl ?_
        obtain ⟨x9, hx9, h⟩ := ob_some h
        refine v_getL dX2_verdict_56 fl_X2_29 hx9 ?_
        refine v_lcmp_ge (tgt := 65) dX2_verdict_59 dX2_verdict_60 (by decide) (fun c12 => ?_) (fun c12 => ?_)
        · replace h := ip_ c12 h
          refine v_lload_n dX2_verdict_65 rfl rfl ?_
          refine v_aload_n dX2_verdict_66 rfl rfl ?_
          obtain ⟨x10, hx10, h⟩ := ob_some h
          refine v_getL dX2_verdict_67 fl_X2_35 hx10 ?_
          refine v_lcmp_le (tgt := 78) dX2_verdict_70 dX2_verdict_71 (by decide) (fun c11 => ?_) (fun c11 => ?_)
          · replace h := ip_ c11 h
            refine v_iconst (v := 1) dX2_verdict_78 (by decide) ?_
            obtain rfl := Option.some.inj h
            exact v_iret dX2_verdict_79 rfl rfl
          · replace h := in_ c11 h
            refine v_iconst (v := 5) dX2_verdict_74 (by decide) ?_
            refine v_goto (tgt := 79) dX2_verdict_75 (by decide) ?_
            obtain rfl := Option.some.inj h
            exact v_iret dX2_verdict_79 rfl rfl
        · replace h := in_ c12 h
          refine v_iconst (v := 4) dX2_verdict_63 (by decide) ?_
          obtain rfl := Option.some.inj h
          exact v_iret dX2_verdict_64 rfl rfl
      · replace h := ip_ c13 h
        refine v_iconst (v := 3) dX2_verdict_52 (by decide) ?_
        obtain rfl := Option.some.inj h
        exact v_iret dX2_verdict_53 rfl rfl
    · replace h := ip_ c14 h
      refine v_iconst (v := 1) dX2_verdict_37 (by decide) ?_
      obtain rfl := Option.some.inj h
      exact v_iret dX2_verdict_38 rfl rfl

set_option maxRecDepth 20000 in
theorem kX2_verdict (N : Nat) (this : Nat) (f : HF) {r : Int32} (h : DX2_verdict N this f = some r) : ck f this 1 = some () := by
  unfold DX2_verdict at h
  obtain ⟨_, hck, _⟩ := ob_some h
  exact hck

set_option maxRecDepth 20000 in
theorem tX2_verdict {l : Launch} {g : GT} {sz : Option Nat} (N : Nat) (this : Nat) (f : HF) {r : Int32} (h : DX2_verdict N this f = some r) : Mt l g yX2_verdict cX2_verdict 3 (Option.some Jvm.ClassFile.FieldType.int) 4 [.ref this] f sz (roI (.inl r) f sz) := by
  unfold DX2_verdict at h
  obtain ⟨_, hck, h⟩ := ob_some h
  refine mt_of (by decide) (Nat.le_of_ble_eq_true rfl) (?_ : V l g (fun _ => True) (RX2, cX2_verdict, 3, (Option.some Jvm.ClassFile.FieldType.int), [], "verdict") 4 (roI (.inl r) f sz) 0 [(0, .ref this)] [] f sz 0 0)
  refine v_aload_n dX2_verdict_0 rfl rfl ?_
  obtain ⟨x1, hx1, h⟩ := ob_some h
  refine v_getR dX2_verdict_1 fl_X2_9 hx1 ?_
  refine v_iconst (v := 0) dX2_verdict_4 (by decide) ?_
  obtain ⟨x2, hx2, h⟩ := ob_some h
  refine v_iald dX2_verdict_5 hx2 ?_
  refine v_iconst (v := 1) dX2_verdict_6 (by decide) ?_
  refine v_icmp_ne (tgt := 19) dX2_verdict_7 (by decide) (fun c19 => ?_) (fun c19 => ?_)
  · replace h := in_ c19 h
    exact v_sub (vs_c rfl vs_n) (tX2_verdict_19 N f this h)
  · replace h := ip_ c19 h
    refine v_aload_n dX2_verdict_10 rfl rfl ?_
    obtain ⟨x16, hx17, h⟩ := ob_some h
    have ehx17 := tX2_isEmpty (l := l) (g := g) (sz := sz) N this f hx17
    refine v_cVI dX2_verdict_11 ml_X2_107 ok_X2_isEmpty ehx17 (kX2_isEmpty N this f hx17) rfl (by decide) rfl (rest := []) rfl (Nat.le_of_ble_eq_true rfl) ?_
    refine v_if_eq (tgt := 19) dX2_verdict_14 (by decide) (fun c18 => ?_) (fun c18 => ?_)
    · replace h := ip_ c18 h
      exact v_sub (vs_c rfl vs_n) (tX2_verdict_19 N f this h)
    · replace h := in_ c18 h
      refine v_iconst (v := 2) dX2_verdict_17 (by decide) ?_
      obtain rfl := Option.some.inj h
      exact v_iret dX2_verdict_18 rfl rfl

