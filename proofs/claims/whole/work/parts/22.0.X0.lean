/-! X0 isBeyond (R) -/
def DX0_isBeyond (N : Nat) (p0 : Int64) (f : HF) : Option Int32 :=
  if p0 < (-999999999999 : Int64) then
    some (1 : Int32)
  else
    if p0 ≤ (999999999999 : Int64) then
      some (0 : Int32)
    else
      some (1 : Int32)

set_option maxRecDepth 20000 in
theorem tX0_isBeyond {l : Launch} {g : GT} {sz : Option Nat} (N : Nat) (p0 : Int64) (f : HF) {r : Int32} (h : DX0_isBeyond N p0 f = some r) : Mt l g yX0_isBeyond cX0_isBeyond 2 (Option.some Jvm.ClassFile.FieldType.boolean) 0 [.long p0] f sz (roI (.inl r) f sz) := by
  unfold DX0_isBeyond at h
  refine mt_of (by decide) (Nat.le_of_ble_eq_true rfl) (?_ : V l g (fun _ => True) (RX0, cX0_isBeyond, 2, (Option.some Jvm.ClassFile.FieldType.boolean), [], "isBeyond") 0 (roI (.inl r) f sz) 0 [(0, .long p0)] [] f sz 0 0)
  refine v_lload_n dX0_isBeyond_0 rfl rfl ?_
  refine v_ldc2 dX0_isBeyond_1 kc_X0_9 ?_
  refine v_lcmp_lt (tgt := 16) dX0_isBeyond_4 dX0_isBeyond_5 (by decide) (fun c2 => ?_) (fun c2 => ?_)
  · replace h := ip_ c2 h
    refine v_iconst (v := 1) dX0_isBeyond_16 (by decide) ?_
    refine v_goto (tgt := 21) dX0_isBeyond_17 (by decide) ?_
    obtain rfl := Option.some.inj h
    exact v_zret dX0_isBeyond_21 rfl (Or.inr rfl) rfl
  · replace h := in_ c2 h
    refine v_lload_n dX0_isBeyond_8 rfl rfl ?_
    refine v_ldc2 dX0_isBeyond_9 kc_X0_11 ?_
    refine v_lcmp_le (tgt := 20) dX0_isBeyond_12 dX0_isBeyond_13 (by decide) (fun c1 => ?_) (fun c1 => ?_)
    · replace h := ip_ c1 h
      refine v_iconst (v := 0) dX0_isBeyond_20 (by decide) ?_
      obtain rfl := Option.some.inj h
      exact v_zret dX0_isBeyond_21 rfl (Or.inl rfl) rfl
    · replace h := in_ c1 h
      refine v_iconst (v := 1) dX0_isBeyond_16 (by decide) ?_
      refine v_goto (tgt := 21) dX0_isBeyond_17 (by decide) ?_
      obtain rfl := Option.some.inj h
      exact v_zret dX0_isBeyond_21 rfl (Or.inr rfl) rfl

/-! X0 isDigit (R) -/
def DX0_isDigit (N : Nat) (p0 : Int32) (f : HF) : Option Int32 :=
  if p0 < (48 : Int32) then
    some (0 : Int32)
  else
    if (57 : Int32) < p0 then
      some (0 : Int32)
    else
      some (1 : Int32)

set_option maxRecDepth 20000 in
theorem tX0_isDigit {l : Launch} {g : GT} {sz : Option Nat} (N : Nat) (p0 : Int32) (f : HF) {r : Int32} (h : DX0_isDigit N p0 f = some r) : Mt l g yX0_isDigit cX0_isDigit 1 (Option.some Jvm.ClassFile.FieldType.boolean) 0 [.int p0] f sz (roI (.inl r) f sz) := by
  unfold DX0_isDigit at h
  refine mt_of (by decide) (Nat.le_of_ble_eq_true rfl) (?_ : V l g (fun _ => True) (RX0, cX0_isDigit, 1, (Option.some Jvm.ClassFile.FieldType.boolean), [], "isDigit") 0 (roI (.inl r) f sz) 0 [(0, .int p0)] [] f sz 0 0)
  refine v_iload_n dX0_isDigit_0 rfl rfl ?_
  refine v_bipush (v := 48) dX0_isDigit_1 (by decide) ?_
  refine v_icmp_lt (tgt := 16) dX0_isDigit_3 (by decide) (fun c2 => ?_) (fun c2 => ?_)
  · replace h := ip_ c2 h
    refine v_iconst (v := 0) dX0_isDigit_16 (by decide) ?_
    obtain rfl := Option.some.inj h
    exact v_zret dX0_isDigit_17 rfl (Or.inl rfl) rfl
  · replace h := in_ c2 h
    refine v_iload_n dX0_isDigit_6 rfl rfl ?_
    refine v_bipush (v := 57) dX0_isDigit_7 (by decide) ?_
    refine v_icmp_gt (tgt := 16) dX0_isDigit_9 (by decide) (fun c1 => ?_) (fun c1 => ?_)
    · replace h := ip_ c1 h
      refine v_iconst (v := 0) dX0_isDigit_16 (by decide) ?_
      obtain rfl := Option.some.inj h
      exact v_zret dX0_isDigit_17 rfl (Or.inl rfl) rfl
    · replace h := in_ c1 h
      refine v_iconst (v := 1) dX0_isDigit_12 (by decide) ?_
      refine v_goto (tgt := 17) dX0_isDigit_13 (by decide) ?_
      obtain rfl := Option.some.inj h
      exact v_zret dX0_isDigit_17 rfl (Or.inr rfl) rfl

/-! X0 partOf (R) -/
def DX0_partOf_54 (N : Nat) (f : HF)  (n : Nat) (v0 : Nat) (v3 : Int64) (v5 : Int32) (v6 : Int32) : Option Int64 :=
  match n with
  | 0 => none
  | n + 1 =>
    (DX5_count N v0 f).bind fun x7 =>
    if x7 ≤ v6 then
      some v3
    else
      (DX5_get N v0 v6 f).bind fun x9 =>
      (DX0_isDigit N x9 f).bind fun x11 =>
      if x11 = 0 then
        some (-9223372036854775808 : Int64)
      else
        (DX5_get N v0 v6 f).bind fun x13 =>
        DX0_partOf_54 N f n v0 (v3 + ((((x13 - (48 : Int32))).toInt64) * (v5.toInt64))) (v5 / (10 : Int32)) (v6 + 1)

def DX0_partOf (N : Nat) (p0 : Nat) (p1 : Int32) (f : HF) : Option Int64 :=
  (DX5_count N p0 f).bind fun x1 =>
  if p1 = x1 then
    some (0 : Int64)
  else
    (DX5_count N p0 f).bind fun x3 =>
    (DX5_get N p0 p1 f).bind fun x5 =>
    if x5 = (46 : Int32) then
      if ((x3 - p1) - (1 : Int32)) < (1 : Int32) then
        some (-9223372036854775808 : Int64)
      else
        if ((x3 - p1) - (1 : Int32)) ≤ (3 : Int32) then
          DX0_partOf_54 N f N p0 (0 : Int64) (100 : Int32) (p1 + (1 : Int32))
        else
          some (-9223372036854775808 : Int64)
    else
      some (-9223372036854775808 : Int64)

set_option maxRecDepth 20000 in
theorem tX0_partOf_54 {l : Launch} {g : GT} {sz : Option Nat} (N : Nat) (f : HF)  {r : Int64} : ∀ (n : Nat), ∀ (v0 : Nat) (v3 : Int64) (v5 : Int32) (v6 : Int32), DX0_partOf_54 N f n v0 v3 v5 v6 = some r → V l g (fun _ => True) (RX0, cX0_partOf, 7, (Option.some Jvm.ClassFile.FieldType.long), [], "partOf") 1 (roL (.inl r) f sz) 54 [(0, .ref v0), (3, .long v3), (5, .int v5), (6, .int v6)] [] f sz 0 0 := by
  intro n
  induction n with
  | zero => intro v0 v3 v5 v6 h; cases h
  | succ n ih =>
    intro v0 v3 v5 v6 h
    rw [DX0_partOf_54] at h
    refine v_iload dX0_partOf_54 rfl ?_
    refine v_aload_n dX0_partOf_56 rfl rfl ?_
    obtain ⟨x7, hx8, h⟩ := ob_some h
    have ehx8 := tX5_count (l := l) (g := g) (sz := sz) N v0 f hx8
    refine v_cVI dX0_partOf_57 ml_X0_13 ok_X5_count ehx8 (kX5_count N v0 f hx8) rfl (by decide) rfl (rest := [.int v6]) rfl (Nat.le_of_ble_eq_true rfl) ?_
    refine v_icmp_ge (tgt := 109) dX0_partOf_60 (by decide) (fun c16 => ?_) (fun c16 => ?_)
    · replace h := ip_ c16 h
      refine v_lload_n dX0_partOf_109 rfl rfl ?_
      obtain rfl := Option.some.inj h
      exact v_lret dX0_partOf_110 rfl rfl
    · replace h := in_ c16 h
      refine v_aload_n dX0_partOf_63 rfl rfl ?_
      refine v_iload dX0_partOf_64 rfl ?_
      obtain ⟨x9, hx10, h⟩ := ob_some h
      have ehx10 := tX5_get (l := l) (g := g) (sz := sz) N v0 v6 f hx10
      refine v_cVI dX0_partOf_66 ml_X0_19 ok_X5_get ehx10 (kX5_get N v0 v6 f hx10) rfl (by decide) rfl (rest := []) rfl (Nat.le_of_ble_eq_true rfl) ?_
      obtain ⟨x11, hx12, h⟩ := ob_some h
      have ehx12 := tX0_isDigit (l := l) (g := g) (sz := sz) N x9 f hx12
      refine v_cSI dX0_partOf_69 ml_X0_23 ok_X0_isDigit ehx12 (by decide) rfl (rest := []) rfl (Nat.le_of_ble_eq_true rfl) ?_
      refine v_if_ne (tgt := 79) dX0_partOf_72 (by decide) (fun c15 => ?_) (fun c15 => ?_)
      · replace h := in_ c15 h
        refine v_lload_n dX0_partOf_79 rfl rfl ?_
        refine v_aload_n dX0_partOf_80 rfl rfl ?_
        refine v_iload dX0_partOf_81 rfl ?_
        obtain ⟨x13, hx14, h⟩ := ob_some h
        have ehx14 := tX5_get (l := l) (g := g) (sz := sz) N v0 v6 f hx14
        refine v_cVI dX0_partOf_83 ml_X0_19 ok_X5_get ehx14 (kX5_get N v0 v6 f hx14) rfl (by decide) rfl (rest := [.long v3]) rfl (Nat.le_of_ble_eq_true rfl) ?_
        refine v_bipush (v := 48) dX0_partOf_86 (by decide) ?_
        refine v_isub dX0_partOf_88 ?_
        refine v_i2l dX0_partOf_89 ?_
        refine v_iload dX0_partOf_90 rfl ?_
        refine v_i2l dX0_partOf_92 ?_
        refine v_lmul dX0_partOf_93 ?_
        refine v_ladd dX0_partOf_94 ?_
        refine v_lstore_n (ls1 := [(3, .long (v3 + ((((x13 - (48 : Int32))).toInt64) * (v5.toInt64)))), (0, .ref v0), (5, .int v5), (6, .int v6)]) dX0_partOf_95 rfl (by decide) rfl ?_
        refine v_iload dX0_partOf_96 rfl ?_
        refine v_bipush (v := 10) dX0_partOf_98 (by decide) ?_
        refine v_idiv dX0_partOf_100 (by decide) ?_
        refine v_istore (ls1 := [(5, .int (v5 / (10 : Int32))), (3, .long (v3 + ((((x13 - (48 : Int32))).toInt64) * (v5.toInt64)))), (0, .ref v0), (6, .int v6)]) dX0_partOf_101 (by decide) rfl ?_
        refine v_iinc (v := (v6 + 1)) (ls1 := [(6, .int (v6 + 1)), (5, .int (v5 / (10 : Int32))), (3, .long (v3 + ((((x13 - (48 : Int32))).toInt64) * (v5.toInt64)))), (0, .ref v0)]) dX0_partOf_103 rfl rfl (by decide) rfl ?_
        refine v_goto (tgt := 54) dX0_partOf_106 (by decide) ?_
        exact v_sub (vs_c rfl (vs_c rfl (vs_c rfl (vs_c rfl vs_n)))) (ih v0 (v3 + ((((x13 - (48 : Int32))).toInt64) * (v5.toInt64))) (v5 / (10 : Int32)) (v6 + 1) h)
      · replace h := ip_ c15 h
        refine v_ldc2 dX0_partOf_75 kc_X0_33 ?_
        obtain rfl := Option.some.inj h
        exact v_lret dX0_partOf_78 rfl rfl

set_option maxRecDepth 20000 in
theorem tX0_partOf {l : Launch} {g : GT} {sz : Option Nat} (N : Nat) (p0 : Nat) (p1 : Int32) (f : HF) {r : Int64} (h : DX0_partOf N p0 p1 f = some r) : Mt l g yX0_partOf cX0_partOf 7 (Option.some Jvm.ClassFile.FieldType.long) 1 [.ref p0, .int p1] f sz (roL (.inl r) f sz) := by
  unfold DX0_partOf at h
  refine mt_of (by decide) (Nat.le_of_ble_eq_true rfl) (?_ : V l g (fun _ => True) (RX0, cX0_partOf, 7, (Option.some Jvm.ClassFile.FieldType.long), [], "partOf") 1 (roL (.inl r) f sz) 0 [(0, .ref p0), (1, .int p1)] [] f sz 0 0)
  refine v_iload_n dX0_partOf_0 rfl rfl ?_
  refine v_aload_n dX0_partOf_1 rfl rfl ?_
  obtain ⟨x1, hx2, h⟩ := ob_some h
  have ehx2 := tX5_count (l := l) (g := g) (sz := sz) N p0 f hx2
  refine v_cVI dX0_partOf_2 ml_X0_13 ok_X5_count ehx2 (kX5_count N p0 f hx2) rfl (by decide) rfl (rest := [.int p1]) rfl (Nat.le_of_ble_eq_true rfl) ?_
  refine v_icmp_ne (tgt := 10) dX0_partOf_5 (by decide) (fun c20 => ?_) (fun c20 => ?_)
  · replace h := in_ c20 h
    refine v_aload_n dX0_partOf_10 rfl rfl ?_
    obtain ⟨x3, hx4, h⟩ := ob_some h
    have ehx4 := tX5_count (l := l) (g := g) (sz := sz) N p0 f hx4
    refine v_cVI dX0_partOf_11 ml_X0_13 ok_X5_count ehx4 (kX5_count N p0 f hx4) rfl (by decide) rfl (rest := []) rfl (Nat.le_of_ble_eq_true rfl) ?_
    refine v_iload_n dX0_partOf_14 rfl rfl ?_
    refine v_isub dX0_partOf_15 ?_
    refine v_iconst (v := 1) dX0_partOf_16 (by decide) ?_
    refine v_isub dX0_partOf_17 ?_
    refine v_istore_n (ls1 := [(2, .int ((x3 - p1) - (1 : Int32))), (0, .ref p0), (1, .int p1)]) dX0_partOf_18 rfl (by decide) rfl ?_
    refine v_aload_n dX0_partOf_19 rfl rfl ?_
    refine v_iload_n dX0_partOf_20 rfl rfl ?_
    obtain ⟨x5, hx6, h⟩ := ob_some h
    have ehx6 := tX5_get (l := l) (g := g) (sz := sz) N p0 p1 f hx6
    refine v_cVI dX0_partOf_21 ml_X0_19 ok_X5_get ehx6 (kX5_get N p0 p1 f hx6) rfl (by decide) rfl (rest := []) rfl (Nat.le_of_ble_eq_true rfl) ?_
    refine v_bipush (v := 46) dX0_partOf_24 (by decide) ?_
    refine v_icmp_ne (tgt := 39) dX0_partOf_26 (by decide) (fun c19 => ?_) (fun c19 => ?_)
    · replace h := in_ c19 h
      refine v_ldc2 dX0_partOf_39 kc_X0_33 ?_
      obtain rfl := Option.some.inj h
      exact v_lret dX0_partOf_42 rfl rfl
    · replace h := ip_ c19 h
      refine v_iload_n dX0_partOf_29 rfl rfl ?_
      refine v_iconst (v := 1) dX0_partOf_30 (by decide) ?_
      refine v_icmp_lt (tgt := 39) dX0_partOf_31 (by decide) (fun c18 => ?_) (fun c18 => ?_)
      · replace h := ip_ c18 h
        refine v_ldc2 dX0_partOf_39 kc_X0_33 ?_
        obtain rfl := Option.some.inj h
        exact v_lret dX0_partOf_42 rfl rfl
      · replace h := in_ c18 h
        refine v_iload_n dX0_partOf_34 rfl rfl ?_
        refine v_iconst (v := 3) dX0_partOf_35 (by decide) ?_
        refine v_icmp_le (tgt := 43) dX0_partOf_36 (by decide) (fun c17 => ?_) (fun c17 => ?_)
        · replace h := ip_ c17 h
          refine v_lconst (v := 0) dX0_partOf_43 (by decide) ?_
          refine v_lstore_n (ls1 := [(3, .long (0 : Int64)), (2, .int ((x3 - p1) - (1 : Int32))), (0, .ref p0), (1, .int p1)]) dX0_partOf_44 rfl (by decide) rfl ?_
          refine v_bipush (v := 100) dX0_partOf_45 (by decide) ?_
          refine v_istore (ls1 := [(5, .int (100 : Int32)), (3, .long (0 : Int64)), (2, .int ((x3 - p1) - (1 : Int32))), (0, .ref p0), (1, .int p1)]) dX0_partOf_47 (by decide) rfl ?_
          refine v_iload_n dX0_partOf_49 rfl rfl ?_
          refine v_iconst (v := 1) dX0_partOf_50 (by decide) ?_
          refine v_iadd dX0_partOf_51 ?_
          refine v_istore (ls1 := [(6, .int (p1 + (1 : Int32))), (5, .int (100 : Int32)), (3, .long (0 : Int64)), (2, .int ((x3 - p1) - (1 : Int32))), (0, .ref p0), (1, .int p1)]) dX0_partOf_52 (by decide) rfl ?_
          exact v_sub (vs_c rfl (vs_c rfl (vs_c rfl (vs_c rfl vs_n)))) (tX0_partOf_54 N f N p0 (0 : Int64) (100 : Int32) (p1 + (1 : Int32)) h)
        · replace h := in_ c17 h
          refine v_ldc2 dX0_partOf_39 kc_X0_33 ?_
          obtain rfl := Option.some.inj h
          exact v_lret dX0_partOf_42 rfl rfl
  · replace h := ip_ c20 h
    refine v_lconst (v := 0) dX0_partOf_8 (by decide) ?_
    obtain rfl := Option.some.inj h
    exact v_lret dX0_partOf_9 rfl rfl

/-! X0 of (R) -/
def DX0_of_84 (N : Nat) (f : HF)  (v0 : Nat) (v1 : Int32) (v2 : Int32) (v3 : Int32) (v4 : Int64) : Option Int64 :=
    if (v3 - v2) < (1 : Int32) then
      some (-9223372036854775808 : Int64)
    else
      if (v3 - v2) ≤ (9 : Int32) then
        (DX0_partOf N v0 v3 f).bind fun x7 =>
        if x7 = (-9223372036854775808 : Int64) then
          some (-9223372036854775808 : Int64)
        else
          if v1 = 0 then
            some ((v4 * (1000 : Int64)) + x7)
          else
            some (-((v4 * (1000 : Int64)) + x7))
      else
        some (-9223372036854775808 : Int64)

def DX0_of_40 (N : Nat) (f : HF)  (n : Nat) (v0 : Nat) (v1 : Int32) (v2 : Int32) (v3 : Int32) (v4 : Int64) : Option Int64 :=
  match n with
  | 0 => none
  | n + 1 =>
    (DX5_count N v0 f).bind fun x5 =>
    if x5 ≤ v3 then
      DX0_of_84 N f v0 v1 v2 v3 v4
    else
      (DX5_get N v0 v3 f).bind fun x13 =>
      (DX0_isDigit N x13 f).bind fun x15 =>
      if x15 = 0 then
        DX0_of_84 N f v0 v1 v2 v3 v4
      else
        (DX5_get N v0 v3 f).bind fun x17 =>
        DX0_of_40 N f n v0 v1 v2 (v3 + 1) (((v4 * (10 : Int64)) + (x17.toInt64)) - (48 : Int64))

def DX0_of_34 (N : Nat) (f : HF)  (v0 : Nat) (v1 : Int32) (s0 : Int32) : Option Int64 :=
    DX0_of_40 N f N v0 v1 s0 s0 (0 : Int64)

def DX0_of_24 (N : Nat) (f : HF)  (v0 : Nat) (s0 : Int32) : Option Int64 :=
    if s0 = 0 then
      DX0_of_34 N f v0 s0 (0 : Int32)
    else
      DX0_of_34 N f v0 s0 (1 : Int32)

def DX0_of (N : Nat) (p0 : Nat) (f : HF) : Option Int64 :=
  (DX5_count N p0 f).bind fun x1 =>
  if x1 = 0 then
    some (0 : Int64)
  else
    (DX5_get N p0 (0 : Int32) f).bind fun x3 =>
    if x3 = (45 : Int32) then
      DX0_of_24 N f p0 (1 : Int32)
    else
      DX0_of_24 N f p0 (0 : Int32)

set_option maxRecDepth 20000 in
theorem tX0_of_84 {l : Launch} {g : GT} {sz : Option Nat} (N : Nat) (f : HF)  {r : Int64} : ∀ (v0 : Nat) (v1 : Int32) (v2 : Int32) (v3 : Int32) (v4 : Int64), DX0_of_84 N f v0 v1 v2 v3 v4 = some r → V l g (fun _ => True) (RX0, cX0_of, 8, (Option.some Jvm.ClassFile.FieldType.long), [], "of") 2 (roL (.inl r) f sz) 84 [(0, .ref v0), (1, .int v1), (2, .int v2), (3, .int v3), (4, .long v4)] [] f sz 0 0 := by
  intro v0 v1 v2 v3 v4 h
  unfold DX0_of_84 at h
  refine v_iload_n dX0_of_84 rfl rfl ?_
  refine v_iload_n dX0_of_85 rfl rfl ?_
  refine v_isub dX0_of_86 ?_
  refine v_iconst (v := 1) dX0_of_87 (by decide) ?_
  refine v_icmp_lt (tgt := 99) dX0_of_88 (by decide) (fun c12 => ?_) (fun c12 => ?_)
  · replace h := ip_ c12 h
    refine v_ldc2 dX0_of_99 kc_X0_33 ?_
    obtain rfl := Option.some.inj h
    exact v_lret dX0_of_102 rfl rfl
  · replace h := in_ c12 h
    refine v_iload_n dX0_of_91 rfl rfl ?_
    refine v_iload_n dX0_of_92 rfl rfl ?_
    refine v_isub dX0_of_93 ?_
    refine v_bipush (v := 9) dX0_of_94 (by decide) ?_
    refine v_icmp_le (tgt := 103) dX0_of_96 (by decide) (fun c11 => ?_) (fun c11 => ?_)
    · replace h := ip_ c11 h
      refine v_aload_n dX0_of_103 rfl rfl ?_
      refine v_iload_n dX0_of_104 rfl rfl ?_
      obtain ⟨x7, hx8, h⟩ := ob_some h
      have ehx8 := tX0_partOf (l := l) (g := g) (sz := sz) N v0 v3 f hx8
      refine v_cSL dX0_of_105 ml_X0_35 ok_X0_partOf ehx8 (by decide) rfl (rest := []) rfl (Nat.le_of_ble_eq_true rfl) ?_
      refine v_lstore (ls1 := [(6, .long x7), (0, .ref v0), (1, .int v1), (2, .int v2), (3, .int v3), (4, .long v4)]) dX0_of_108 (by decide) rfl ?_
      refine v_lload dX0_of_110 rfl ?_
      refine v_ldc2 dX0_of_112 kc_X0_33 ?_
      refine v_lcmp_ne (tgt := 123) dX0_of_115 dX0_of_116 (by decide) (fun c10 => ?_) (fun c10 => ?_)
      · replace h := in_ c10 h
        refine v_iload_n dX0_of_123 rfl rfl ?_
        refine v_if_eq (tgt := 140) dX0_of_124 (by decide) (fun c9 => ?_) (fun c9 => ?_)
        · replace h := ip_ c9 h
          refine v_lload dX0_of_140 rfl ?_
          refine v_ldc2 dX0_of_142 kc_X0_39 ?_
          refine v_lmul dX0_of_145 ?_
          refine v_lload dX0_of_146 rfl ?_
          refine v_ladd dX0_of_148 ?_
          obtain rfl := Option.some.inj h
          exact v_lret dX0_of_149 rfl rfl
        · replace h := in_ c9 h
          refine v_lload dX0_of_127 rfl ?_
          refine v_ldc2 dX0_of_129 kc_X0_39 ?_
          refine v_lmul dX0_of_132 ?_
          refine v_lload dX0_of_133 rfl ?_
          refine v_ladd dX0_of_135 ?_
          refine v_lneg dX0_of_136 ?_
          refine v_goto (tgt := 149) dX0_of_137 (by decide) ?_
          obtain rfl := Option.some.inj h
          exact v_lret dX0_of_149 rfl rfl
      · replace h := ip_ c10 h
        refine v_ldc2 dX0_of_119 kc_X0_33 ?_
        obtain rfl := Option.some.inj h
        exact v_lret dX0_of_122 rfl rfl
    · replace h := in_ c11 h
      refine v_ldc2 dX0_of_99 kc_X0_33 ?_
      obtain rfl := Option.some.inj h
      exact v_lret dX0_of_102 rfl rfl

set_option maxRecDepth 20000 in
theorem tX0_of_40 {l : Launch} {g : GT} {sz : Option Nat} (N : Nat) (f : HF)  {r : Int64} : ∀ (n : Nat), ∀ (v0 : Nat) (v1 : Int32) (v2 : Int32) (v3 : Int32) (v4 : Int64), DX0_of_40 N f n v0 v1 v2 v3 v4 = some r → V l g (fun _ => True) (RX0, cX0_of, 8, (Option.some Jvm.ClassFile.FieldType.long), [], "of") 2 (roL (.inl r) f sz) 40 [(0, .ref v0), (1, .int v1), (2, .int v2), (3, .int v3), (4, .long v4)] [] f sz 0 0 := by
  intro n
  induction n with
  | zero => intro v0 v1 v2 v3 v4 h; cases h
  | succ n ih =>
    intro v0 v1 v2 v3 v4 h
    rw [DX0_of_40] at h
    refine v_iload_n dX0_of_40 rfl rfl ?_
    refine v_aload_n dX0_of_41 rfl rfl ?_
    obtain ⟨x5, hx6, h⟩ := ob_some h
    have ehx6 := tX5_count (l := l) (g := g) (sz := sz) N v0 f hx6
    refine v_cVI dX0_of_42 ml_X0_13 ok_X5_count ehx6 (kX5_count N v0 f hx6) rfl (by decide) rfl (rest := [.int v3]) rfl (Nat.le_of_ble_eq_true rfl) ?_
    refine v_icmp_ge (tgt := 84) dX0_of_45 (by decide) (fun c20 => ?_) (fun c20 => ?_)
    · replace h := ip_ c20 h
      exact v_sub (vs_c rfl (vs_c rfl (vs_c rfl (vs_c rfl (vs_c rfl vs_n))))) (tX0_of_84 N f v0 v1 v2 v3 v4 h)
    · replace h := in_ c20 h
      refine v_aload_n dX0_of_48 rfl rfl ?_
      refine v_iload_n dX0_of_49 rfl rfl ?_
      obtain ⟨x13, hx14, h⟩ := ob_some h
      have ehx14 := tX5_get (l := l) (g := g) (sz := sz) N v0 v3 f hx14
      refine v_cVI dX0_of_50 ml_X0_19 ok_X5_get ehx14 (kX5_get N v0 v3 f hx14) rfl (by decide) rfl (rest := []) rfl (Nat.le_of_ble_eq_true rfl) ?_
      obtain ⟨x15, hx16, h⟩ := ob_some h
      have ehx16 := tX0_isDigit (l := l) (g := g) (sz := sz) N x13 f hx16
      refine v_cSI dX0_of_53 ml_X0_23 ok_X0_isDigit ehx16 (by decide) rfl (rest := []) rfl (Nat.le_of_ble_eq_true rfl) ?_
      refine v_if_eq (tgt := 84) dX0_of_56 (by decide) (fun c19 => ?_) (fun c19 => ?_)
      · replace h := ip_ c19 h
        exact v_sub (vs_c rfl (vs_c rfl (vs_c rfl (vs_c rfl (vs_c rfl vs_n))))) (tX0_of_84 N f v0 v1 v2 v3 v4 h)
      · replace h := in_ c19 h
        refine v_lload dX0_of_59 rfl ?_
        refine v_ldc2 dX0_of_61 kc_X0_29 ?_
        refine v_lmul dX0_of_64 ?_
        refine v_aload_n dX0_of_65 rfl rfl ?_
        refine v_iload_n dX0_of_66 rfl rfl ?_
        obtain ⟨x17, hx18, h⟩ := ob_some h
        have ehx18 := tX5_get (l := l) (g := g) (sz := sz) N v0 v3 f hx18
        refine v_cVI dX0_of_67 ml_X0_19 ok_X5_get ehx18 (kX5_get N v0 v3 f hx18) rfl (by decide) rfl (rest := [.long (v4 * (10 : Int64))]) rfl (Nat.le_of_ble_eq_true rfl) ?_
        refine v_i2l dX0_of_70 ?_
        refine v_ladd dX0_of_71 ?_
        refine v_ldc2 dX0_of_72 kc_X0_31 ?_
        refine v_lsub dX0_of_75 ?_
        refine v_lstore (ls1 := [(4, .long (((v4 * (10 : Int64)) + (x17.toInt64)) - (48 : Int64))), (0, .ref v0), (1, .int v1), (2, .int v2), (3, .int v3)]) dX0_of_76 (by decide) rfl ?_
        refine v_iinc (v := (v3 + 1)) (ls1 := [(3, .int (v3 + 1)), (4, .long (((v4 * (10 : Int64)) + (x17.toInt64)) - (48 : Int64))), (0, .ref v0), (1, .int v1), (2, .int v2)]) dX0_of_78 rfl rfl (by decide) rfl ?_
        refine v_goto (tgt := 40) dX0_of_81 (by decide) ?_
        exact v_sub (vs_c rfl (vs_c rfl (vs_c rfl (vs_c rfl (vs_c rfl vs_n))))) (ih v0 v1 v2 (v3 + 1) (((v4 * (10 : Int64)) + (x17.toInt64)) - (48 : Int64)) h)

set_option maxRecDepth 20000 in
theorem tX0_of_34 {l : Launch} {g : GT} {sz : Option Nat} (N : Nat) (f : HF)  {r : Int64} : ∀ (v0 : Nat) (v1 : Int32) (s0 : Int32), DX0_of_34 N f v0 v1 s0 = some r → V l g (fun _ => True) (RX0, cX0_of, 8, (Option.some Jvm.ClassFile.FieldType.long), [], "of") 2 (roL (.inl r) f sz) 34 [(0, .ref v0), (1, .int v1)] [.int s0] f sz 0 0 := by
  intro v0 v1 s0 h
  unfold DX0_of_34 at h
  refine v_istore_n (ls1 := [(2, .int s0), (0, .ref v0), (1, .int v1)]) dX0_of_34 rfl (by decide) rfl ?_
  refine v_iload_n dX0_of_35 rfl rfl ?_
  refine v_istore_n (ls1 := [(3, .int s0), (2, .int s0), (0, .ref v0), (1, .int v1)]) dX0_of_36 rfl (by decide) rfl ?_
  refine v_lconst (v := 0) dX0_of_37 (by decide) ?_
  refine v_lstore (ls1 := [(4, .long (0 : Int64)), (3, .int s0), (2, .int s0), (0, .ref v0), (1, .int v1)]) dX0_of_38 (by decide) rfl ?_
  exact v_sub (vs_c rfl (vs_c rfl (vs_c rfl (vs_c rfl (vs_c rfl vs_n))))) (tX0_of_40 N f N v0 v1 s0 s0 (0 : Int64) h)

set_option maxRecDepth 20000 in
theorem tX0_of_24 {l : Launch} {g : GT} {sz : Option Nat} (N : Nat) (f : HF)  {r : Int64} : ∀ (v0 : Nat) (s0 : Int32), DX0_of_24 N f v0 s0 = some r → V l g (fun _ => True) (RX0, cX0_of, 8, (Option.some Jvm.ClassFile.FieldType.long), [], "of") 2 (roL (.inl r) f sz) 24 [(0, .ref v0)] [.int s0] f sz 0 0 := by
  intro v0 s0 h
  unfold DX0_of_24 at h
  refine v_istore_n (ls1 := [(1, .int s0), (0, .ref v0)]) dX0_of_24 rfl (by decide) rfl ?_
  refine v_iload_n dX0_of_25 rfl rfl ?_
  refine v_if_eq (tgt := 33) dX0_of_26 (by decide) (fun c21 => ?_) (fun c21 => ?_)
  · replace h := ip_ c21 h
    refine v_iconst (v := 0) dX0_of_33 (by decide) ?_
    exact v_sub (vs_c rfl (vs_c rfl vs_n)) (tX0_of_34 N f v0 s0 (0 : Int32) h)
  · replace h := in_ c21 h
    refine v_iconst (v := 1) dX0_of_29 (by decide) ?_
    refine v_goto (tgt := 34) dX0_of_30 (by decide) ?_
    exact v_sub (vs_c rfl (vs_c rfl vs_n)) (tX0_of_34 N f v0 s0 (1 : Int32) h)

set_option maxRecDepth 20000 in
theorem tX0_of {l : Launch} {g : GT} {sz : Option Nat} (N : Nat) (p0 : Nat) (f : HF) {r : Int64} (h : DX0_of N p0 f = some r) : Mt l g yX0_of cX0_of 8 (Option.some Jvm.ClassFile.FieldType.long) 2 [.ref p0] f sz (roL (.inl r) f sz) := by
  unfold DX0_of at h
  refine mt_of (by decide) (Nat.le_of_ble_eq_true rfl) (?_ : V l g (fun _ => True) (RX0, cX0_of, 8, (Option.some Jvm.ClassFile.FieldType.long), [], "of") 2 (roL (.inl r) f sz) 0 [(0, .ref p0)] [] f sz 0 0)
  refine v_aload_n dX0_of_0 rfl rfl ?_
  obtain ⟨x1, hx2, h⟩ := ob_some h
  have ehx2 := tX5_count (l := l) (g := g) (sz := sz) N p0 f hx2
  refine v_cVI dX0_of_1 ml_X0_13 ok_X5_count ehx2 (kX5_count N p0 f hx2) rfl (by decide) rfl (rest := []) rfl (Nat.le_of_ble_eq_true rfl) ?_
  refine v_if_ne (tgt := 9) dX0_of_4 (by decide) (fun c23 => ?_) (fun c23 => ?_)
  · replace h := in_ c23 h
    refine v_aload_n dX0_of_9 rfl rfl ?_
    refine v_iconst (v := 0) dX0_of_10 (by decide) ?_
    obtain ⟨x3, hx4, h⟩ := ob_some h
    have ehx4 := tX5_get (l := l) (g := g) (sz := sz) N p0 (0 : Int32) f hx4
    refine v_cVI dX0_of_11 ml_X0_19 ok_X5_get ehx4 (kX5_get N p0 (0 : Int32) f hx4) rfl (by decide) rfl (rest := []) rfl (Nat.le_of_ble_eq_true rfl) ?_
    refine v_bipush (v := 45) dX0_of_14 (by decide) ?_
    refine v_icmp_ne (tgt := 23) dX0_of_16 (by decide) (fun c22 => ?_) (fun c22 => ?_)
    · replace h := in_ c22 h
      refine v_iconst (v := 0) dX0_of_23 (by decide) ?_
      exact v_sub (vs_c rfl vs_n) (tX0_of_24 N f p0 (0 : Int32) h)
    · replace h := ip_ c22 h
      refine v_iconst (v := 1) dX0_of_19 (by decide) ?_
      refine v_goto (tgt := 24) dX0_of_20 (by decide) ?_
      exact v_sub (vs_c rfl vs_n) (tX0_of_24 N f p0 (1 : Int32) h)
  · replace h := ip_ c23 h
    refine v_lconst (v := 0) dX0_of_7 (by decide) ?_
    obtain rfl := Option.some.inj h
    exact v_lret dX0_of_8 rfl rfl

/-! X0 cut (R) -/
def DX0_cut_5 (N : Nat) (f : HF)  (n : Nat) (v2 : Int32) (v3 : Int64) (v5 : Int32) : Option Int64 :=
  match n with
  | 0 => none
  | n + 1 =>
    if v2 ≤ v5 then
      some v3
    else
      DX0_cut_5 N f n v2 (v3 / (10 : Int64)) (v5 + 1)

def DX0_cut (N : Nat) (p0 : Int64) (p1 : Int32) (f : HF) : Option Int64 :=
  DX0_cut_5 N f N p1 p0 (0 : Int32)

set_option maxRecDepth 20000 in
theorem tX0_cut_5 {l : Launch} {g : GT} {sz : Option Nat} (N : Nat) (f : HF)  {r : Int64} : ∀ (n : Nat), ∀ (v2 : Int32) (v3 : Int64) (v5 : Int32), DX0_cut_5 N f n v2 v3 v5 = some r → V l g (fun _ => True) (RX0, cX0_cut, 6, (Option.some Jvm.ClassFile.FieldType.long), [], "cut") 0 (roL (.inl r) f sz) 5 [(2, .int v2), (3, .long v3), (5, .int v5)] [] f sz 0 0 := by
  intro n
  induction n with
  | zero => intro v2 v3 v5 h; cases h
  | succ n ih =>
    intro v2 v3 v5 h
    rw [DX0_cut_5] at h
    refine v_iload dX0_cut_5 rfl ?_
    refine v_iload_n dX0_cut_7 rfl rfl ?_
    refine v_icmp_ge (tgt := 23) dX0_cut_8 (by decide) (fun c1 => ?_) (fun c1 => ?_)
    · replace h := ip_ c1 h
      refine v_lload_n dX0_cut_23 rfl rfl ?_
      obtain rfl := Option.some.inj h
      exact v_lret dX0_cut_24 rfl rfl
    · replace h := in_ c1 h
      refine v_lload_n dX0_cut_11 rfl rfl ?_
      refine v_ldc2 dX0_cut_12 kc_X0_29 ?_
      refine v_ldiv dX0_cut_15 (by decide) ?_
      refine v_lstore_n (ls1 := [(3, .long (v3 / (10 : Int64))), (2, .int v2), (5, .int v5)]) dX0_cut_16 rfl (by decide) rfl ?_
      refine v_iinc (v := (v5 + 1)) (ls1 := [(5, .int (v5 + 1)), (3, .long (v3 / (10 : Int64))), (2, .int v2)]) dX0_cut_17 rfl rfl (by decide) rfl ?_
      refine v_goto (tgt := 5) dX0_cut_20 (by decide) ?_
      exact v_sub (vs_c rfl (vs_c rfl (vs_c rfl vs_n))) (ih v2 (v3 / (10 : Int64)) (v5 + 1) h)

set_option maxRecDepth 20000 in
theorem tX0_cut {l : Launch} {g : GT} {sz : Option Nat} (N : Nat) (p0 : Int64) (p1 : Int32) (f : HF) {r : Int64} (h : DX0_cut N p0 p1 f = some r) : Mt l g yX0_cut cX0_cut 6 (Option.some Jvm.ClassFile.FieldType.long) 0 [.long p0, .int p1] f sz (roL (.inl r) f sz) := by
  unfold DX0_cut at h
  refine mt_of (by decide) (Nat.le_of_ble_eq_true rfl) (?_ : V l g (fun _ => True) (RX0, cX0_cut, 6, (Option.some Jvm.ClassFile.FieldType.long), [], "cut") 0 (roL (.inl r) f sz) 0 [(0, .long p0), (2, .int p1)] [] f sz 0 0)
  refine v_lload_n dX0_cut_0 rfl rfl ?_
  refine v_lstore_n (ls1 := [(3, .long p0), (0, .long p0), (2, .int p1)]) dX0_cut_1 rfl (by decide) rfl ?_
  refine v_iconst (v := 0) dX0_cut_2 (by decide) ?_
  refine v_istore (ls1 := [(5, .int (0 : Int32)), (3, .long p0), (0, .long p0), (2, .int p1)]) dX0_cut_3 (by decide) rfl ?_
  exact v_sub (vs_c rfl (vs_c rfl (vs_c rfl vs_n))) (tX0_cut_5 N f N p1 p0 (0 : Int32) h)

/-! X0 digitSign (R) -/
def DX0_digitSign (N : Nat) (p0 : Int64) (p1 : Int32) (f : HF) : Option Int32 :=
  (DX0_cut N p0 p1 f).bind fun x1 =>
  some ((48 : Int32) + (((x1 - x1 / (10 : Int64) * (10 : Int64))).toInt32))

set_option maxRecDepth 20000 in
theorem tX0_digitSign {l : Launch} {g : GT} {sz : Option Nat} (N : Nat) (p0 : Int64) (p1 : Int32) (f : HF) {r : Int32} (h : DX0_digitSign N p0 p1 f = some r) : Mt l g yX0_digitSign cX0_digitSign 3 (Option.some Jvm.ClassFile.FieldType.int) 1 [.long p0, .int p1] f sz (roI (.inl r) f sz) := by
  unfold DX0_digitSign at h
  refine mt_of (by decide) (Nat.le_of_ble_eq_true rfl) (?_ : V l g (fun _ => True) (RX0, cX0_digitSign, 3, (Option.some Jvm.ClassFile.FieldType.int), [], "digitSign") 1 (roI (.inl r) f sz) 0 [(0, .long p0), (2, .int p1)] [] f sz 0 0)
  refine v_bipush (v := 48) dX0_digitSign_0 (by decide) ?_
  refine v_lload_n dX0_digitSign_2 rfl rfl ?_
  refine v_iload_n dX0_digitSign_3 rfl rfl ?_
  obtain ⟨x1, hx2, h⟩ := ob_some h
  have ehx2 := tX0_cut (l := l) (g := g) (sz := sz) N p0 p1 f hx2
  refine v_cSL dX0_digitSign_4 ml_X0_41 ok_X0_cut ehx2 (by decide) rfl (rest := [.int (48 : Int32)]) rfl (Nat.le_of_ble_eq_true rfl) ?_
  refine v_ldc2 dX0_digitSign_7 kc_X0_29 ?_
  refine v_lrem dX0_digitSign_10 (by decide) ?_
  refine v_l2i dX0_digitSign_11 ?_
  refine v_iadd dX0_digitSign_12 ?_
  obtain rfl := Option.some.inj h
  exact v_iret dX0_digitSign_13 rfl rfl

/-! X0 addNumber (W) -/
def DX0_addNumber_72 (N : Nat) (k33 : Int64 → Int32 → Nat → Int32 → HF → Option (Unit × HF)) (v0 : Int64) (v2 : Int32) (v3 : Nat) (v5 : Int32) (f : HF) : Option (Unit × HF) :=
    k33 v0 v2 v3 (v5 + (-1)) f

def DX0_addNumber_33 (N : Nat)  (n : Nat) (v0 : Int64) (v2 : Int32) (v3 : Nat) (v5 : Int32) (f : HF) : Option (Unit × HF) :=
  match n with
  | 0 => none
  | n + 1 =>
    if v5 < 0 then
      some ((), f)
    else
      (DX0_digitSign N v0 v5 f).bind fun x1 =>
      bW (DX5_add N v3 x1 f) fun x3 f5 =>
      if v2 = 0 then
        DX0_addNumber_72 N (DX0_addNumber_33 N n) v0 v2 v3 v5 f5
      else
        if v5 ≤ 0 then
          DX0_addNumber_72 N (DX0_addNumber_33 N n) v0 v2 v3 v5 f5
        else
          if (v5 - v5 / (3 : Int32) * (3 : Int32)) = 0 then
            bW (DX5_add N v3 (44 : Int32) f5) fun x6 f8 =>
            DX0_addNumber_72 N (DX0_addNumber_33 N n) v0 v2 v3 v5 f8
          else
            DX0_addNumber_72 N (DX0_addNumber_33 N n) v0 v2 v3 v5 f5

def DX0_addNumber_27 (N : Nat)  (v0 : Int64) (v2 : Int32) (v3 : Nat) (v4 : Int32) (f : HF) : Option (Unit × HF) :=
    DX0_addNumber_33 N N v0 v2 v3 (v4 - (1 : Int32)) f

def DX0_addNumber_3 (N : Nat)  (n : Nat) (v0 : Int64) (v2 : Int32) (v3 : Nat) (v4 : Int32) (f : HF) : Option (Unit × HF) :=
  match n with
  | 0 => none
  | n + 1 =>
    if (18 : Int32) ≤ v4 then
      DX0_addNumber_27 N v0 v2 v3 v4 f
    else
      (DX0_cut N v0 v4 f).bind fun x13 =>
      if x13 ≤ (0 : Int64) then
        DX0_addNumber_27 N v0 v2 v3 v4 f
      else
        DX0_addNumber_3 N n v0 v2 v3 (v4 + 1) f

def DX0_addNumber (N : Nat) (p0 : Int64) (p1 : Int32) (p2 : Nat) (f : HF) : Option (Unit × HF) :=
  DX0_addNumber_3 N N p0 p1 p2 (1 : Int32) f

set_option maxRecDepth 20000 in
theorem tX0_addNumber_72 {l : Launch} {g : GT} {sz : Option Nat} (N : Nat) (k33 : Int64 → Int32 → Nat → Int32 → HF → Option (Unit × HF)) {r : (Unit × HF)} (hk33 : ∀ (w0 : Int64) (w2 : Int32) (w3 : Nat) (w5 : Int32) (f : HF), k33 w0 w2 w3 w5 f = some r → V l g (fun _ => True) (RX0, cX0_addNumber, 6, (Option.none : Option Jvm.ClassFile.FieldType), [], "addNumber") 2 (roU (.inl r.1) r.2 sz) 33 [(0, .long w0), (2, .int w2), (3, .ref w3), (5, .int w5)] [] f sz 0 0) : ∀ (v0 : Int64) (v2 : Int32) (v3 : Nat) (v5 : Int32) (f : HF), DX0_addNumber_72 N k33 v0 v2 v3 v5 f = some r → V l g (fun _ => True) (RX0, cX0_addNumber, 6, (Option.none : Option Jvm.ClassFile.FieldType), [], "addNumber") 2 (roU (.inl r.1) r.2 sz) 72 [(0, .long v0), (2, .int v2), (3, .ref v3), (5, .int v5)] [] f sz 0 0 := by
  intro v0 v2 v3 v5 f h
  unfold DX0_addNumber_72 at h
  refine v_iinc (v := (v5 + (-1))) (ls1 := [(5, .int (v5 + (-1))), (0, .long v0), (2, .int v2), (3, .ref v3)]) dX0_addNumber_72 rfl rfl (by decide) rfl ?_
  refine v_goto (tgt := 33) dX0_addNumber_75 (by decide) ?_
  exact v_sub (vs_c rfl (vs_c rfl (vs_c rfl (vs_c rfl vs_n)))) (hk33 v0 v2 v3 (v5 + (-1)) f h)

set_option maxRecDepth 20000 in
theorem tX0_addNumber_33 {l : Launch} {g : GT} {sz : Option Nat} (N : Nat)  {r : (Unit × HF)} : ∀ (n : Nat), ∀ (v0 : Int64) (v2 : Int32) (v3 : Nat) (v5 : Int32) (f : HF), DX0_addNumber_33 N n v0 v2 v3 v5 f = some r → V l g (fun _ => True) (RX0, cX0_addNumber, 6, (Option.none : Option Jvm.ClassFile.FieldType), [], "addNumber") 2 (roU (.inl r.1) r.2 sz) 33 [(0, .long v0), (2, .int v2), (3, .ref v3), (5, .int v5)] [] f sz 0 0 := by
  intro n
  induction n with
  | zero => intro v0 v2 v3 v5 f h; cases h
  | succ n ih =>
    intro v0 v2 v3 v5 f h
    rw [DX0_addNumber_33] at h
    refine v_iload dX0_addNumber_33 rfl ?_
    refine v_if_lt (tgt := 78) dX0_addNumber_35 (by decide) (fun c12 => ?_) (fun c12 => ?_)
    · replace h := ip_ c12 h
      obtain rfl := Option.some.inj h
      exact v_vret dX0_addNumber_78 rfl rfl
    · replace h := in_ c12 h
      refine v_aload_n dX0_addNumber_38 rfl rfl ?_
      refine v_lload_n dX0_addNumber_39 rfl rfl ?_
      refine v_iload dX0_addNumber_40 rfl ?_
      obtain ⟨x1, hx2, h⟩ := ob_some h
      have ehx2 := tX0_digitSign (l := l) (g := g) (sz := sz) N v0 v5 f hx2
      refine v_cSI dX0_addNumber_42 ml_X0_45 ok_X0_digitSign ehx2 (by decide) rfl (rest := [.ref v3]) rfl (Nat.le_of_ble_eq_true rfl) ?_
      obtain ⟨x3, f5, hx4, h⟩ := bW_some h
      have ehx4 := tX5_add (l := l) (g := g) (sz := sz) N v3 x1 f hx4
      refine v_cVI dX0_addNumber_45 ml_X0_49 ok_X5_add ehx4 (kX5_add N v3 x1 f hx4) rfl (by decide) rfl (rest := []) rfl (Nat.le_of_ble_eq_true rfl) ?_
      refine v_pop dX0_addNumber_48 rfl ?_
      refine v_iload_n dX0_addNumber_49 rfl rfl ?_
      refine v_if_eq (tgt := 72) dX0_addNumber_50 (by decide) (fun c11 => ?_) (fun c11 => ?_)
      · replace h := ip_ c11 h
        exact v_sub (vs_c rfl (vs_c rfl (vs_c rfl (vs_c rfl vs_n)))) (tX0_addNumber_72 N (DX0_addNumber_33 N n) ih v0 v2 v3 v5 f5 h)
      · replace h := in_ c11 h
        refine v_iload dX0_addNumber_53 rfl ?_
        refine v_if_le (tgt := 72) dX0_addNumber_55 (by decide) (fun c10 => ?_) (fun c10 => ?_)
        · replace h := ip_ c10 h
          exact v_sub (vs_c rfl (vs_c rfl (vs_c rfl (vs_c rfl vs_n)))) (tX0_addNumber_72 N (DX0_addNumber_33 N n) ih v0 v2 v3 v5 f5 h)
        · replace h := in_ c10 h
          refine v_iload dX0_addNumber_58 rfl ?_
          refine v_iconst (v := 3) dX0_addNumber_60 (by decide) ?_
          refine v_irem dX0_addNumber_61 (by decide) ?_
          refine v_if_ne (tgt := 72) dX0_addNumber_62 (by decide) (fun c9 => ?_) (fun c9 => ?_)
          · replace h := in_ c9 h
            exact v_sub (vs_c rfl (vs_c rfl (vs_c rfl (vs_c rfl vs_n)))) (tX0_addNumber_72 N (DX0_addNumber_33 N n) ih v0 v2 v3 v5 f5 h)
          · replace h := ip_ c9 h
            refine v_aload_n dX0_addNumber_65 rfl rfl ?_
            refine v_bipush (v := 44) dX0_addNumber_66 (by decide) ?_
            obtain ⟨x6, f8, hx7, h⟩ := bW_some h
            have ehx7 := tX5_add (l := l) (g := g) (sz := sz) N v3 (44 : Int32) f5 hx7
            refine v_cVI dX0_addNumber_68 ml_X0_49 ok_X5_add ehx7 (kX5_add N v3 (44 : Int32) f5 hx7) rfl (by decide) rfl (rest := []) rfl (Nat.le_of_ble_eq_true rfl) ?_
            refine v_pop dX0_addNumber_71 rfl ?_
            exact v_sub (vs_c rfl (vs_c rfl (vs_c rfl (vs_c rfl vs_n)))) (tX0_addNumber_72 N (DX0_addNumber_33 N n) ih v0 v2 v3 v5 f8 h)

set_option maxRecDepth 20000 in
theorem tX0_addNumber_27 {l : Launch} {g : GT} {sz : Option Nat} (N : Nat)  {r : (Unit × HF)} : ∀ (v0 : Int64) (v2 : Int32) (v3 : Nat) (v4 : Int32) (f : HF), DX0_addNumber_27 N v0 v2 v3 v4 f = some r → V l g (fun _ => True) (RX0, cX0_addNumber, 6, (Option.none : Option Jvm.ClassFile.FieldType), [], "addNumber") 2 (roU (.inl r.1) r.2 sz) 27 [(0, .long v0), (2, .int v2), (3, .ref v3), (4, .int v4)] [] f sz 0 0 := by
  intro v0 v2 v3 v4 f h
  unfold DX0_addNumber_27 at h
  refine v_iload dX0_addNumber_27 rfl ?_
  refine v_iconst (v := 1) dX0_addNumber_29 (by decide) ?_
  refine v_isub dX0_addNumber_30 ?_
  refine v_istore (ls1 := [(5, .int (v4 - (1 : Int32))), (0, .long v0), (2, .int v2), (3, .ref v3), (4, .int v4)]) dX0_addNumber_31 (by decide) rfl ?_
  exact v_sub (vs_c rfl (vs_c rfl (vs_c rfl (vs_c rfl vs_n)))) (tX0_addNumber_33 N N v0 v2 v3 (v4 - (1 : Int32)) f h)

set_option maxRecDepth 20000 in
theorem tX0_addNumber_3 {l : Launch} {g : GT} {sz : Option Nat} (N : Nat)  {r : (Unit × HF)} : ∀ (n : Nat), ∀ (v0 : Int64) (v2 : Int32) (v3 : Nat) (v4 : Int32) (f : HF), DX0_addNumber_3 N n v0 v2 v3 v4 f = some r → V l g (fun _ => True) (RX0, cX0_addNumber, 6, (Option.none : Option Jvm.ClassFile.FieldType), [], "addNumber") 2 (roU (.inl r.1) r.2 sz) 3 [(0, .long v0), (2, .int v2), (3, .ref v3), (4, .int v4)] [] f sz 0 0 := by
  intro n
  induction n with
  | zero => intro v0 v2 v3 v4 f h; cases h
  | succ n ih =>
    intro v0 v2 v3 v4 f h
    rw [DX0_addNumber_3] at h
    refine v_iload dX0_addNumber_3 rfl ?_
    refine v_bipush (v := 18) dX0_addNumber_5 (by decide) ?_
    refine v_icmp_ge (tgt := 27) dX0_addNumber_7 (by decide) (fun c16 => ?_) (fun c16 => ?_)
    · replace h := ip_ c16 h
      exact v_sub (vs_c rfl (vs_c rfl (vs_c rfl (vs_c rfl vs_n)))) (tX0_addNumber_27 N v0 v2 v3 v4 f h)
    · replace h := in_ c16 h
      refine v_lload_n dX0_addNumber_10 rfl rfl ?_
      refine v_iload dX0_addNumber_11 rfl ?_
      obtain ⟨x13, hx14, h⟩ := ob_some h
      have ehx14 := tX0_cut (l := l) (g := g) (sz := sz) N v0 v4 f hx14
      refine v_cSL dX0_addNumber_13 ml_X0_41 ok_X0_cut ehx14 (by decide) rfl (rest := []) rfl (Nat.le_of_ble_eq_true rfl) ?_
      refine v_lconst (v := 0) dX0_addNumber_16 (by decide) ?_
      refine v_lcmp_le (tgt := 27) dX0_addNumber_17 dX0_addNumber_18 (by decide) (fun c15 => ?_) (fun c15 => ?_)
      · replace h := ip_ c15 h
        exact v_sub (vs_c rfl (vs_c rfl (vs_c rfl (vs_c rfl vs_n)))) (tX0_addNumber_27 N v0 v2 v3 v4 f h)
      · replace h := in_ c15 h
        refine v_iinc (v := (v4 + 1)) (ls1 := [(4, .int (v4 + 1)), (0, .long v0), (2, .int v2), (3, .ref v3)]) dX0_addNumber_21 rfl rfl (by decide) rfl ?_
        refine v_goto (tgt := 3) dX0_addNumber_24 (by decide) ?_
        exact v_sub (vs_c rfl (vs_c rfl (vs_c rfl (vs_c rfl vs_n)))) (ih v0 v2 v3 (v4 + 1) f h)

set_option maxRecDepth 20000 in
theorem tX0_addNumber {l : Launch} {g : GT} {sz : Option Nat} (N : Nat) (p0 : Int64) (p1 : Int32) (p2 : Nat) (f : HF) {r : (Unit × HF)} (h : DX0_addNumber N p0 p1 p2 f = some r) : Mt l g yX0_addNumber cX0_addNumber 6 (Option.none : Option Jvm.ClassFile.FieldType) 2 [.long p0, .int p1, .ref p2] f sz (roU (.inl r.1) r.2 sz) := by
  unfold DX0_addNumber at h
  refine mt_of (by decide) (Nat.le_of_ble_eq_true rfl) (?_ : V l g (fun _ => True) (RX0, cX0_addNumber, 6, (Option.none : Option Jvm.ClassFile.FieldType), [], "addNumber") 2 (roU (.inl r.1) r.2 sz) 0 [(0, .long p0), (2, .int p1), (3, .ref p2)] [] f sz 0 0)
  refine v_iconst (v := 1) dX0_addNumber_0 (by decide) ?_
  refine v_istore (ls1 := [(4, .int (1 : Int32)), (0, .long p0), (2, .int p1), (3, .ref p2)]) dX0_addNumber_1 (by decide) rfl ?_
  exact v_sub (vs_c rfl (vs_c rfl (vs_c rfl (vs_c rfl vs_n)))) (tX0_addNumber_3 N N p0 p1 p2 (1 : Int32) f h)

/-! X0 addPart (W) -/
def DX0_addPart_17 (N : Nat)  (n : Nat) (v0 : Int64) (v3 : Nat) (v4 : Int32) (f : HF) : Option (Unit × HF) :=
  match n with
  | 0 => none
  | n + 1 =>
    if v4 < 0 then
      some ((), f)
    else
      (DX0_digitSign N v0 v4 f).bind fun x4 =>
      bW (DX5_add N v3 x4 f) fun x6 f8 =>
      DX0_addPart_17 N n v0 v3 (v4 + (-1)) f8

def DX0_addPart (N : Nat) (p0 : Int64) (p1 : Int32) (p2 : Nat) (f : HF) : Option (Unit × HF) :=
  if 0 < p1 then
    bW (DX5_add N p2 (46 : Int32) f) fun x1 f3 =>
    DX0_addPart_17 N N p0 p2 (p1 - (1 : Int32)) f3
  else
    some ((), f)

set_option maxRecDepth 20000 in
theorem tX0_addPart_17 {l : Launch} {g : GT} {sz : Option Nat} (N : Nat)  {r : (Unit × HF)} : ∀ (n : Nat), ∀ (v0 : Int64) (v3 : Nat) (v4 : Int32) (f : HF), DX0_addPart_17 N n v0 v3 v4 f = some r → V l g (fun _ => True) (RX0, cX0_addPart, 5, (Option.none : Option Jvm.ClassFile.FieldType), [], "addPart") 2 (roU (.inl r.1) r.2 sz) 17 [(0, .long v0), (3, .ref v3), (4, .int v4)] [] f sz 0 0 := by
  intro n
  induction n with
  | zero => intro v0 v3 v4 f h; cases h
  | succ n ih =>
    intro v0 v3 v4 f h
    rw [DX0_addPart_17] at h
    refine v_iload dX0_addPart_17 rfl ?_
    refine v_if_lt (tgt := 39) dX0_addPart_19 (by decide) (fun c9 => ?_) (fun c9 => ?_)
    · replace h := ip_ c9 h
      obtain rfl := Option.some.inj h
      exact v_vret dX0_addPart_39 rfl rfl
    · replace h := in_ c9 h
      refine v_aload_n dX0_addPart_22 rfl rfl ?_
      refine v_lload_n dX0_addPart_23 rfl rfl ?_
      refine v_iload dX0_addPart_24 rfl ?_
      obtain ⟨x4, hx5, h⟩ := ob_some h
      have ehx5 := tX0_digitSign (l := l) (g := g) (sz := sz) N v0 v4 f hx5
      refine v_cSI dX0_addPart_26 ml_X0_45 ok_X0_digitSign ehx5 (by decide) rfl (rest := [.ref v3]) rfl (Nat.le_of_ble_eq_true rfl) ?_
      obtain ⟨x6, f8, hx7, h⟩ := bW_some h
      have ehx7 := tX5_add (l := l) (g := g) (sz := sz) N v3 x4 f hx7
      refine v_cVI dX0_addPart_29 ml_X0_49 ok_X5_add ehx7 (kX5_add N v3 x4 f hx7) rfl (by decide) rfl (rest := []) rfl (Nat.le_of_ble_eq_true rfl) ?_
      refine v_pop dX0_addPart_32 rfl ?_
      refine v_iinc (v := (v4 + (-1))) (ls1 := [(4, .int (v4 + (-1))), (0, .long v0), (3, .ref v3)]) dX0_addPart_33 rfl rfl (by decide) rfl ?_
      refine v_goto (tgt := 17) dX0_addPart_36 (by decide) ?_
      exact v_sub (vs_c rfl (vs_c rfl (vs_c rfl vs_n))) (ih v0 v3 (v4 + (-1)) f8 h)

set_option maxRecDepth 20000 in
theorem tX0_addPart {l : Launch} {g : GT} {sz : Option Nat} (N : Nat) (p0 : Int64) (p1 : Int32) (p2 : Nat) (f : HF) {r : (Unit × HF)} (h : DX0_addPart N p0 p1 p2 f = some r) : Mt l g yX0_addPart cX0_addPart 5 (Option.none : Option Jvm.ClassFile.FieldType) 2 [.long p0, .int p1, .ref p2] f sz (roU (.inl r.1) r.2 sz) := by
  unfold DX0_addPart at h
  refine mt_of (by decide) (Nat.le_of_ble_eq_true rfl) (?_ : V l g (fun _ => True) (RX0, cX0_addPart, 5, (Option.none : Option Jvm.ClassFile.FieldType), [], "addPart") 2 (roU (.inl r.1) r.2 sz) 0 [(0, .long p0), (2, .int p1), (3, .ref p2)] [] f sz 0 0)
  refine v_iload_n dX0_addPart_0 rfl rfl ?_
  refine v_if_gt (tgt := 5) dX0_addPart_1 (by decide) (fun c10 => ?_) (fun c10 => ?_)
  · replace h := ip_ c10 h
    refine v_aload_n dX0_addPart_5 rfl rfl ?_
    refine v_bipush (v := 46) dX0_addPart_6 (by decide) ?_
    obtain ⟨x1, f3, hx2, h⟩ := bW_some h
    have ehx2 := tX5_add (l := l) (g := g) (sz := sz) N p2 (46 : Int32) f hx2
    refine v_cVI dX0_addPart_8 ml_X0_49 ok_X5_add ehx2 (kX5_add N p2 (46 : Int32) f hx2) rfl (by decide) rfl (rest := []) rfl (Nat.le_of_ble_eq_true rfl) ?_
    refine v_pop dX0_addPart_11 rfl ?_
    refine v_iload_n dX0_addPart_12 rfl rfl ?_
    refine v_iconst (v := 1) dX0_addPart_13 (by decide) ?_
    refine v_isub dX0_addPart_14 ?_
    refine v_istore (ls1 := [(4, .int (p1 - (1 : Int32))), (0, .long p0), (2, .int p1), (3, .ref p2)]) dX0_addPart_15 (by decide) rfl ?_
    exact v_sub (vs_c rfl (vs_c rfl (vs_c rfl vs_n))) (tX0_addPart_17 N N p0 p2 (p1 - (1 : Int32)) f3 h)
  · replace h := in_ c10 h
    obtain rfl := Option.some.inj h
    exact v_vret dX0_addPart_4 rfl rfl

/-! X0 addWritten (W) -/
def DX0_addWritten_91 (N : Nat)  (v2 : Nat) (v5 : Int64) (v7 : Int32) (f : HF) : Option (Unit × HF) :=
    bW (DX0_addPart N v5 v7 v2 f) fun x4 f6 =>
    some ((), f6)

def DX0_addWritten_52 (N : Nat)  (n : Nat) (v2 : Nat) (v5 : Int64) (v7 : Int32) (v8 : Int32) (f : HF) : Option (Unit × HF) :=
  match n with
  | 0 => none
  | n + 1 =>
    if (2 : Int32) ≤ v8 then
      DX0_addWritten_91 N v2 v5 v7 f
    else
      if v7 ≤ 0 then
        DX0_addWritten_91 N v2 v5 v7 f
      else
        if (v5 - v5 / (10 : Int64) * (10 : Int64)) = (0 : Int64) then
          DX0_addWritten_52 N n v2 (v5 / (10 : Int64)) (v7 + (-1)) (v8 + 1) f
        else
          DX0_addWritten_91 N v2 v5 v7 f

def DX0_addWritten_47 (N : Nat)  (v2 : Nat) (v5 : Int64) (s0 : Int32) (f : HF) : Option (Unit × HF) :=
    DX0_addWritten_52 N N v2 v5 s0 (0 : Int32) f

def DX0_addWritten_18 (N : Nat)  (v2 : Nat) (v3 : Int64) (f : HF) : Option (Unit × HF) :=
    bW (DX0_addNumber N (v3 / (1000 : Int64)) (0 : Int32) v2 f) fun x1 f3 =>
    if (v3 - v3 / (1000 : Int64) * (1000 : Int64)) = (0 : Int64) then
      DX0_addWritten_47 N v2 (v3 - v3 / (1000 : Int64) * (1000 : Int64)) (0 : Int32) f3
    else
      DX0_addWritten_47 N v2 (v3 - v3 / (1000 : Int64) * (1000 : Int64)) (3 : Int32) f3

def DX0_addWritten (N : Nat) (p0 : Int64) (p1 : Nat) (f : HF) : Option (Unit × HF) :=
  if (0 : Int64) ≤ p0 then
    DX0_addWritten_18 N p1 (abL p0) f
  else
    bW (DX5_add N p1 (45 : Int32) f) fun x11 f13 =>
    DX0_addWritten_18 N p1 (abL p0) f13

set_option maxRecDepth 20000 in
theorem tX0_addWritten_91 {l : Launch} {g : GT} {sz : Option Nat} (N : Nat)  {r : (Unit × HF)} : ∀ (v2 : Nat) (v5 : Int64) (v7 : Int32) (f : HF), DX0_addWritten_91 N v2 v5 v7 f = some r → V l g (fun _ => True) (RX0, cX0_addWritten, 9, (Option.none : Option Jvm.ClassFile.FieldType), [], "addWritten") 3 (roU (.inl r.1) r.2 sz) 91 [(2, .ref v2), (5, .long v5), (7, .int v7)] [] f sz 0 0 := by
  intro v2 v5 v7 f h
  unfold DX0_addWritten_91 at h
  refine v_lload dX0_addWritten_91 rfl ?_
  refine v_iload dX0_addWritten_93 rfl ?_
  refine v_aload_n dX0_addWritten_95 rfl rfl ?_
  obtain ⟨x4, f6, hx5, h⟩ := bW_some h
  have ehx5 := tX0_addPart (l := l) (g := g) (sz := sz) N v5 v7 v2 f hx5
  refine v_cSU dX0_addWritten_96 ml_X0_62 ok_X0_addPart ehx5 (by decide) rfl (rest := []) rfl (Nat.le_of_ble_eq_true rfl) ?_
  obtain rfl := Option.some.inj h
  exact v_vret dX0_addWritten_99 rfl rfl

set_option maxRecDepth 20000 in
theorem tX0_addWritten_52 {l : Launch} {g : GT} {sz : Option Nat} (N : Nat)  {r : (Unit × HF)} : ∀ (n : Nat), ∀ (v2 : Nat) (v5 : Int64) (v7 : Int32) (v8 : Int32) (f : HF), DX0_addWritten_52 N n v2 v5 v7 v8 f = some r → V l g (fun _ => True) (RX0, cX0_addWritten, 9, (Option.none : Option Jvm.ClassFile.FieldType), [], "addWritten") 3 (roU (.inl r.1) r.2 sz) 52 [(2, .ref v2), (5, .long v5), (7, .int v7), (8, .int v8)] [] f sz 0 0 := by
  intro n
  induction n with
  | zero => intro v2 v5 v7 v8 f h; cases h
  | succ n ih =>
    intro v2 v5 v7 v8 f h
    rw [DX0_addWritten_52] at h
    refine v_iload dX0_addWritten_52 rfl ?_
    refine v_iconst (v := 2) dX0_addWritten_54 (by decide) ?_
    refine v_icmp_ge (tgt := 91) dX0_addWritten_55 (by decide) (fun c9 => ?_) (fun c9 => ?_)
    · replace h := ip_ c9 h
      exact v_sub (vs_c rfl (vs_c rfl (vs_c rfl vs_n))) (tX0_addWritten_91 N v2 v5 v7 f h)
    · replace h := in_ c9 h
      refine v_iload dX0_addWritten_58 rfl ?_
      refine v_if_le (tgt := 91) dX0_addWritten_60 (by decide) (fun c8 => ?_) (fun c8 => ?_)
      · replace h := ip_ c8 h
        exact v_sub (vs_c rfl (vs_c rfl (vs_c rfl vs_n))) (tX0_addWritten_91 N v2 v5 v7 f h)
      · replace h := in_ c8 h
        refine v_lload dX0_addWritten_63 rfl ?_
        refine v_ldc2 dX0_addWritten_65 kc_X0_29 ?_
        refine v_lrem dX0_addWritten_68 (by decide) ?_
        refine v_lconst (v := 0) dX0_addWritten_69 (by decide) ?_
        refine v_lcmp_ne (tgt := 91) dX0_addWritten_70 dX0_addWritten_71 (by decide) (fun c7 => ?_) (fun c7 => ?_)
        · replace h := in_ c7 h
          exact v_sub (vs_c rfl (vs_c rfl (vs_c rfl vs_n))) (tX0_addWritten_91 N v2 v5 v7 f h)
        · replace h := ip_ c7 h
          refine v_lload dX0_addWritten_74 rfl ?_
          refine v_ldc2 dX0_addWritten_76 kc_X0_29 ?_
          refine v_ldiv dX0_addWritten_79 (by decide) ?_
          refine v_lstore (ls1 := [(5, .long (v5 / (10 : Int64))), (2, .ref v2), (7, .int v7), (8, .int v8)]) dX0_addWritten_80 (by decide) rfl ?_
          refine v_iinc (v := (v7 + (-1))) (ls1 := [(7, .int (v7 + (-1))), (5, .long (v5 / (10 : Int64))), (2, .ref v2), (8, .int v8)]) dX0_addWritten_82 rfl rfl (by decide) rfl ?_
          refine v_iinc (v := (v8 + 1)) (ls1 := [(8, .int (v8 + 1)), (7, .int (v7 + (-1))), (5, .long (v5 / (10 : Int64))), (2, .ref v2)]) dX0_addWritten_85 rfl rfl (by decide) rfl ?_
          refine v_goto (tgt := 52) dX0_addWritten_88 (by decide) ?_
          exact v_sub (vs_c rfl (vs_c rfl (vs_c rfl (vs_c rfl vs_n)))) (ih v2 (v5 / (10 : Int64)) (v7 + (-1)) (v8 + 1) f h)

set_option maxRecDepth 20000 in
theorem tX0_addWritten_47 {l : Launch} {g : GT} {sz : Option Nat} (N : Nat)  {r : (Unit × HF)} : ∀ (v2 : Nat) (v5 : Int64) (s0 : Int32) (f : HF), DX0_addWritten_47 N v2 v5 s0 f = some r → V l g (fun _ => True) (RX0, cX0_addWritten, 9, (Option.none : Option Jvm.ClassFile.FieldType), [], "addWritten") 3 (roU (.inl r.1) r.2 sz) 47 [(2, .ref v2), (5, .long v5)] [.int s0] f sz 0 0 := by
  intro v2 v5 s0 f h
  unfold DX0_addWritten_47 at h
  refine v_istore (ls1 := [(7, .int s0), (2, .ref v2), (5, .long v5)]) dX0_addWritten_47 (by decide) rfl ?_
  refine v_iconst (v := 0) dX0_addWritten_49 (by decide) ?_
  refine v_istore (ls1 := [(8, .int (0 : Int32)), (7, .int s0), (2, .ref v2), (5, .long v5)]) dX0_addWritten_50 (by decide) rfl ?_
  exact v_sub (vs_c rfl (vs_c rfl (vs_c rfl (vs_c rfl vs_n)))) (tX0_addWritten_52 N N v2 v5 s0 (0 : Int32) f h)

set_option maxRecDepth 20000 in
theorem tX0_addWritten_18 {l : Launch} {g : GT} {sz : Option Nat} (N : Nat)  {r : (Unit × HF)} : ∀ (v2 : Nat) (v3 : Int64) (f : HF), DX0_addWritten_18 N v2 v3 f = some r → V l g (fun _ => True) (RX0, cX0_addWritten, 9, (Option.none : Option Jvm.ClassFile.FieldType), [], "addWritten") 3 (roU (.inl r.1) r.2 sz) 18 [(2, .ref v2), (3, .long v3)] [] f sz 0 0 := by
  intro v2 v3 f h
  unfold DX0_addWritten_18 at h
  refine v_lload_n dX0_addWritten_18 rfl rfl ?_
  refine v_ldc2 dX0_addWritten_19 kc_X0_39 ?_
  refine v_ldiv dX0_addWritten_22 (by decide) ?_
  refine v_iconst (v := 0) dX0_addWritten_23 (by decide) ?_
  refine v_aload_n dX0_addWritten_24 rfl rfl ?_
  obtain ⟨x1, f3, hx2, h⟩ := bW_some h
  have ehx2 := tX0_addNumber (l := l) (g := g) (sz := sz) N (v3 / (1000 : Int64)) (0 : Int32) v2 f hx2
  refine v_cSU dX0_addWritten_25 ml_X0_58 ok_X0_addNumber ehx2 (by decide) rfl (rest := []) rfl (Nat.le_of_ble_eq_true rfl) ?_
  refine v_lload_n dX0_addWritten_28 rfl rfl ?_
  refine v_ldc2 dX0_addWritten_29 kc_X0_39 ?_
  refine v_lrem dX0_addWritten_32 (by decide) ?_
  refine v_lstore (ls1 := [(5, .long (v3 - v3 / (1000 : Int64) * (1000 : Int64))), (2, .ref v2), (3, .long v3)]) dX0_addWritten_33 (by decide) rfl ?_
  refine v_lload dX0_addWritten_35 rfl ?_
  refine v_lconst (v := 0) dX0_addWritten_37 (by decide) ?_
  refine v_lcmp_ne (tgt := 46) dX0_addWritten_38 dX0_addWritten_39 (by decide) (fun c10 => ?_) (fun c10 => ?_)
  · replace h := in_ c10 h
    refine v_iconst (v := 3) dX0_addWritten_46 (by decide) ?_
    exact v_sub (vs_c rfl (vs_c rfl vs_n)) (tX0_addWritten_47 N v2 (v3 - v3 / (1000 : Int64) * (1000 : Int64)) (3 : Int32) f3 h)
  · replace h := ip_ c10 h
    refine v_iconst (v := 0) dX0_addWritten_42 (by decide) ?_
    refine v_goto (tgt := 47) dX0_addWritten_43 (by decide) ?_
    exact v_sub (vs_c rfl (vs_c rfl vs_n)) (tX0_addWritten_47 N v2 (v3 - v3 / (1000 : Int64) * (1000 : Int64)) (0 : Int32) f3 h)

set_option maxRecDepth 20000 in
theorem tX0_addWritten {l : Launch} {g : GT} {sz : Option Nat} (N : Nat) (p0 : Int64) (p1 : Nat) (f : HF) {r : (Unit × HF)} (h : DX0_addWritten N p0 p1 f = some r) : Mt l g yX0_addWritten cX0_addWritten 9 (Option.none : Option Jvm.ClassFile.FieldType) 3 [.long p0, .ref p1] f sz (roU (.inl r.1) r.2 sz) := by
  unfold DX0_addWritten at h
  refine mt_of (by decide) (Nat.le_of_ble_eq_true rfl) (?_ : V l g (fun _ => True) (RX0, cX0_addWritten, 9, (Option.none : Option Jvm.ClassFile.FieldType), [], "addWritten") 3 (roU (.inl r.1) r.2 sz) 0 [(0, .long p0), (2, .ref p1)] [] f sz 0 0)
  refine v_lload_n dX0_addWritten_0 rfl rfl ?_
  refine v_mabsL dX0_addWritten_1 ml_X0_52 ok_J9_abs_067f4 (by decide) (Nat.le_of_ble_eq_true rfl) ?_
  refine v_lstore_n (ls1 := [(3, .long (abL p0)), (0, .long p0), (2, .ref p1)]) dX0_addWritten_4 rfl (by decide) rfl ?_
  refine v_lload_n dX0_addWritten_5 rfl rfl ?_
  refine v_lconst (v := 0) dX0_addWritten_6 (by decide) ?_
  refine v_lcmp_ge (tgt := 18) dX0_addWritten_7 dX0_addWritten_8 (by decide) (fun c14 => ?_) (fun c14 => ?_)
  · replace h := ip_ c14 h
    exact v_sub (vs_c rfl (vs_c rfl vs_n)) (tX0_addWritten_18 N p1 (abL p0) f h)
  · replace h := in_ c14 h
    refine v_aload_n dX0_addWritten_11 rfl rfl ?_
    refine v_bipush (v := 45) dX0_addWritten_12 (by decide) ?_
    obtain ⟨x11, f13, hx12, h⟩ := bW_some h
    have ehx12 := tX5_add (l := l) (g := g) (sz := sz) N p1 (45 : Int32) f hx12
    refine v_cVI dX0_addWritten_14 ml_X0_49 ok_X5_add ehx12 (kX5_add N p1 (45 : Int32) f hx12) rfl (by decide) rfl (rest := []) rfl (Nat.le_of_ble_eq_true rfl) ?_
    refine v_pop dX0_addWritten_17 rfl ?_
    exact v_sub (vs_c rfl (vs_c rfl vs_n)) (tX0_addWritten_18 N p1 (abL p0) f13 h)

/-! X0 halfOfLast (R) -/
def DX0_halfOfLast (N : Nat) (p0 : Int32) (f : HF) : Option Int64 :=
  if p0 = 0 then
    some (500 : Int64)
  else
  if p0 = 1 then
    some (50 : Int64)
  else
  if p0 = 2 then
    some (5 : Int64)
  else
  some (0 : Int64)

set_option maxRecDepth 20000 in
theorem tX0_halfOfLast {l : Launch} {g : GT} {sz : Option Nat} (N : Nat) (p0 : Int32) (f : HF) {r : Int64} (h : DX0_halfOfLast N p0 f = some r) : Mt l g yX0_halfOfLast cX0_halfOfLast 1 (Option.some Jvm.ClassFile.FieldType.long) 0 [.int p0] f sz (roL (.inl r) f sz) := by
  unfold DX0_halfOfLast at h
  refine mt_of (by decide) (Nat.le_of_ble_eq_true rfl) (?_ : V l g (fun _ => True) (RX0, cX0_halfOfLast, 1, (Option.some Jvm.ClassFile.FieldType.long), [], "halfOfLast") 0 (roL (.inl r) f sz) 0 [(0, .int p0)] [] f sz 0 0)
  refine v_iload_n dX0_halfOfLast_0 rfl rfl ?_
  by_cases c1 : p0 = 0
  · replace h := ip_ c1 h
    refine v_tableIn (tgt := 28) (off := 27) dX0_halfOfLast_1 (by rw [c1] <;> decide) (by rw [c1] <;> decide) (by rw [c1] <;> rfl) (by decide) ?_
    refine v_ldc2 dX0_halfOfLast_28 kc_X0_70 ?_
    obtain rfl := Option.some.inj h
    exact v_lret dX0_halfOfLast_31 rfl rfl
  replace h := in_ c1 h
  by_cases c2 : p0 = 1
  · replace h := ip_ c2 h
    refine v_tableIn (tgt := 32) (off := 31) dX0_halfOfLast_1 (by rw [c2] <;> decide) (by rw [c2] <;> decide) (by rw [c2] <;> rfl) (by decide) ?_
    refine v_ldc2 dX0_halfOfLast_32 kc_X0_72 ?_
    obtain rfl := Option.some.inj h
    exact v_lret dX0_halfOfLast_35 rfl rfl
  replace h := in_ c2 h
  by_cases c3 : p0 = 2
  · replace h := ip_ c3 h
    refine v_tableIn (tgt := 36) (off := 35) dX0_halfOfLast_1 (by rw [c3] <;> decide) (by rw [c3] <;> decide) (by rw [c3] <;> rfl) (by decide) ?_
    refine v_ldc2 dX0_halfOfLast_36 kc_X0_74 ?_
    obtain rfl := Option.some.inj h
    exact v_lret dX0_halfOfLast_39 rfl rfl
  replace h := in_ c3 h
  refine v_tableOut (tgt := 40) dX0_halfOfLast_1 (tsw_out p0 0 2 (fun z z1 z2 => by
    rcases (show z = 0 ∨ z = 1 ∨ z = 2 by omega) with rfl | rfl | rfl
    · exact c1
    · exact c2
    · exact c3
    )) (by decide) ?_
  refine v_lconst (v := 0) dX0_halfOfLast_40 (by decide) ?_
  obtain rfl := Option.some.inj h
  exact v_lret dX0_halfOfLast_41 rfl rfl

/-! X0 addShown (W) -/
def DX0_addShown_38 (N : Nat)  (v2 : Int32) (v3 : Int32) (v4 : Nat) (v5 : Int64) (f : HF) : Option (Unit × HF) :=
    (DX0_cut N v5 v2 f).bind fun x5 =>
    bW (DX0_addNumber N x5 v3 v4 f) fun x7 f9 =>
    bW (DX0_addPart N v5 v2 v4 f9) fun x10 f12 =>
    some ((), f12)

def DX0_addShown (N : Nat) (p0 : Int64) (p1 : Int32) (p2 : Int32) (p3 : Nat) (f : HF) : Option (Unit × HF) :=
  (DX0_halfOfLast N p1 f).bind fun x1 =>
  (DX0_cut N ((abL p0) + x1) ((3 : Int32) - p1) f).bind fun x3 =>
  if (0 : Int64) ≤ p0 then
    DX0_addShown_38 N p1 p2 p3 x3 f
  else
    if x3 ≤ (0 : Int64) then
      DX0_addShown_38 N p1 p2 p3 x3 f
    else
      bW (DX5_add N p3 (45 : Int32) f) fun x13 f15 =>
      DX0_addShown_38 N p1 p2 p3 x3 f15

set_option maxRecDepth 20000 in
theorem tX0_addShown_38 {l : Launch} {g : GT} {sz : Option Nat} (N : Nat)  {r : (Unit × HF)} : ∀ (v2 : Int32) (v3 : Int32) (v4 : Nat) (v5 : Int64) (f : HF), DX0_addShown_38 N v2 v3 v4 v5 f = some r → V l g (fun _ => True) (RX0, cX0_addShown, 7, (Option.none : Option Jvm.ClassFile.FieldType), [], "addShown") 3 (roU (.inl r.1) r.2 sz) 38 [(2, .int v2), (3, .int v3), (4, .ref v4), (5, .long v5)] [] f sz 0 0 := by
  intro v2 v3 v4 v5 f h
  unfold DX0_addShown_38 at h
  refine v_lload dX0_addShown_38 rfl ?_
  refine v_iload_n dX0_addShown_40 rfl rfl ?_
  obtain ⟨x5, hx6, h⟩ := ob_some h
  have ehx6 := tX0_cut (l := l) (g := g) (sz := sz) N v5 v2 f hx6
  refine v_cSL dX0_addShown_41 ml_X0_41 ok_X0_cut ehx6 (by decide) rfl (rest := []) rfl (Nat.le_of_ble_eq_true rfl) ?_
  refine v_iload_n dX0_addShown_44 rfl rfl ?_
  refine v_aload dX0_addShown_45 rfl ?_
  obtain ⟨x7, f9, hx8, h⟩ := bW_some h
  have ehx8 := tX0_addNumber (l := l) (g := g) (sz := sz) N x5 v3 v4 f hx8
  refine v_cSU dX0_addShown_47 ml_X0_58 ok_X0_addNumber ehx8 (by decide) rfl (rest := []) rfl (Nat.le_of_ble_eq_true rfl) ?_
  refine v_lload dX0_addShown_50 rfl ?_
  refine v_iload_n dX0_addShown_52 rfl rfl ?_
  refine v_aload dX0_addShown_53 rfl ?_
  obtain ⟨x10, f12, hx11, h⟩ := bW_some h
  have ehx11 := tX0_addPart (l := l) (g := g) (sz := sz) N v5 v2 v4 f9 hx11
  refine v_cSU dX0_addShown_55 ml_X0_62 ok_X0_addPart ehx11 (by decide) rfl (rest := []) rfl (Nat.le_of_ble_eq_true rfl) ?_
  obtain rfl := Option.some.inj h
  exact v_vret dX0_addShown_58 rfl rfl

set_option maxRecDepth 20000 in
theorem tX0_addShown {l : Launch} {g : GT} {sz : Option Nat} (N : Nat) (p0 : Int64) (p1 : Int32) (p2 : Int32) (p3 : Nat) (f : HF) {r : (Unit × HF)} (h : DX0_addShown N p0 p1 p2 p3 f = some r) : Mt l g yX0_addShown cX0_addShown 7 (Option.none : Option Jvm.ClassFile.FieldType) 3 [.long p0, .int p1, .int p2, .ref p3] f sz (roU (.inl r.1) r.2 sz) := by
  unfold DX0_addShown at h
  refine mt_of (by decide) (Nat.le_of_ble_eq_true rfl) (?_ : V l g (fun _ => True) (RX0, cX0_addShown, 7, (Option.none : Option Jvm.ClassFile.FieldType), [], "addShown") 3 (roU (.inl r.1) r.2 sz) 0 [(0, .long p0), (2, .int p1), (3, .int p2), (4, .ref p3)] [] f sz 0 0)
  refine v_lload_n dX0_addShown_0 rfl rfl ?_
  refine v_mabsL dX0_addShown_1 ml_X0_52 ok_J9_abs_067f4 (by decide) (Nat.le_of_ble_eq_true rfl) ?_
  refine v_iload_n dX0_addShown_4 rfl rfl ?_
  obtain ⟨x1, hx2, h⟩ := ob_some h
  have ehx2 := tX0_halfOfLast (l := l) (g := g) (sz := sz) N p1 f hx2
  refine v_cSL dX0_addShown_5 ml_X0_66 ok_X0_halfOfLast ehx2 (by decide) rfl (rest := [.long (abL p0)]) rfl (Nat.le_of_ble_eq_true rfl) ?_
  refine v_ladd dX0_addShown_8 ?_
  refine v_iconst (v := 3) dX0_addShown_9 (by decide) ?_
  refine v_iload_n dX0_addShown_10 rfl rfl ?_
  refine v_isub dX0_addShown_11 ?_
  obtain ⟨x3, hx4, h⟩ := ob_some h
  have ehx4 := tX0_cut (l := l) (g := g) (sz := sz) N ((abL p0) + x1) ((3 : Int32) - p1) f hx4
  refine v_cSL dX0_addShown_12 ml_X0_41 ok_X0_cut ehx4 (by decide) rfl (rest := []) rfl (Nat.le_of_ble_eq_true rfl) ?_
  refine v_lstore (ls1 := [(5, .long x3), (0, .long p0), (2, .int p1), (3, .int p2), (4, .ref p3)]) dX0_addShown_15 (by decide) rfl ?_
  refine v_lload_n dX0_addShown_17 rfl rfl ?_
  refine v_lconst (v := 0) dX0_addShown_18 (by decide) ?_
  refine v_lcmp_ge (tgt := 38) dX0_addShown_19 dX0_addShown_20 (by decide) (fun c17 => ?_) (fun c17 => ?_)
  · replace h := ip_ c17 h
    exact v_sub (vs_c rfl (vs_c rfl (vs_c rfl (vs_c rfl vs_n)))) (tX0_addShown_38 N p1 p2 p3 x3 f h)
  · replace h := in_ c17 h
    refine v_lload dX0_addShown_23 rfl ?_
    refine v_lconst (v := 0) dX0_addShown_25 (by decide) ?_
    refine v_lcmp_le (tgt := 38) dX0_addShown_26 dX0_addShown_27 (by decide) (fun c16 => ?_) (fun c16 => ?_)
    · replace h := ip_ c16 h
      exact v_sub (vs_c rfl (vs_c rfl (vs_c rfl (vs_c rfl vs_n)))) (tX0_addShown_38 N p1 p2 p3 x3 f h)
    · replace h := in_ c16 h
      refine v_aload dX0_addShown_30 rfl ?_
      refine v_bipush (v := 45) dX0_addShown_32 (by decide) ?_
      obtain ⟨x13, f15, hx14, h⟩ := bW_some h
      have ehx14 := tX5_add (l := l) (g := g) (sz := sz) N p3 (45 : Int32) f hx14
      refine v_cVI dX0_addShown_34 ml_X0_49 ok_X5_add ehx14 (kX5_add N p3 (45 : Int32) f hx14) rfl (by decide) rfl (rest := []) rfl (Nat.le_of_ble_eq_true rfl) ?_
      refine v_pop dX0_addShown_37 rfl ?_
      exact v_sub (vs_c rfl (vs_c rfl (vs_c rfl (vs_c rfl vs_n)))) (tX0_addShown_38 N p1 p2 p3 x3 f15 h)

