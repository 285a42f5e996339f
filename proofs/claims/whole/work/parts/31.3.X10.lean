/-! X10 putAmount (W) -/
def DX10_putAmount_55 (N : Nat)  (n : Nat) (v0 : Nat) (v5 : Int64) (f : HF) : Option (Unit × HF) :=
  match n with
  | 0 => none
  | n + 1 =>
    if v5 ≤ (0 : Int64) then
      some ((), f)
    else
      bW (DX10_put N v0 ((((48 : Int64) + (v5 / (100 : Int64)))).toInt32) f) fun x7 f9 =>
      DX10_putAmount_55 N n v0 ((v5 - v5 / (100 : Int64) * (100 : Int64)) * (10 : Int64)) f9

def DX10_putAmount_25 (N : Nat)  (v0 : Nat) (v3 : Int64) (f : HF) : Option (Unit × HF) :=
    bW (DX10_putNumber N v0 (v3 / (1000 : Int64)) (0 : Int32) f) fun x1 f3 =>
    if (v3 - v3 / (1000 : Int64) * (1000 : Int64)) ≤ (0 : Int64) then
      some ((), f3)
    else
      bW (DX10_put N v0 (46 : Int32) f3) fun x4 f6 =>
      DX10_putAmount_55 N N v0 (v3 - v3 / (1000 : Int64) * (1000 : Int64)) f6

def DX10_putAmount_12 (N : Nat)  (v0 : Nat) (v1 : Int64) (s0 : Int64) (f : HF) : Option (Unit × HF) :=
    if (0 : Int64) ≤ v1 then
      DX10_putAmount_25 N v0 s0 f
    else
      bW (DX10_put N v0 (45 : Int32) f) fun x12 f14 =>
      DX10_putAmount_25 N v0 s0 f14

def DX10_putAmount (N : Nat) (this : Nat) (p0 : Int64) (f : HF) : Option (Unit × HF) :=
  (ck f this 9).bind fun _ =>
  if (0 : Int64) ≤ p0 then
    DX10_putAmount_12 N this p0 p0 f
  else
    DX10_putAmount_12 N this p0 (-p0) f

set_option maxRecDepth 20000 in
theorem tX10_putAmount_55 {l : Launch} {g : GT} {sz : Option Nat} (N : Nat)  {r : (Unit × HF)} : ∀ (n : Nat), ∀ (v0 : Nat) (v5 : Int64) (f : HF), DX10_putAmount_55 N n v0 v5 f = some r → V l g (fun _ => True) (RX10, cX10_putAmount, 7, (Option.none : Option Jvm.ClassFile.FieldType), [], "putAmount") 2 (roU (.inl r.1) r.2 sz) 55 [(0, .ref v0), (5, .long v5)] [] f sz 0 0 := by
  intro n
  induction n with
  | zero => intro v0 v5 f h; cases h
  | succ n ih =>
    intro v0 v5 f h
    rw [DX10_putAmount_55] at h
    refine v_lload dX10_putAmount_55 rfl ?_
    refine v_lconst (v := 0) dX10_putAmount_57 (by decide) ?_
    refine v_lcmp_le (tgt := 92) dX10_putAmount_58 dX10_putAmount_59 (by decide) (fun c10 => ?_) (fun c10 => ?_)
    · replace h := ip_ c10 h
      obtain rfl := Option.some.inj h
      exact v_vret dX10_putAmount_92 rfl rfl
    · replace h := in_ c10 h
      refine v_aload_n dX10_putAmount_62 rfl rfl ?_
      refine v_ldc2 dX10_putAmount_63 kc_X10_172 ?_
      refine v_lload dX10_putAmount_66 rfl ?_
      refine v_ldc2 dX10_putAmount_68 kc_X10_191 ?_
      refine v_ldiv dX10_putAmount_71 (by decide) ?_
      refine v_ladd dX10_putAmount_72 ?_
      refine v_l2i dX10_putAmount_73 ?_
      obtain ⟨x7, f9, hx8, h⟩ := bW_some h
      have ehx8 := tX10_put (l := l) (g := g) (sz := sz) N v0 ((((48 : Int64) + (v5 / (100 : Int64)))).toInt32) f hx8
      refine v_cVU dX10_putAmount_74 ml_X10_183 ok_X10_put ehx8 (kX10_put N v0 ((((48 : Int64) + (v5 / (100 : Int64)))).toInt32) f hx8) rfl (by decide) rfl (rest := []) rfl (Nat.le_of_ble_eq_true rfl) ?_
      refine v_lload dX10_putAmount_77 rfl ?_
      refine v_ldc2 dX10_putAmount_79 kc_X10_191 ?_
      refine v_lrem dX10_putAmount_82 (by decide) ?_
      refine v_ldc2 dX10_putAmount_83 kc_X10_176 ?_
      refine v_lmul dX10_putAmount_86 ?_
      refine v_lstore (ls1 := [(5, .long ((v5 - v5 / (100 : Int64) * (100 : Int64)) * (10 : Int64))), (0, .ref v0)]) dX10_putAmount_87 (by decide) rfl ?_
      refine v_goto (tgt := 55) dX10_putAmount_89 (by decide) ?_
      exact v_sub (vs_c rfl (vs_c rfl vs_n)) (ih v0 ((v5 - v5 / (100 : Int64) * (100 : Int64)) * (10 : Int64)) f9 h)

set_option maxRecDepth 20000 in
theorem tX10_putAmount_25 {l : Launch} {g : GT} {sz : Option Nat} (N : Nat)  {r : (Unit × HF)} : ∀ (v0 : Nat) (v3 : Int64) (f : HF), DX10_putAmount_25 N v0 v3 f = some r → V l g (fun _ => True) (RX10, cX10_putAmount, 7, (Option.none : Option Jvm.ClassFile.FieldType), [], "putAmount") 2 (roU (.inl r.1) r.2 sz) 25 [(0, .ref v0), (3, .long v3)] [] f sz 0 0 := by
  intro v0 v3 f h
  unfold DX10_putAmount_25 at h
  refine v_aload_n dX10_putAmount_25 rfl rfl ?_
  refine v_lload_n dX10_putAmount_26 rfl rfl ?_
  refine v_ldc2 dX10_putAmount_27 kc_X10_170 ?_
  refine v_ldiv dX10_putAmount_30 (by decide) ?_
  refine v_iconst (v := 0) dX10_putAmount_31 (by decide) ?_
  obtain ⟨x1, f3, hx2, h⟩ := bW_some h
  have ehx2 := tX10_putNumber (l := l) (g := g) (sz := sz) N v0 (v3 / (1000 : Int64)) (0 : Int32) f hx2
  refine v_cVU dX10_putAmount_32 ml_X10_187 ok_X10_putNumber ehx2 (kX10_putNumber N v0 (v3 / (1000 : Int64)) (0 : Int32) f hx2) rfl (by decide) rfl (rest := []) rfl (Nat.le_of_ble_eq_true rfl) ?_
  refine v_lload_n dX10_putAmount_35 rfl rfl ?_
  refine v_ldc2 dX10_putAmount_36 kc_X10_170 ?_
  refine v_lrem dX10_putAmount_39 (by decide) ?_
  refine v_lstore (ls1 := [(5, .long (v3 - v3 / (1000 : Int64) * (1000 : Int64))), (0, .ref v0), (3, .long v3)]) dX10_putAmount_40 (by decide) rfl ?_
  refine v_lload dX10_putAmount_42 rfl ?_
  refine v_lconst (v := 0) dX10_putAmount_44 (by decide) ?_
  refine v_lcmp_le (tgt := 92) dX10_putAmount_45 dX10_putAmount_46 (by decide) (fun c11 => ?_) (fun c11 => ?_)
  · replace h := ip_ c11 h
    obtain rfl := Option.some.inj h
    exact v_vret dX10_putAmount_92 rfl rfl
  · replace h := in_ c11 h
    refine v_aload_n dX10_putAmount_49 rfl rfl ?_
    refine v_bipush (v := 46) dX10_putAmount_50 (by decide) ?_
    obtain ⟨x4, f6, hx5, h⟩ := bW_some h
    have ehx5 := tX10_put (l := l) (g := g) (sz := sz) N v0 (46 : Int32) f3 hx5
    refine v_cVU dX10_putAmount_52 ml_X10_183 ok_X10_put ehx5 (kX10_put N v0 (46 : Int32) f3 hx5) rfl (by decide) rfl (rest := []) rfl (Nat.le_of_ble_eq_true rfl) ?_
    exact v_sub (vs_c rfl (vs_c rfl vs_n)) (tX10_putAmount_55 N N v0 (v3 - v3 / (1000 : Int64) * (1000 : Int64)) f6 h)

set_option maxRecDepth 20000 in
theorem tX10_putAmount_12 {l : Launch} {g : GT} {sz : Option Nat} (N : Nat)  {r : (Unit × HF)} : ∀ (v0 : Nat) (v1 : Int64) (s0 : Int64) (f : HF), DX10_putAmount_12 N v0 v1 s0 f = some r → V l g (fun _ => True) (RX10, cX10_putAmount, 7, (Option.none : Option Jvm.ClassFile.FieldType), [], "putAmount") 2 (roU (.inl r.1) r.2 sz) 12 [(0, .ref v0), (1, .long v1)] [.long s0] f sz 0 0 := by
  intro v0 v1 s0 f h
  unfold DX10_putAmount_12 at h
  refine v_lstore_n (ls1 := [(3, .long s0), (0, .ref v0), (1, .long v1)]) dX10_putAmount_12 rfl (by decide) rfl ?_
  refine v_lload_n dX10_putAmount_13 rfl rfl ?_
  refine v_lconst (v := 0) dX10_putAmount_14 (by decide) ?_
  refine v_lcmp_ge (tgt := 25) dX10_putAmount_15 dX10_putAmount_16 (by decide) (fun c15 => ?_) (fun c15 => ?_)
  · replace h := ip_ c15 h
    exact v_sub (vs_c rfl (vs_c rfl vs_n)) (tX10_putAmount_25 N v0 s0 f h)
  · replace h := in_ c15 h
    refine v_aload_n dX10_putAmount_19 rfl rfl ?_
    refine v_bipush (v := 45) dX10_putAmount_20 (by decide) ?_
    obtain ⟨x12, f14, hx13, h⟩ := bW_some h
    have ehx13 := tX10_put (l := l) (g := g) (sz := sz) N v0 (45 : Int32) f hx13
    refine v_cVU dX10_putAmount_22 ml_X10_183 ok_X10_put ehx13 (kX10_put N v0 (45 : Int32) f hx13) rfl (by decide) rfl (rest := []) rfl (Nat.le_of_ble_eq_true rfl) ?_
    exact v_sub (vs_c rfl (vs_c rfl vs_n)) (tX10_putAmount_25 N v0 s0 f14 h)

set_option maxRecDepth 20000 in
theorem kX10_putAmount (N : Nat) (this : Nat) (p0 : Int64) (f : HF) {r : (Unit × HF)} (h : DX10_putAmount N this p0 f = some r) : ck f this 9 = some () := by
  unfold DX10_putAmount at h
  obtain ⟨_, hck, _⟩ := ob_some h
  exact hck

set_option maxRecDepth 20000 in
theorem tX10_putAmount {l : Launch} {g : GT} {sz : Option Nat} (N : Nat) (this : Nat) (p0 : Int64) (f : HF) {r : (Unit × HF)} (h : DX10_putAmount N this p0 f = some r) : Mt l g yX10_putAmount cX10_putAmount 7 (Option.none : Option Jvm.ClassFile.FieldType) 2 [.ref this, .long p0] f sz (roU (.inl r.1) r.2 sz) := by
  unfold DX10_putAmount at h
  obtain ⟨_, hck, h⟩ := ob_some h
  refine mt_of (by decide) (Nat.le_of_ble_eq_true rfl) (?_ : V l g (fun _ => True) (RX10, cX10_putAmount, 7, (Option.none : Option Jvm.ClassFile.FieldType), [], "putAmount") 2 (roU (.inl r.1) r.2 sz) 0 [(0, .ref this), (1, .long p0)] [] f sz 0 0)
  refine v_lload_n dX10_putAmount_0 rfl rfl ?_
  refine v_lconst (v := 0) dX10_putAmount_1 (by decide) ?_
  refine v_lcmp_ge (tgt := 11) dX10_putAmount_2 dX10_putAmount_3 (by decide) (fun c16 => ?_) (fun c16 => ?_)
  · replace h := ip_ c16 h
    refine v_lload_n dX10_putAmount_11 rfl rfl ?_
    exact v_sub (vs_c rfl (vs_c rfl vs_n)) (tX10_putAmount_12 N this p0 p0 f h)
  · replace h := in_ c16 h
    refine v_lload_n dX10_putAmount_6 rfl rfl ?_
    refine v_lneg dX10_putAmount_7 ?_
    refine v_goto (tgt := 12) dX10_putAmount_8 (by decide) ?_
    exact v_sub (vs_c rfl (vs_c rfl vs_n)) (tX10_putAmount_12 N this p0 (-p0) f h)

/-! X10 isAmount (R) -/
def DX10_isAmount (N : Nat) (this : Nat) (p0 : Int32) (f : HF) : Option Int32 :=
  (ck f this 9).bind fun _ =>
  (gR f this 9 2).bind fun x1 =>
  (aI f x1 0 p0).bind fun x2 =>
  if x2 = (5 : Int32) then
    some (1 : Int32)
  else
    (gR f this 9 2).bind fun x3 =>
    (aI f x3 0 p0).bind fun x4 =>
    if x4 = (2 : Int32) then
      some (1 : Int32)
    else
      some (0 : Int32)

set_option maxRecDepth 20000 in
theorem kX10_isAmount (N : Nat) (this : Nat) (p0 : Int32) (f : HF) {r : Int32} (h : DX10_isAmount N this p0 f = some r) : ck f this 9 = some () := by
  unfold DX10_isAmount at h
  obtain ⟨_, hck, _⟩ := ob_some h
  exact hck

set_option maxRecDepth 20000 in
theorem tX10_isAmount {l : Launch} {g : GT} {sz : Option Nat} (N : Nat) (this : Nat) (p0 : Int32) (f : HF) {r : Int32} (h : DX10_isAmount N this p0 f = some r) : Mt l g yX10_isAmount cX10_isAmount 2 (Option.some Jvm.ClassFile.FieldType.boolean) 0 [.ref this, .int p0] f sz (roI (.inl r) f sz) := by
  unfold DX10_isAmount at h
  obtain ⟨_, hck, h⟩ := ob_some h
  refine mt_of (by decide) (Nat.le_of_ble_eq_true rfl) (?_ : V l g (fun _ => True) (RX10, cX10_isAmount, 2, (Option.some Jvm.ClassFile.FieldType.boolean), [], "isAmount") 0 (roI (.inl r) f sz) 0 [(0, .ref this), (1, .int p0)] [] f sz 0 0)
  refine v_aload_n dX10_isAmount_0 rfl rfl ?_
  obtain ⟨x1, hx1, h⟩ := ob_some h
  refine v_getR dX10_isAmount_1 fl_X10_7 hx1 ?_
  refine v_iload_n dX10_isAmount_4 rfl rfl ?_
  obtain ⟨x2, hx2, h⟩ := ob_some h
  refine v_iald dX10_isAmount_5 hx2 ?_
  refine v_iconst (v := 5) dX10_isAmount_6 (by decide) ?_
  refine v_icmp_eq (tgt := 20) dX10_isAmount_7 (by decide) (fun c6 => ?_) (fun c6 => ?_)
  · replace h := ip_ c6 h
    refine v_iconst (v := 1) dX10_isAmount_20 (by decide) ?_
    refine v_goto (tgt := 25) dX10_isAmount_21 (by decide) ?_
    obtain rfl := Option.some.inj h
    exact v_zret dX10_isAmount_25 rfl (Or.inr rfl) rfl
  · replace h := in_ c6 h
    refine v_aload_n dX10_isAmount_10 rfl rfl ?_
    obtain ⟨x3, hx3, h⟩ := ob_some h
    refine v_getR dX10_isAmount_11 fl_X10_7 hx3 ?_
    refine v_iload_n dX10_isAmount_14 rfl rfl ?_
    obtain ⟨x4, hx4, h⟩ := ob_some h
    refine v_iald dX10_isAmount_15 hx4 ?_
    refine v_iconst (v := 2) dX10_isAmount_16 (by decide) ?_
    refine v_icmp_ne (tgt := 24) dX10_isAmount_17 (by decide) (fun c5 => ?_) (fun c5 => ?_)
    · replace h := in_ c5 h
      refine v_iconst (v := 0) dX10_isAmount_24 (by decide) ?_
      obtain rfl := Option.some.inj h
      exact v_zret dX10_isAmount_25 rfl (Or.inl rfl) rfl
    · replace h := ip_ c5 h
      refine v_iconst (v := 1) dX10_isAmount_20 (by decide) ?_
      refine v_goto (tgt := 25) dX10_isAmount_21 (by decide) ?_
      obtain rfl := Option.some.inj h
      exact v_zret dX10_isAmount_25 rfl (Or.inr rfl) rfl

/-! X10 formula (W) -/
def DX10_formula_242 (N : Nat)  (v8 : Int32) (s0 : Nat) (s1 : Int32) (s2 : Int32) (f : HF) : Option (Int32 × HF) :=
    (sI f s0 0 s1 s2).bind fun f20 =>
    some (v8, f20)

def DX10_formula_218 (N : Nat)  (v0 : Nat) (v4 : Int32) (v5 : Int32) (v7 : Int32) (v8 : Int32) (s0 : Nat) (s1 : Int32) (s2 : Int32) (f : HF) : Option (Int32 × HF) :=
    (sI f s0 0 s1 s2).bind fun f18 =>
    (gR f18 v0 9 20).bind fun x19 =>
    if v5 = 0 then
      DX10_formula_242 N v8 x19 v7 v4 f18
    else
      (gR f18 v0 9 5).bind fun x21 =>
      (aI f18 x21 0 v4).bind fun x22 =>
      DX10_formula_242 N v8 x19 v7 x22 f18

def DX10_formula_187 (N : Nat)  (v0 : Nat) (v2 : Int32) (v3 : Int32) (v4 : Int32) (v5 : Int32) (v7 : Int32) (s0 : Int32) (f : HF) : Option (Int32 × HF) :=
    (gR f v0 9 18).bind fun x15 =>
    (sI f x15 0 v7 v2).bind fun f16 =>
    (gR f16 v0 9 19).bind fun x17 =>
    if v5 = 0 then
      DX10_formula_218 N v0 v4 v5 v7 s0 x17 v7 v3 f16
    else
      (gR f16 v0 9 5).bind fun x24 =>
      (aI f16 x24 0 v3).bind fun x25 =>
      DX10_formula_218 N v0 v4 v5 v7 s0 x17 v7 x25 f16

def DX10_formula_152 (N : Nat)  (v0 : Nat) (v1 : Int32) (v2 : Int32) (v3 : Int32) (v4 : Int32) (v5 : Int32) (s0 : Nat) (s1 : Int32) (f : HF) : Option (Int32 × HF) :=
    (pV f s0 9 0 (.int s1)).bind fun f9 =>
    (gI f9 v0 9 0).bind fun x10 =>
    if x10 ≤ 0 then
      (gR f9 v0 9 5).bind fun x11 =>
      (aI f9 x11 0 v1).bind fun x12 =>
      (gR f9 v0 9 18).bind fun x13 =>
      (aI f9 x13 0 x12).bind fun x14 =>
      if x14 < 0 then
        DX10_formula_187 N v0 v2 v3 v4 v5 x12 (0 : Int32) f9
      else
        DX10_formula_187 N v0 v2 v3 v4 v5 x12 (1 : Int32) f9
    else
      some ((0 : Int32), f9)

def DX10_formula_139 (N : Nat)  (v0 : Nat) (v1 : Int32) (v2 : Int32) (v3 : Int32) (v4 : Int32) (v5 : Int32) (s0 : Int32) (f : HF) : Option (Int32 × HF) :=
    if s0 = 0 then
      DX10_formula_152 N v0 v1 v2 v3 v4 v5 v0 (2 : Int32) f
    else
      DX10_formula_152 N v0 v1 v2 v3 v4 v5 v0 (0 : Int32) f

def DX10_formula_138 (N : Nat)  (v0 : Nat) (v1 : Int32) (v2 : Int32) (v3 : Int32) (v4 : Int32) (v5 : Int32) (f : HF) : Option (Int32 × HF) :=
    DX10_formula_139 N v0 v1 v2 v3 v4 v5 (0 : Int32) f

def DX10_formula_134 (N : Nat)  (v0 : Nat) (v1 : Int32) (v2 : Int32) (v3 : Int32) (v4 : Int32) (v5 : Int32) (f : HF) : Option (Int32 × HF) :=
    DX10_formula_139 N v0 v1 v2 v3 v4 v5 (1 : Int32) f

def DX10_formula_119 (N : Nat)  (v0 : Nat) (v1 : Int32) (v2 : Int32) (v3 : Int32) (v4 : Int32) (v5 : Int32) (f : HF) : Option (Int32 × HF) :=
    if v2 = (6 : Int32) then
      (gR f v0 9 2).bind fun x32 =>
      (aI f x32 0 v3).bind fun x33 =>
      if x33 = 0 then
        DX10_formula_134 N v0 v1 v2 v3 v4 v5 f
      else
        DX10_formula_138 N v0 v1 v2 v3 v4 v5 f
    else
      DX10_formula_134 N v0 v1 v2 v3 v4 v5 f

def DX10_formula_61 (N : Nat)  (v0 : Nat) (v1 : Int32) (v2 : Int32) (v3 : Int32) (v4 : Int32) (v5 : Int32) (s0 : Nat) (s1 : Int32) (f : HF) : Option (Int32 × HF) :=
    (pV f s0 9 0 (.int s1)).bind fun f5 =>
    (gI f5 v0 9 0).bind fun x6 =>
    if x6 ≤ 0 then
      (gR f5 v0 9 2).bind fun x7 =>
      (aI f5 x7 0 v1).bind fun x8 =>
      if x8 = (5 : Int32) then
        (DX10_isIn N (v2.toInt64) (-1 : Int64) (7 : Int64) f5).bind fun x30 =>
        if x30 = 0 then
          DX10_formula_138 N v0 v1 v2 v3 v4 v5 f5
        else
          if v5 = 0 then
            DX10_formula_119 N v0 v1 v2 v3 v4 v5 f5
          else
            (DX10_isAmount N v0 v3 f5).bind fun x36 =>
            if x36 = 0 then
              DX10_formula_138 N v0 v1 v2 v3 v4 v5 f5
            else
              (DX10_isAmount N v0 v4 f5).bind fun x38 =>
              if x38 = 0 then
                DX10_formula_138 N v0 v1 v2 v3 v4 v5 f5
              else
                DX10_formula_119 N v0 v1 v2 v3 v4 v5 f5
      else
        DX10_formula_138 N v0 v1 v2 v3 v4 v5 f5
    else
      some ((0 : Int32), f5)

def DX10_formula_56 (N : Nat)  (v0 : Nat) (v1 : Int32) (v2 : Int32) (v3 : Int32) (v4 : Int32) (v5 : Int32) (s0 : Nat) (f : HF) : Option (Int32 × HF) :=
    DX10_formula_61 N v0 v1 v2 v3 v4 v5 s0 (1 : Int32) f

def DX10_formula_60 (N : Nat)  (v0 : Nat) (v1 : Int32) (v2 : Int32) (v3 : Int32) (v4 : Int32) (v5 : Int32) (s0 : Nat) (f : HF) : Option (Int32 × HF) :=
    DX10_formula_61 N v0 v1 v2 v3 v4 v5 s0 (0 : Int32) f

def DX10_formula_42 (N : Nat)  (v0 : Nat) (v1 : Int32) (v2 : Int32) (v3 : Int32) (v4 : Int32) (v5 : Int32) (s0 : Nat) (f : HF) : Option (Int32 × HF) :=
    if v2 = (6 : Int32) then
      (DX10_no N v0 v3 f).bind fun x46 =>
      if x46 = 0 then
        DX10_formula_60 N v0 v1 v2 v3 v4 v5 s0 f
      else
        DX10_formula_56 N v0 v1 v2 v3 v4 v5 s0 f
    else
      DX10_formula_60 N v0 v1 v2 v3 v4 v5 s0 f

def DX10_formula (N : Nat) (this : Nat) (p0 : Int32) (p1 : Int32) (p2 : Int32) (p3 : Int32) (f : HF) : Option (Int32 × HF) :=
  (ck f this 9).bind fun _ =>
  (DX10_isIn N (p1.toInt64) (0 : Int64) (5 : Int64) f).bind fun x1 =>
  (DX10_no N this p0 f).bind fun x3 =>
  if x3 = 0 then
    if x1 = 0 then
      DX10_formula_42 N this p0 p1 p2 p3 x1 this f
    else
      (DX10_no N this p2 f).bind fun x50 =>
      if x50 = 0 then
        (DX10_no N this p3 f).bind fun x52 =>
        if x52 = 0 then
          DX10_formula_42 N this p0 p1 p2 p3 x1 this f
        else
          DX10_formula_56 N this p0 p1 p2 p3 x1 this f
      else
        DX10_formula_56 N this p0 p1 p2 p3 x1 this f
  else
    DX10_formula_56 N this p0 p1 p2 p3 x1 this f

set_option maxRecDepth 20000 in
theorem tX10_formula_242 {l : Launch} {g : GT} {sz : Option Nat} (N : Nat)  {r : (Int32 × HF)} : ∀ (v8 : Int32) (s0 : Nat) (s1 : Int32) (s2 : Int32) (f : HF), DX10_formula_242 N v8 s0 s1 s2 f = some r → V l g (fun _ => True) (RX10, cX10_formula, 9, (Option.some Jvm.ClassFile.FieldType.int), [], "formula") 1 (roI (.inl r.1) r.2 sz) 242 [(8, .int v8)] [.int s2, .int s1, .ref s0] f sz 0 0 := by
  intro v8 s0 s1 s2 f h
  unfold DX10_formula_242 at h
  obtain ⟨f20, hf20, h⟩ := ob_some h
  refine v_iast dX10_formula_242 hf20 ?_
  refine v_iload dX10_formula_243 rfl ?_
  obtain rfl := Option.some.inj h
  exact v_iret dX10_formula_245 rfl rfl

set_option maxRecDepth 20000 in
theorem tX10_formula_218 {l : Launch} {g : GT} {sz : Option Nat} (N : Nat)  {r : (Int32 × HF)} : ∀ (v0 : Nat) (v4 : Int32) (v5 : Int32) (v7 : Int32) (v8 : Int32) (s0 : Nat) (s1 : Int32) (s2 : Int32) (f : HF), DX10_formula_218 N v0 v4 v5 v7 v8 s0 s1 s2 f = some r → V l g (fun _ => True) (RX10, cX10_formula, 9, (Option.some Jvm.ClassFile.FieldType.int), [], "formula") 1 (roI (.inl r.1) r.2 sz) 218 [(0, .ref v0), (4, .int v4), (5, .int v5), (7, .int v7), (8, .int v8)] [.int s2, .int s1, .ref s0] f sz 0 0 := by
  intro v0 v4 v5 v7 v8 s0 s1 s2 f h
  unfold DX10_formula_218 at h
  obtain ⟨f18, hf18, h⟩ := ob_some h
  refine v_iast dX10_formula_218 hf18 ?_
  refine v_aload_n dX10_formula_219 rfl rfl ?_
  obtain ⟨x19, hx19, h⟩ := ob_some h
  refine v_getR dX10_formula_220 fl_X10_66 hx19 ?_
  refine v_iload dX10_formula_223 rfl ?_
  refine v_iload dX10_formula_225 rfl ?_
  refine v_if_eq (tgt := 240) dX10_formula_227 (by decide) (fun c23 => ?_) (fun c23 => ?_)
  · replace h := ip_ c23 h
    refine v_iload dX10_formula_240 rfl ?_
    exact v_sub (vs_c rfl vs_n) (tX10_formula_242 N v8 x19 v7 v4 f18 h)
  · replace h := in_ c23 h
    refine v_aload_n dX10_formula_230 rfl rfl ?_
    obtain ⟨x21, hx21, h⟩ := ob_some h
    refine v_getR dX10_formula_231 fl_X10_19 hx21 ?_
    refine v_iload dX10_formula_234 rfl ?_
    obtain ⟨x22, hx22, h⟩ := ob_some h
    refine v_iald dX10_formula_236 hx22 ?_
    refine v_goto (tgt := 242) dX10_formula_237 (by decide) ?_
    exact v_sub (vs_c rfl vs_n) (tX10_formula_242 N v8 x19 v7 x22 f18 h)

set_option maxRecDepth 20000 in
theorem tX10_formula_187 {l : Launch} {g : GT} {sz : Option Nat} (N : Nat)  {r : (Int32 × HF)} : ∀ (v0 : Nat) (v2 : Int32) (v3 : Int32) (v4 : Int32) (v5 : Int32) (v7 : Int32) (s0 : Int32) (f : HF), DX10_formula_187 N v0 v2 v3 v4 v5 v7 s0 f = some r → V l g (fun _ => True) (RX10, cX10_formula, 9, (Option.some Jvm.ClassFile.FieldType.int), [], "formula") 1 (roI (.inl r.1) r.2 sz) 187 [(0, .ref v0), (2, .int v2), (3, .int v3), (4, .int v4), (5, .int v5), (7, .int v7)] [.int s0] f sz 0 0 := by
  intro v0 v2 v3 v4 v5 v7 s0 f h
  unfold DX10_formula_187 at h
  refine v_istore (ls1 := [(8, .int s0), (0, .ref v0), (2, .int v2), (3, .int v3), (4, .int v4), (5, .int v5), (7, .int v7)]) dX10_formula_187 (by decide) rfl ?_
  refine v_aload_n dX10_formula_189 rfl rfl ?_
  obtain ⟨x15, hx15, h⟩ := ob_some h
  refine v_getR dX10_formula_190 fl_X10_60 hx15 ?_
  refine v_iload dX10_formula_193 rfl ?_
  refine v_iload_n dX10_formula_195 rfl rfl ?_
  obtain ⟨f16, hf16, h⟩ := ob_some h
  refine v_iast dX10_formula_196 hf16 ?_
  refine v_aload_n dX10_formula_197 rfl rfl ?_
  obtain ⟨x17, hx17, h⟩ := ob_some h
  refine v_getR dX10_formula_198 fl_X10_63 hx17 ?_
  refine v_iload dX10_formula_201 rfl ?_
  refine v_iload dX10_formula_203 rfl ?_
  refine v_if_eq (tgt := 217) dX10_formula_205 (by decide) (fun c26 => ?_) (fun c26 => ?_)
  · replace h := ip_ c26 h
    refine v_iload_n dX10_formula_217 rfl rfl ?_
    exact v_sub (vs_c rfl (vs_c rfl (vs_c rfl (vs_c rfl (vs_c rfl vs_n))))) (tX10_formula_218 N v0 v4 v5 v7 s0 x17 v7 v3 f16 h)
  · replace h := in_ c26 h
    refine v_aload_n dX10_formula_208 rfl rfl ?_
    obtain ⟨x24, hx24, h⟩ := ob_some h
    refine v_getR dX10_formula_209 fl_X10_19 hx24 ?_
    refine v_iload_n dX10_formula_212 rfl rfl ?_
    obtain ⟨x25, hx25, h⟩ := ob_some h
    refine v_iald dX10_formula_213 hx25 ?_
    refine v_goto (tgt := 218) dX10_formula_214 (by decide) ?_
    exact v_sub (vs_c rfl (vs_c rfl (vs_c rfl (vs_c rfl (vs_c rfl vs_n))))) (tX10_formula_218 N v0 v4 v5 v7 s0 x17 v7 x25 f16 h)

set_option maxRecDepth 20000 in
theorem tX10_formula_152 {l : Launch} {g : GT} {sz : Option Nat} (N : Nat)  {r : (Int32 × HF)} : ∀ (v0 : Nat) (v1 : Int32) (v2 : Int32) (v3 : Int32) (v4 : Int32) (v5 : Int32) (s0 : Nat) (s1 : Int32) (f : HF), DX10_formula_152 N v0 v1 v2 v3 v4 v5 s0 s1 f = some r → V l g (fun _ => True) (RX10, cX10_formula, 9, (Option.some Jvm.ClassFile.FieldType.int), [], "formula") 1 (roI (.inl r.1) r.2 sz) 152 [(0, .ref v0), (1, .int v1), (2, .int v2), (3, .int v3), (4, .int v4), (5, .int v5)] [.int s1, .ref s0] f sz 0 0 := by
  intro v0 v1 v2 v3 v4 v5 s0 s1 f h
  unfold DX10_formula_152 at h
  obtain ⟨f9, hf9, h⟩ := ob_some h
  refine v_pI dX10_formula_152 fp_X10_102 hf9 ?_
  refine v_aload_n dX10_formula_155 rfl rfl ?_
  obtain ⟨x10, hx10, h⟩ := ob_some h
  refine v_getI dX10_formula_156 fl_X10_102 hx10 ?_
  refine v_if_le (tgt := 164) dX10_formula_159 (by decide) (fun c28 => ?_) (fun c28 => ?_)
  · replace h := ip_ c28 h
    refine v_aload_n dX10_formula_164 rfl rfl ?_
    obtain ⟨x11, hx11, h⟩ := ob_some h
    refine v_getR dX10_formula_165 fl_X10_19 hx11 ?_
    refine v_iload_n dX10_formula_168 rfl rfl ?_
    obtain ⟨x12, hx12, h⟩ := ob_some h
    refine v_iald dX10_formula_169 hx12 ?_
    refine v_istore (ls1 := [(7, .int x12), (0, .ref v0), (1, .int v1), (2, .int v2), (3, .int v3), (4, .int v4), (5, .int v5)]) dX10_formula_170 (by decide) rfl ?_
    refine v_aload_n dX10_formula_172 rfl rfl ?_
    obtain ⟨x13, hx13, h⟩ := ob_some h
    refine v_getR dX10_formula_173 fl_X10_60 hx13 ?_
    refine v_iload dX10_formula_176 rfl ?_
    obtain ⟨x14, hx14, h⟩ := ob_some h
    refine v_iald dX10_formula_178 hx14 ?_
    refine v_if_lt (tgt := 186) dX10_formula_179 (by decide) (fun c27 => ?_) (fun c27 => ?_)
    · replace h := ip_ c27 h
      refine v_iconst (v := 0) dX10_formula_186 (by decide) ?_
      exact v_sub (vs_c rfl (vs_c rfl (vs_c rfl (vs_c rfl (vs_c rfl (vs_c rfl vs_n)))))) (tX10_formula_187 N v0 v2 v3 v4 v5 x12 (0 : Int32) f9 h)
    · replace h := in_ c27 h
      refine v_iconst (v := 1) dX10_formula_182 (by decide) ?_
      refine v_goto (tgt := 187) dX10_formula_183 (by decide) ?_
      exact v_sub (vs_c rfl (vs_c rfl (vs_c rfl (vs_c rfl (vs_c rfl (vs_c rfl vs_n)))))) (tX10_formula_187 N v0 v2 v3 v4 v5 x12 (1 : Int32) f9 h)
  · replace h := in_ c28 h
    refine v_iconst (v := 0) dX10_formula_162 (by decide) ?_
    obtain rfl := Option.some.inj h
    exact v_iret dX10_formula_163 rfl rfl

set_option maxRecDepth 20000 in
theorem tX10_formula_139 {l : Launch} {g : GT} {sz : Option Nat} (N : Nat)  {r : (Int32 × HF)} : ∀ (v0 : Nat) (v1 : Int32) (v2 : Int32) (v3 : Int32) (v4 : Int32) (v5 : Int32) (s0 : Int32) (f : HF), DX10_formula_139 N v0 v1 v2 v3 v4 v5 s0 f = some r → V l g (fun _ => True) (RX10, cX10_formula, 9, (Option.some Jvm.ClassFile.FieldType.int), [], "formula") 1 (roI (.inl r.1) r.2 sz) 139 [(0, .ref v0), (1, .int v1), (2, .int v2), (3, .int v3), (4, .int v4), (5, .int v5)] [.int s0] f sz 0 0 := by
  intro v0 v1 v2 v3 v4 v5 s0 f h
  unfold DX10_formula_139 at h
  refine v_istore (ls1 := [(6, .int s0), (0, .ref v0), (1, .int v1), (2, .int v2), (3, .int v3), (4, .int v4), (5, .int v5)]) dX10_formula_139 (by decide) rfl ?_
  refine v_aload_n dX10_formula_141 rfl rfl ?_
  refine v_iload dX10_formula_142 rfl ?_
  refine v_if_eq (tgt := 151) dX10_formula_144 (by decide) (fun c29 => ?_) (fun c29 => ?_)
  · replace h := ip_ c29 h
    refine v_iconst (v := 2) dX10_formula_151 (by decide) ?_
    exact v_sub (vs_c rfl (vs_c rfl (vs_c rfl (vs_c rfl (vs_c rfl (vs_c rfl vs_n)))))) (tX10_formula_152 N v0 v1 v2 v3 v4 v5 v0 (2 : Int32) f h)
  · replace h := in_ c29 h
    refine v_iconst (v := 0) dX10_formula_147 (by decide) ?_
    refine v_goto (tgt := 152) dX10_formula_148 (by decide) ?_
    exact v_sub (vs_c rfl (vs_c rfl (vs_c rfl (vs_c rfl (vs_c rfl (vs_c rfl vs_n)))))) (tX10_formula_152 N v0 v1 v2 v3 v4 v5 v0 (0 : Int32) f h)

set_option maxRecDepth 20000 in
theorem tX10_formula_138 {l : Launch} {g : GT} {sz : Option Nat} (N : Nat)  {r : (Int32 × HF)} : ∀ (v0 : Nat) (v1 : Int32) (v2 : Int32) (v3 : Int32) (v4 : Int32) (v5 : Int32) (f : HF), DX10_formula_138 N v0 v1 v2 v3 v4 v5 f = some r → V l g (fun _ => True) (RX10, cX10_formula, 9, (Option.some Jvm.ClassFile.FieldType.int), [], "formula") 1 (roI (.inl r.1) r.2 sz) 138 [(0, .ref v0), (1, .int v1), (2, .int v2), (3, .int v3), (4, .int v4), (5, .int v5)] [] f sz 0 0 := by
  intro v0 v1 v2 v3 v4 v5 f h
  unfold DX10_formula_138 at h
  refine v_iconst (v := 0) dX10_formula_138 (by decide) ?_
  exact v_sub (vs_c rfl (vs_c rfl (vs_c rfl (vs_c rfl (vs_c rfl (vs_c rfl vs_n)))))) (tX10_formula_139 N v0 v1 v2 v3 v4 v5 (0 : Int32) f h)

set_option maxRecDepth 20000 in
theorem tX10_formula_134 {l : Launch} {g : GT} {sz : Option Nat} (N : Nat)  {r : (Int32 × HF)} : ∀ (v0 : Nat) (v1 : Int32) (v2 : Int32) (v3 : Int32) (v4 : Int32) (v5 : Int32) (f : HF), DX10_formula_134 N v0 v1 v2 v3 v4 v5 f = some r → V l g (fun _ => True) (RX10, cX10_formula, 9, (Option.some Jvm.ClassFile.FieldType.int), [], "formula") 1 (roI (.inl r.1) r.2 sz) 134 [(0, .ref v0), (1, .int v1), (2, .int v2), (3, .int v3), (4, .int v4), (5, .int v5)] [] f sz 0 0 := by
  intro v0 v1 v2 v3 v4 v5 f h
  unfold DX10_formula_134 at h
  refine v_iconst (v := 1) dX10_formula_134 (by decide) ?_
  refine v_goto (tgt := 139) dX10_formula_135 (by decide) ?_
  exact v_sub (vs_c rfl (vs_c rfl (vs_c rfl (vs_c rfl (vs_c rfl (vs_c rfl vs_n)))))) (tX10_formula_139 N v0 v1 v2 v3 v4 v5 (1 : Int32) f h)

set_option maxRecDepth 20000 in
theorem tX10_formula_119 {l : Launch} {g : GT} {sz : Option Nat} (N : Nat)  {r : (Int32 × HF)} : ∀ (v0 : Nat) (v1 : Int32) (v2 : Int32) (v3 : Int32) (v4 : Int32) (v5 : Int32) (f : HF), DX10_formula_119 N v0 v1 v2 v3 v4 v5 f = some r → V l g (fun _ => True) (RX10, cX10_formula, 9, (Option.some Jvm.ClassFile.FieldType.int), [], "formula") 1 (roI (.inl r.1) r.2 sz) 119 [(0, .ref v0), (1, .int v1), (2, .int v2), (3, .int v3), (4, .int v4), (5, .int v5)] [] f sz 0 0 := by
  intro v0 v1 v2 v3 v4 v5 f h
  unfold DX10_formula_119 at h
  refine v_iload_n dX10_formula_119 rfl rfl ?_
  refine v_bipush (v := 6) dX10_formula_120 (by decide) ?_
  refine v_icmp_ne (tgt := 134) dX10_formula_122 (by decide) (fun c35 => ?_) (fun c35 => ?_)
  · replace h := in_ c35 h
    exact v_sub (vs_c rfl (vs_c rfl (vs_c rfl (vs_c rfl (vs_c rfl (vs_c rfl vs_n)))))) (tX10_formula_134 N v0 v1 v2 v3 v4 v5 f h)
  · replace h := ip_ c35 h
    refine v_aload_n dX10_formula_125 rfl rfl ?_
    obtain ⟨x32, hx32, h⟩ := ob_some h
    refine v_getR dX10_formula_126 fl_X10_7 hx32 ?_
    refine v_iload_n dX10_formula_129 rfl rfl ?_
    obtain ⟨x33, hx33, h⟩ := ob_some h
    refine v_iald dX10_formula_130 hx33 ?_
    refine v_if_ne (tgt := 138) dX10_formula_131 (by decide) (fun c34 => ?_) (fun c34 => ?_)
    · replace h := in_ c34 h
      exact v_sub (vs_c rfl (vs_c rfl (vs_c rfl (vs_c rfl (vs_c rfl (vs_c rfl vs_n)))))) (tX10_formula_138 N v0 v1 v2 v3 v4 v5 f h)
    · replace h := ip_ c34 h
      exact v_sub (vs_c rfl (vs_c rfl (vs_c rfl (vs_c rfl (vs_c rfl (vs_c rfl vs_n)))))) (tX10_formula_134 N v0 v1 v2 v3 v4 v5 f h)

set_option maxRecDepth 20000 in
theorem tX10_formula_61 {l : Launch} {g : GT} {sz : Option Nat} (N : Nat)  {r : (Int32 × HF)} : ∀ (v0 : Nat) (v1 : Int32) (v2 : Int32) (v3 : Int32) (v4 : Int32) (v5 : Int32) (s0 : Nat) (s1 : Int32) (f : HF), DX10_formula_61 N v0 v1 v2 v3 v4 v5 s0 s1 f = some r → V l g (fun _ => True) (RX10, cX10_formula, 9, (Option.some Jvm.ClassFile.FieldType.int), [], "formula") 1 (roI (.inl r.1) r.2 sz) 61 [(0, .ref v0), (1, .int v1), (2, .int v2), (3, .int v3), (4, .int v4), (5, .int v5)] [.int s1, .ref s0] f sz 0 0 := by
  intro v0 v1 v2 v3 v4 v5 s0 s1 f h
  unfold DX10_formula_61 at h
  obtain ⟨f5, hf5, h⟩ := ob_some h
  refine v_pI dX10_formula_61 fp_X10_102 hf5 ?_
  refine v_aload_n dX10_formula_64 rfl rfl ?_
  obtain ⟨x6, hx6, h⟩ := ob_some h
  refine v_getI dX10_formula_65 fl_X10_102 hx6 ?_
  refine v_if_le (tgt := 73) dX10_formula_68 (by decide) (fun c45 => ?_) (fun c45 => ?_)
  · replace h := ip_ c45 h
    refine v_aload_n dX10_formula_73 rfl rfl ?_
    obtain ⟨x7, hx7, h⟩ := ob_some h
    refine v_getR dX10_formula_74 fl_X10_7 hx7 ?_
    refine v_iload_n dX10_formula_77 rfl rfl ?_
    obtain ⟨x8, hx8, h⟩ := ob_some h
    refine v_iald dX10_formula_78 hx8 ?_
    refine v_iconst (v := 5) dX10_formula_79 (by decide) ?_
    refine v_icmp_ne (tgt := 138) dX10_formula_80 (by decide) (fun c44 => ?_) (fun c44 => ?_)
    · replace h := in_ c44 h
      exact v_sub (vs_c rfl (vs_c rfl (vs_c rfl (vs_c rfl (vs_c rfl (vs_c rfl vs_n)))))) (tX10_formula_138 N v0 v1 v2 v3 v4 v5 f5 h)
    · replace h := ip_ c44 h
      refine v_iload_n dX10_formula_83 rfl rfl ?_
      refine v_i2l dX10_formula_84 ?_
      refine v_ldc2 dX10_formula_85 kc_X10_193 ?_
      refine v_ldc2 dX10_formula_88 kc_X10_195 ?_
      obtain ⟨x30, hx31, h⟩ := ob_some h
      have ehx31 := tX10_isIn (l := l) (g := g) (sz := sz) N (v2.toInt64) (-1 : Int64) (7 : Int64) f5 hx31
      refine v_cSI dX10_formula_91 ml_X10_115 ok_X10_isIn ehx31 (by decide) rfl (rest := []) rfl (Nat.le_of_ble_eq_true rfl) ?_
      refine v_if_eq (tgt := 138) dX10_formula_94 (by decide) (fun c43 => ?_) (fun c43 => ?_)
      · replace h := ip_ c43 h
        exact v_sub (vs_c rfl (vs_c rfl (vs_c rfl (vs_c rfl (vs_c rfl (vs_c rfl vs_n)))))) (tX10_formula_138 N v0 v1 v2 v3 v4 v5 f5 h)
      · replace h := in_ c43 h
        refine v_iload dX10_formula_97 rfl ?_
        refine v_if_eq (tgt := 119) dX10_formula_99 (by decide) (fun c42 => ?_) (fun c42 => ?_)
        · replace h := ip_ c42 h
          exact v_sub (vs_c rfl (vs_c rfl (vs_c rfl (vs_c rfl (vs_c rfl (vs_c rfl vs_n)))))) (tX10_formula_119 N v0 v1 v2 v3 v4 v5 f5 h)
        · replace h := in_ c42 h
          refine v_aload_n dX10_formula_102 rfl rfl ?_
          refine v_iload_n dX10_formula_103 rfl rfl ?_
          obtain ⟨x36, hx37, h⟩ := ob_some h
          have ehx37 := tX10_isAmount (l := l) (g := g) (sz := sz) N v0 v3 f5 hx37
          refine v_cVI dX10_formula_104 ml_X10_197 ok_X10_isAmount ehx37 (kX10_isAmount N v0 v3 f5 hx37) rfl (by decide) rfl (rest := []) rfl (Nat.le_of_ble_eq_true rfl) ?_
          refine v_if_eq (tgt := 138) dX10_formula_107 (by decide) (fun c41 => ?_) (fun c41 => ?_)
          · replace h := ip_ c41 h
            exact v_sub (vs_c rfl (vs_c rfl (vs_c rfl (vs_c rfl (vs_c rfl (vs_c rfl vs_n)))))) (tX10_formula_138 N v0 v1 v2 v3 v4 v5 f5 h)
          · replace h := in_ c41 h
            refine v_aload_n dX10_formula_110 rfl rfl ?_
            refine v_iload dX10_formula_111 rfl ?_
            obtain ⟨x38, hx39, h⟩ := ob_some h
            have ehx39 := tX10_isAmount (l := l) (g := g) (sz := sz) N v0 v4 f5 hx39
            refine v_cVI dX10_formula_113 ml_X10_197 ok_X10_isAmount ehx39 (kX10_isAmount N v0 v4 f5 hx39) rfl (by decide) rfl (rest := []) rfl (Nat.le_of_ble_eq_true rfl) ?_
            refine v_if_eq (tgt := 138) dX10_formula_116 (by decide) (fun c40 => ?_) (fun c40 => ?_)
            · replace h := ip_ c40 h
              exact v_sub (vs_c rfl (vs_c rfl (vs_c rfl (vs_c rfl (vs_c rfl (vs_c rfl vs_n)))))) (tX10_formula_138 N v0 v1 v2 v3 v4 v5 f5 h)
            · replace h := in_ c40 h
              exact v_sub (vs_c rfl (vs_c rfl (vs_c rfl (vs_c rfl (vs_c rfl (vs_c rfl vs_n)))))) (tX10_formula_119 N v0 v1 v2 v3 v4 v5 f5 h)
  · replace h := in_ c45 h
    refine v_iconst (v := 0) dX10_formula_71 (by decide) ?_
    obtain rfl := Option.some.inj h
    exact v_iret dX10_formula_72 rfl rfl

set_option maxRecDepth 20000 in
theorem tX10_formula_56 {l : Launch} {g : GT} {sz : Option Nat} (N : Nat)  {r : (Int32 × HF)} : ∀ (v0 : Nat) (v1 : Int32) (v2 : Int32) (v3 : Int32) (v4 : Int32) (v5 : Int32) (s0 : Nat) (f : HF), DX10_formula_56 N v0 v1 v2 v3 v4 v5 s0 f = some r → V l g (fun _ => True) (RX10, cX10_formula, 9, (Option.some Jvm.ClassFile.FieldType.int), [], "formula") 1 (roI (.inl r.1) r.2 sz) 56 [(0, .ref v0), (1, .int v1), (2, .int v2), (3, .int v3), (4, .int v4), (5, .int v5)] [.ref s0] f sz 0 0 := by
  intro v0 v1 v2 v3 v4 v5 s0 f h
  unfold DX10_formula_56 at h
  refine v_iconst (v := 1) dX10_formula_56 (by decide) ?_
  refine v_goto (tgt := 61) dX10_formula_57 (by decide) ?_
  exact v_sub (vs_c rfl (vs_c rfl (vs_c rfl (vs_c rfl (vs_c rfl (vs_c rfl vs_n)))))) (tX10_formula_61 N v0 v1 v2 v3 v4 v5 s0 (1 : Int32) f h)

set_option maxRecDepth 20000 in
theorem tX10_formula_60 {l : Launch} {g : GT} {sz : Option Nat} (N : Nat)  {r : (Int32 × HF)} : ∀ (v0 : Nat) (v1 : Int32) (v2 : Int32) (v3 : Int32) (v4 : Int32) (v5 : Int32) (s0 : Nat) (f : HF), DX10_formula_60 N v0 v1 v2 v3 v4 v5 s0 f = some r → V l g (fun _ => True) (RX10, cX10_formula, 9, (Option.some Jvm.ClassFile.FieldType.int), [], "formula") 1 (roI (.inl r.1) r.2 sz) 60 [(0, .ref v0), (1, .int v1), (2, .int v2), (3, .int v3), (4, .int v4), (5, .int v5)] [.ref s0] f sz 0 0 := by
  intro v0 v1 v2 v3 v4 v5 s0 f h
  unfold DX10_formula_60 at h
  refine v_iconst (v := 0) dX10_formula_60 (by decide) ?_
  exact v_sub (vs_c rfl (vs_c rfl (vs_c rfl (vs_c rfl (vs_c rfl (vs_c rfl vs_n)))))) (tX10_formula_61 N v0 v1 v2 v3 v4 v5 s0 (0 : Int32) f h)

set_option maxRecDepth 20000 in
theorem tX10_formula_42 {l : Launch} {g : GT} {sz : Option Nat} (N : Nat)  {r : (Int32 × HF)} : ∀ (v0 : Nat) (v1 : Int32) (v2 : Int32) (v3 : Int32) (v4 : Int32) (v5 : Int32) (s0 : Nat) (f : HF), DX10_formula_42 N v0 v1 v2 v3 v4 v5 s0 f = some r → V l g (fun _ => True) (RX10, cX10_formula, 9, (Option.some Jvm.ClassFile.FieldType.int), [], "formula") 1 (roI (.inl r.1) r.2 sz) 42 [(0, .ref v0), (1, .int v1), (2, .int v2), (3, .int v3), (4, .int v4), (5, .int v5)] [.ref s0] f sz 0 0 := by
  intro v0 v1 v2 v3 v4 v5 s0 f h
  unfold DX10_formula_42 at h
  refine v_iload_n dX10_formula_42 rfl rfl ?_
  refine v_bipush (v := 6) dX10_formula_43 (by decide) ?_
  refine v_icmp_ne (tgt := 60) dX10_formula_45 (by decide) (fun c49 => ?_) (fun c49 => ?_)
  · replace h := in_ c49 h
    exact v_sub (vs_c rfl (vs_c rfl (vs_c rfl (vs_c rfl (vs_c rfl (vs_c rfl vs_n)))))) (tX10_formula_60 N v0 v1 v2 v3 v4 v5 s0 f h)
  · replace h := ip_ c49 h
    refine v_aload_n dX10_formula_48 rfl rfl ?_
    refine v_iload_n dX10_formula_49 rfl rfl ?_
    obtain ⟨x46, hx47, h⟩ := ob_some h
    have ehx47 := tX10_no (l := l) (g := g) (sz := sz) N v0 v3 f hx47
    refine v_cVI dX10_formula_50 ml_X10_109 ok_X10_no ehx47 (kX10_no N v0 v3 f hx47) rfl (by decide) rfl (rest := [.ref s0]) rfl (Nat.le_of_ble_eq_true rfl) ?_
    refine v_if_eq (tgt := 60) dX10_formula_53 (by decide) (fun c48 => ?_) (fun c48 => ?_)
    · replace h := ip_ c48 h
      exact v_sub (vs_c rfl (vs_c rfl (vs_c rfl (vs_c rfl (vs_c rfl (vs_c rfl vs_n)))))) (tX10_formula_60 N v0 v1 v2 v3 v4 v5 s0 f h)
    · replace h := in_ c48 h
      exact v_sub (vs_c rfl (vs_c rfl (vs_c rfl (vs_c rfl (vs_c rfl (vs_c rfl vs_n)))))) (tX10_formula_56 N v0 v1 v2 v3 v4 v5 s0 f h)

set_option maxRecDepth 20000 in
theorem kX10_formula (N : Nat) (this : Nat) (p0 : Int32) (p1 : Int32) (p2 : Int32) (p3 : Int32) (f : HF) {r : (Int32 × HF)} (h : DX10_formula N this p0 p1 p2 p3 f = some r) : ck f this 9 = some () := by
  unfold DX10_formula at h
  obtain ⟨_, hck, _⟩ := ob_some h
  exact hck

set_option maxRecDepth 20000 in
theorem tX10_formula {l : Launch} {g : GT} {sz : Option Nat} (N : Nat) (this : Nat) (p0 : Int32) (p1 : Int32) (p2 : Int32) (p3 : Int32) (f : HF) {r : (Int32 × HF)} (h : DX10_formula N this p0 p1 p2 p3 f = some r) : Mt l g yX10_formula cX10_formula 9 (Option.some Jvm.ClassFile.FieldType.int) 1 [.ref this, .int p0, .int p1, .int p2, .int p3] f sz (roI (.inl r.1) r.2 sz) := by
  unfold DX10_formula at h
  obtain ⟨_, hck, h⟩ := ob_some h
  refine mt_of (by decide) (Nat.le_of_ble_eq_true rfl) (?_ : V l g (fun _ => True) (RX10, cX10_formula, 9, (Option.some Jvm.ClassFile.FieldType.int), [], "formula") 1 (roI (.inl r.1) r.2 sz) 0 [(0, .ref this), (1, .int p0), (2, .int p1), (3, .int p2), (4, .int p3)] [] f sz 0 0)
  refine v_iload_n dX10_formula_0 rfl rfl ?_
  refine v_i2l dX10_formula_1 ?_
  refine v_lconst (v := 0) dX10_formula_2 (by decide) ?_
  refine v_ldc2 dX10_formula_3 kc_X10_113 ?_
  obtain ⟨x1, hx2, h⟩ := ob_some h
  have ehx2 := tX10_isIn (l := l) (g := g) (sz := sz) N (p1.toInt64) (0 : Int64) (5 : Int64) f hx2
  refine v_cSI dX10_formula_6 ml_X10_115 ok_X10_isIn ehx2 (by decide) rfl (rest := []) rfl (Nat.le_of_ble_eq_true rfl) ?_
  refine v_istore (ls1 := [(5, .int x1), (0, .ref this), (1, .int p0), (2, .int p1), (3, .int p2), (4, .int p3)]) dX10_formula_9 (by decide) rfl ?_
  refine v_aload_n dX10_formula_11 rfl rfl ?_
  refine v_aload_n dX10_formula_12 rfl rfl ?_
  refine v_iload_n dX10_formula_13 rfl rfl ?_
  obtain ⟨x3, hx4, h⟩ := ob_some h
  have ehx4 := tX10_no (l := l) (g := g) (sz := sz) N this p0 f hx4
  refine v_cVI dX10_formula_14 ml_X10_109 ok_X10_no ehx4 (kX10_no N this p0 f hx4) rfl (by decide) rfl (rest := [.ref this]) rfl (Nat.le_of_ble_eq_true rfl) ?_
  refine v_if_ne (tgt := 56) dX10_formula_17 (by decide) (fun c57 => ?_) (fun c57 => ?_)
  · replace h := in_ c57 h
    exact v_sub (vs_c rfl (vs_c rfl (vs_c rfl (vs_c rfl (vs_c rfl (vs_c rfl vs_n)))))) (tX10_formula_56 N this p0 p1 p2 p3 x1 this f h)
  · replace h := ip_ c57 h
    refine v_iload dX10_formula_20 rfl ?_
    refine v_if_eq (tgt := 42) dX10_formula_22 (by decide) (fun c56 => ?_) (fun c56 => ?_)
    · replace h := ip_ c56 h
      exact v_sub (vs_c rfl (vs_c rfl (vs_c rfl (vs_c rfl (vs_c rfl (vs_c rfl vs_n)))))) (tX10_formula_42 N this p0 p1 p2 p3 x1 this f h)
    · replace h := in_ c56 h
      refine v_aload_n dX10_formula_25 rfl rfl ?_
      refine v_iload_n dX10_formula_26 rfl rfl ?_
      obtain ⟨x50, hx51, h⟩ := ob_some h
      have ehx51 := tX10_no (l := l) (g := g) (sz := sz) N this p2 f hx51
      refine v_cVI dX10_formula_27 ml_X10_109 ok_X10_no ehx51 (kX10_no N this p2 f hx51) rfl (by decide) rfl (rest := [.ref this]) rfl (Nat.le_of_ble_eq_true rfl) ?_
      refine v_if_ne (tgt := 56) dX10_formula_30 (by decide) (fun c55 => ?_) (fun c55 => ?_)
      · replace h := in_ c55 h
        exact v_sub (vs_c rfl (vs_c rfl (vs_c rfl (vs_c rfl (vs_c rfl (vs_c rfl vs_n)))))) (tX10_formula_56 N this p0 p1 p2 p3 x1 this f h)
      · replace h := ip_ c55 h
        refine v_aload_n dX10_formula_33 rfl rfl ?_
        refine v_iload dX10_formula_34 rfl ?_
        obtain ⟨x52, hx53, h⟩ := ob_some h
        have ehx53 := tX10_no (l := l) (g := g) (sz := sz) N this p3 f hx53
        refine v_cVI dX10_formula_36 ml_X10_109 ok_X10_no ehx53 (kX10_no N this p3 f hx53) rfl (by decide) rfl (rest := [.ref this]) rfl (Nat.le_of_ble_eq_true rfl) ?_
        refine v_if_ne (tgt := 56) dX10_formula_39 (by decide) (fun c54 => ?_) (fun c54 => ?_)
        · replace h := in_ c54 h
          exact v_sub (vs_c rfl (vs_c rfl (vs_c rfl (vs_c rfl (vs_c rfl (vs_c rfl vs_n)))))) (tX10_formula_56 N this p0 p1 p2 p3 x1 this f h)
        · replace h := ip_ c54 h
          exact v_sub (vs_c rfl (vs_c rfl (vs_c rfl (vs_c rfl (vs_c rfl (vs_c rfl vs_n)))))) (tX10_formula_42 N this p0 p1 p2 p3 x1 this f h)

/-! X10 isUnder (R) -/
def DX10_isUnder_26 (N : Nat) (f : HF)  (v2 : Int32) (v3 : Int32) : Option Int32 :=
    if v3 = v2 then
      some (1 : Int32)
    else
      some (0 : Int32)

def DX10_isUnder_7 (N : Nat) (f : HF)  (n : Nat) (v0 : Nat) (v2 : Int32) (v3 : Int32) : Option Int32 :=
  match n with
  | 0 => none
  | n + 1 =>
    if v3 < 0 then
      DX10_isUnder_26 N f v2 v3
    else
      if v3 = v2 then
        DX10_isUnder_26 N f v2 v3
      else
        (gR f v0 9 3).bind fun x4 =>
        (aI f x4 0 v3).bind fun x5 =>
        DX10_isUnder_7 N f n v0 v2 x5

def DX10_isUnder (N : Nat) (this : Nat) (p0 : Int32) (p1 : Int32) (f : HF) : Option Int32 :=
  (ck f this 9).bind fun _ =>
  (gR f this 9 3).bind fun x1 =>
  (aI f x1 0 p0).bind fun x2 =>
  DX10_isUnder_7 N f N this p1 x2

set_option maxRecDepth 20000 in
theorem tX10_isUnder_26 {l : Launch} {g : GT} {sz : Option Nat} (N : Nat) (f : HF)  {r : Int32} : ∀ (v2 : Int32) (v3 : Int32), DX10_isUnder_26 N f v2 v3 = some r → V l g (fun _ => True) (RX10, cX10_isUnder, 4, (Option.some Jvm.ClassFile.FieldType.boolean), [], "isUnder") 0 (roI (.inl r) f sz) 26 [(2, .int v2), (3, .int v3)] [] f sz 0 0 := by
  intro v2 v3 h
  unfold DX10_isUnder_26 at h
  refine v_iload_n dX10_isUnder_26 rfl rfl ?_
  refine v_iload_n dX10_isUnder_27 rfl rfl ?_
  refine v_icmp_ne (tgt := 35) dX10_isUnder_28 (by decide) (fun c3 => ?_) (fun c3 => ?_)
  · replace h := in_ c3 h
    refine v_iconst (v := 0) dX10_isUnder_35 (by decide) ?_
    obtain rfl := Option.some.inj h
    exact v_zret dX10_isUnder_36 rfl (Or.inl rfl) rfl
  · replace h := ip_ c3 h
    refine v_iconst (v := 1) dX10_isUnder_31 (by decide) ?_
    refine v_goto (tgt := 36) dX10_isUnder_32 (by decide) ?_
    obtain rfl := Option.some.inj h
    exact v_zret dX10_isUnder_36 rfl (Or.inr rfl) rfl

set_option maxRecDepth 20000 in
theorem tX10_isUnder_7 {l : Launch} {g : GT} {sz : Option Nat} (N : Nat) (f : HF)  {r : Int32} : ∀ (n : Nat), ∀ (v0 : Nat) (v2 : Int32) (v3 : Int32), DX10_isUnder_7 N f n v0 v2 v3 = some r → V l g (fun _ => True) (RX10, cX10_isUnder, 4, (Option.some Jvm.ClassFile.FieldType.boolean), [], "isUnder") 0 (roI (.inl r) f sz) 7 [(0, .ref v0), (2, .int v2), (3, .int v3)] [] f sz 0 0 := by
  intro n
  induction n with
  | zero => intro v0 v2 v3 h; cases h
  | succ n ih =>
    intro v0 v2 v3 h
    rw [DX10_isUnder_7] at h
    refine v_iload_n dX10_isUnder_7 rfl rfl ?_
    refine v_if_lt (tgt := 26) dX10_isUnder_8 (by decide) (fun c7 => ?_) (fun c7 => ?_)
    · replace h := ip_ c7 h
      exact v_sub (vs_c rfl (vs_c rfl vs_n)) (tX10_isUnder_26 N f v2 v3 h)
    · replace h := in_ c7 h
      refine v_iload_n dX10_isUnder_11 rfl rfl ?_
      refine v_iload_n dX10_isUnder_12 rfl rfl ?_
      refine v_icmp_eq (tgt := 26) dX10_isUnder_13 (by decide) (fun c6 => ?_) (fun c6 => ?_)
      · replace h := ip_ c6 h
        exact v_sub (vs_c rfl (vs_c rfl vs_n)) (tX10_isUnder_26 N f v2 v3 h)
      · replace h := in_ c6 h
        refine v_aload_n dX10_isUnder_16 rfl rfl ?_
        obtain ⟨x4, hx4, h⟩ := ob_some h
        refine v_getR dX10_isUnder_17 fl_X10_13 hx4 ?_
        refine v_iload_n dX10_isUnder_20 rfl rfl ?_
        obtain ⟨x5, hx5, h⟩ := ob_some h
        refine v_iald dX10_isUnder_21 hx5 ?_
        refine v_istore_n (ls1 := [(3, .int x5), (0, .ref v0), (2, .int v2)]) dX10_isUnder_22 rfl (by decide) rfl ?_
        refine v_goto (tgt := 7) dX10_isUnder_23 (by decide) ?_
        exact v_sub (vs_c rfl (vs_c rfl (vs_c rfl vs_n))) (ih v0 v2 x5 h)

set_option maxRecDepth 20000 in
theorem kX10_isUnder (N : Nat) (this : Nat) (p0 : Int32) (p1 : Int32) (f : HF) {r : Int32} (h : DX10_isUnder N this p0 p1 f = some r) : ck f this 9 = some () := by
  unfold DX10_isUnder at h
  obtain ⟨_, hck, _⟩ := ob_some h
  exact hck

set_option maxRecDepth 20000 in
theorem tX10_isUnder {l : Launch} {g : GT} {sz : Option Nat} (N : Nat) (this : Nat) (p0 : Int32) (p1 : Int32) (f : HF) {r : Int32} (h : DX10_isUnder N this p0 p1 f = some r) : Mt l g yX10_isUnder cX10_isUnder 4 (Option.some Jvm.ClassFile.FieldType.boolean) 0 [.ref this, .int p0, .int p1] f sz (roI (.inl r) f sz) := by
  unfold DX10_isUnder at h
  obtain ⟨_, hck, h⟩ := ob_some h
  refine mt_of (by decide) (Nat.le_of_ble_eq_true rfl) (?_ : V l g (fun _ => True) (RX10, cX10_isUnder, 4, (Option.some Jvm.ClassFile.FieldType.boolean), [], "isUnder") 0 (roI (.inl r) f sz) 0 [(0, .ref this), (1, .int p0), (2, .int p1)] [] f sz 0 0)
  refine v_aload_n dX10_isUnder_0 rfl rfl ?_
  obtain ⟨x1, hx1, h⟩ := ob_some h
  refine v_getR dX10_isUnder_1 fl_X10_13 hx1 ?_
  refine v_iload_n dX10_isUnder_4 rfl rfl ?_
  obtain ⟨x2, hx2, h⟩ := ob_some h
  refine v_iald dX10_isUnder_5 hx2 ?_
  refine v_istore_n (ls1 := [(3, .int x2), (0, .ref this), (1, .int p0), (2, .int p1)]) dX10_isUnder_6 rfl (by decide) rfl ?_
  exact v_sub (vs_c rfl (vs_c rfl (vs_c rfl vs_n))) (tX10_isUnder_7 N f N this p1 x2 h)

/-! X10 has (R) -/
def DX10_has_41 (N : Nat) (f : HF) (k2 : Nat → Int32 → Int32 → Int32 → Option Int32) (v0 : Nat) (v1 : Int32) (v2 : Int32) (v3 : Int32) : Option Int32 :=
    k2 v0 v1 v2 (v3 + 1)

def DX10_has_2 (N : Nat) (f : HF)  (n : Nat) (v0 : Nat) (v1 : Int32) (v2 : Int32) (v3 : Int32) : Option Int32 :=
  match n with
  | 0 => none
  | n + 1 =>
    (gI f v0 9 1).bind fun x1 =>
    if x1 ≤ v3 then
      some (0 : Int32)
    else
      (gR f v0 9 5).bind fun x2 =>
      (aI f x2 0 v3).bind fun x3 =>
      if x3 = v2 then
        (gR f v0 9 2).bind fun x4 =>
        (aI f x4 0 v3).bind fun x5 =>
        if x5 = (5 : Int32) then
          (DX10_isUnder N v0 v3 v1 f).bind fun x6 =>
          if x6 = 0 then
            DX10_has_41 N f (DX10_has_2 N f n) v0 v1 v2 v3
          else
            some (1 : Int32)
        else
          DX10_has_41 N f (DX10_has_2 N f n) v0 v1 v2 v3
      else
        DX10_has_41 N f (DX10_has_2 N f n) v0 v1 v2 v3

def DX10_has (N : Nat) (this : Nat) (p0 : Int32) (p1 : Int32) (f : HF) : Option Int32 :=
  (ck f this 9).bind fun _ =>
  DX10_has_2 N f N this p0 p1 (0 : Int32)

set_option maxRecDepth 20000 in
theorem tX10_has_41 {l : Launch} {g : GT} {sz : Option Nat} (N : Nat) (f : HF) (k2 : Nat → Int32 → Int32 → Int32 → Option Int32) {r : Int32} (hk2 : ∀ (w0 : Nat) (w1 : Int32) (w2 : Int32) (w3 : Int32), k2 w0 w1 w2 w3 = some r → V l g (fun _ => True) (RX10, cX10_has, 4, (Option.some Jvm.ClassFile.FieldType.boolean), [], "has") 1 (roI (.inl r) f sz) 2 [(0, .ref w0), (1, .int w1), (2, .int w2), (3, .int w3)] [] f sz 0 0) : ∀ (v0 : Nat) (v1 : Int32) (v2 : Int32) (v3 : Int32), DX10_has_41 N f k2 v0 v1 v2 v3 = some r → V l g (fun _ => True) (RX10, cX10_has, 4, (Option.some Jvm.ClassFile.FieldType.boolean), [], "has") 1 (roI (.inl r) f sz) 41 [(0, .ref v0), (1, .int v1), (2, .int v2), (3, .int v3)] [] f sz 0 0 := by
  intro v0 v1 v2 v3 h
  unfold DX10_has_41 at h
  refine v_iinc (v := (v3 + 1)) (ls1 := [(3, .int (v3 + 1)), (0, .ref v0), (1, .int v1), (2, .int v2)]) dX10_has_41 rfl rfl (by decide) rfl ?_
  refine v_goto (tgt := 2) dX10_has_44 (by decide) ?_
  exact v_sub (vs_c rfl (vs_c rfl (vs_c rfl (vs_c rfl vs_n)))) (hk2 v0 v1 v2 (v3 + 1) h)

set_option maxRecDepth 20000 in
theorem tX10_has_2 {l : Launch} {g : GT} {sz : Option Nat} (N : Nat) (f : HF)  {r : Int32} : ∀ (n : Nat), ∀ (v0 : Nat) (v1 : Int32) (v2 : Int32) (v3 : Int32), DX10_has_2 N f n v0 v1 v2 v3 = some r → V l g (fun _ => True) (RX10, cX10_has, 4, (Option.some Jvm.ClassFile.FieldType.boolean), [], "has") 1 (roI (.inl r) f sz) 2 [(0, .ref v0), (1, .int v1), (2, .int v2), (3, .int v3)] [] f sz 0 0 := by
  intro n
  induction n with
  | zero => intro v0 v1 v2 v3 h; cases h
  | succ n ih =>
    intro v0 v1 v2 v3 h
    rw [DX10_has_2] at h
    refine v_iload_n dX10_has_2 rfl rfl ?_
    refine v_aload_n dX10_has_3 rfl rfl ?_
    obtain ⟨x1, hx1, h⟩ := ob_some h
    refine v_getI dX10_has_4 fl_X10_106 hx1 ?_
    refine v_icmp_ge (tgt := 47) dX10_has_7 (by decide) (fun c11 => ?_) (fun c11 => ?_)
    · replace h := ip_ c11 h
      refine v_iconst (v := 0) dX10_has_47 (by decide) ?_
      obtain rfl := Option.some.inj h
      exact v_zret dX10_has_48 rfl (Or.inl rfl) rfl
    · replace h := in_ c11 h
      refine v_aload_n dX10_has_10 rfl rfl ?_
      obtain ⟨x2, hx2, h⟩ := ob_some h
      refine v_getR dX10_has_11 fl_X10_19 hx2 ?_
      refine v_iload_n dX10_has_14 rfl rfl ?_
      obtain ⟨x3, hx3, h⟩ := ob_some h
      refine v_iald dX10_has_15 hx3 ?_
      refine v_iload_n dX10_has_16 rfl rfl ?_
      refine v_icmp_ne (tgt := 41) dX10_has_17 (by decide) (fun c10 => ?_) (fun c10 => ?_)
      · replace h := in_ c10 h
        exact v_sub (vs_c rfl (vs_c rfl (vs_c rfl (vs_c rfl vs_n)))) (tX10_has_41 N f (DX10_has_2 N f n) ih v0 v1 v2 v3 h)
      · replace h := ip_ c10 h
        refine v_aload_n dX10_has_20 rfl rfl ?_
        obtain ⟨x4, hx4, h⟩ := ob_some h
        refine v_getR dX10_has_21 fl_X10_7 hx4 ?_
        refine v_iload_n dX10_has_24 rfl rfl ?_
        obtain ⟨x5, hx5, h⟩ := ob_some h
        refine v_iald dX10_has_25 hx5 ?_
        refine v_iconst (v := 5) dX10_has_26 (by decide) ?_
        refine v_icmp_ne (tgt := 41) dX10_has_27 (by decide) (fun c9 => ?_) (fun c9 => ?_)
        · replace h := in_ c9 h
          exact v_sub (vs_c rfl (vs_c rfl (vs_c rfl (vs_c rfl vs_n)))) (tX10_has_41 N f (DX10_has_2 N f n) ih v0 v1 v2 v3 h)
        · replace h := ip_ c9 h
          refine v_aload_n dX10_has_30 rfl rfl ?_
          refine v_iload_n dX10_has_31 rfl rfl ?_
          refine v_iload_n dX10_has_32 rfl rfl ?_
          obtain ⟨x6, hx7, h⟩ := ob_some h
          have ehx7 := tX10_isUnder (l := l) (g := g) (sz := sz) N v0 v3 v1 f hx7
          refine v_cVI dX10_has_33 ml_X10_200 ok_X10_isUnder ehx7 (kX10_isUnder N v0 v3 v1 f hx7) rfl (by decide) rfl (rest := []) rfl (Nat.le_of_ble_eq_true rfl) ?_
          refine v_if_eq (tgt := 41) dX10_has_36 (by decide) (fun c8 => ?_) (fun c8 => ?_)
          · replace h := ip_ c8 h
            exact v_sub (vs_c rfl (vs_c rfl (vs_c rfl (vs_c rfl vs_n)))) (tX10_has_41 N f (DX10_has_2 N f n) ih v0 v1 v2 v3 h)
          · replace h := in_ c8 h
            refine v_iconst (v := 1) dX10_has_39 (by decide) ?_
            obtain rfl := Option.some.inj h
            exact v_zret dX10_has_40 rfl (Or.inr rfl) rfl

set_option maxRecDepth 20000 in
theorem kX10_has (N : Nat) (this : Nat) (p0 : Int32) (p1 : Int32) (f : HF) {r : Int32} (h : DX10_has N this p0 p1 f = some r) : ck f this 9 = some () := by
  unfold DX10_has at h
  obtain ⟨_, hck, _⟩ := ob_some h
  exact hck

set_option maxRecDepth 20000 in
theorem tX10_has {l : Launch} {g : GT} {sz : Option Nat} (N : Nat) (this : Nat) (p0 : Int32) (p1 : Int32) (f : HF) {r : Int32} (h : DX10_has N this p0 p1 f = some r) : Mt l g yX10_has cX10_has 4 (Option.some Jvm.ClassFile.FieldType.boolean) 1 [.ref this, .int p0, .int p1] f sz (roI (.inl r) f sz) := by
  unfold DX10_has at h
  obtain ⟨_, hck, h⟩ := ob_some h
  refine mt_of (by decide) (Nat.le_of_ble_eq_true rfl) (?_ : V l g (fun _ => True) (RX10, cX10_has, 4, (Option.some Jvm.ClassFile.FieldType.boolean), [], "has") 1 (roI (.inl r) f sz) 0 [(0, .ref this), (1, .int p0), (2, .int p1)] [] f sz 0 0)
  refine v_iconst (v := 0) dX10_has_0 (by decide) ?_
  refine v_istore_n (ls1 := [(3, .int (0 : Int32)), (0, .ref this), (1, .int p0), (2, .int p1)]) dX10_has_1 rfl (by decide) rfl ?_
  exact v_sub (vs_c rfl (vs_c rfl (vs_c rfl (vs_c rfl vs_n)))) (tX10_has_2 N f N this p0 p1 (0 : Int32) h)

/-! X10 isFormula (R) -/
def DX10_isFormula (N : Nat) (this : Nat) (p0 : Int32) (f : HF) : Option Int32 :=
  (ck f this 9).bind fun _ =>
  (gI f this 9 1).bind fun x1 =>
  if x1 ≤ p0 then
    some (0 : Int32)
  else
    (gR f this 9 5).bind fun x2 =>
    (aI f x2 0 p0).bind fun x3 =>
    if x3 = p0 then
      (gR f this 9 2).bind fun x4 =>
      (aI f x4 0 p0).bind fun x5 =>
      if x5 = (5 : Int32) then
        (gR f this 9 18).bind fun x6 =>
        (aI f x6 0 p0).bind fun x7 =>
        if x7 < 0 then
          some (0 : Int32)
        else
          some (1 : Int32)
      else
        some (0 : Int32)
    else
      some (0 : Int32)

set_option maxRecDepth 20000 in
theorem kX10_isFormula (N : Nat) (this : Nat) (p0 : Int32) (f : HF) {r : Int32} (h : DX10_isFormula N this p0 f = some r) : ck f this 9 = some () := by
  unfold DX10_isFormula at h
  obtain ⟨_, hck, _⟩ := ob_some h
  exact hck

set_option maxRecDepth 20000 in
theorem tX10_isFormula {l : Launch} {g : GT} {sz : Option Nat} (N : Nat) (this : Nat) (p0 : Int32) (f : HF) {r : Int32} (h : DX10_isFormula N this p0 f = some r) : Mt l g yX10_isFormula cX10_isFormula 2 (Option.some Jvm.ClassFile.FieldType.boolean) 0 [.ref this, .int p0] f sz (roI (.inl r) f sz) := by
  unfold DX10_isFormula at h
  obtain ⟨_, hck, h⟩ := ob_some h
  refine mt_of (by decide) (Nat.le_of_ble_eq_true rfl) (?_ : V l g (fun _ => True) (RX10, cX10_isFormula, 2, (Option.some Jvm.ClassFile.FieldType.boolean), [], "isFormula") 0 (roI (.inl r) f sz) 0 [(0, .ref this), (1, .int p0)] [] f sz 0 0)
  refine v_iload_n dX10_isFormula_0 rfl rfl ?_
  refine v_aload_n dX10_isFormula_1 rfl rfl ?_
  obtain ⟨x1, hx1, h⟩ := ob_some h
  refine v_getI dX10_isFormula_2 fl_X10_106 hx1 ?_
  refine v_icmp_ge (tgt := 41) dX10_isFormula_5 (by decide) (fun c11 => ?_) (fun c11 => ?_)
  · replace h := ip_ c11 h
    refine v_iconst (v := 0) dX10_isFormula_41 (by decide) ?_
    obtain rfl := Option.some.inj h
    exact v_zret dX10_isFormula_42 rfl (Or.inl rfl) rfl
  · replace h := in_ c11 h
    refine v_aload_n dX10_isFormula_8 rfl rfl ?_
    obtain ⟨x2, hx2, h⟩ := ob_some h
    refine v_getR dX10_isFormula_9 fl_X10_19 hx2 ?_
    refine v_iload_n dX10_isFormula_12 rfl rfl ?_
    obtain ⟨x3, hx3, h⟩ := ob_some h
    refine v_iald dX10_isFormula_13 hx3 ?_
    refine v_iload_n dX10_isFormula_14 rfl rfl ?_
    refine v_icmp_ne (tgt := 41) dX10_isFormula_15 (by decide) (fun c10 => ?_) (fun c10 => ?_)
    · replace h := in_ c10 h
      refine v_iconst (v := 0) dX10_isFormula_41 (by decide) ?_
      obtain rfl := Option.some.inj h
      exact v_zret dX10_isFormula_42 rfl (Or.inl rfl) rfl
    · replace h := ip_ c10 h
      refine v_aload_n dX10_isFormula_18 rfl rfl ?_
      obtain ⟨x4, hx4, h⟩ := ob_some h
      refine v_getR dX10_isFormula_19 fl_X10_7 hx4 ?_
      refine v_iload_n dX10_isFormula_22 rfl rfl ?_
      obtain ⟨x5, hx5, h⟩ := ob_some h
      refine v_iald dX10_isFormula_23 hx5 ?_
      refine v_iconst (v := 5) dX10_isFormula_24 (by decide) ?_
      refine v_icmp_ne (tgt := 41) dX10_isFormula_25 (by decide) (fun c9 => ?_) (fun c9 => ?_)
      · replace h := in_ c9 h
        refine v_iconst (v := 0) dX10_isFormula_41 (by decide) ?_
        obtain rfl := Option.some.inj h
        exact v_zret dX10_isFormula_42 rfl (Or.inl rfl) rfl
      · replace h := ip_ c9 h
        refine v_aload_n dX10_isFormula_28 rfl rfl ?_
        obtain ⟨x6, hx6, h⟩ := ob_some h
        refine v_getR dX10_isFormula_29 fl_X10_60 hx6 ?_
        refine v_iload_n dX10_isFormula_32 rfl rfl ?_
        obtain ⟨x7, hx7, h⟩ := ob_some h
        refine v_iald dX10_isFormula_33 hx7 ?_
        refine v_if_lt (tgt := 41) dX10_isFormula_34 (by decide) (fun c8 => ?_) (fun c8 => ?_)
        · replace h := ip_ c8 h
          refine v_iconst (v := 0) dX10_isFormula_41 (by decide) ?_
          obtain rfl := Option.some.inj h
          exact v_zret dX10_isFormula_42 rfl (Or.inl rfl) rfl
        · replace h := in_ c8 h
          refine v_iconst (v := 1) dX10_isFormula_37 (by decide) ?_
          refine v_goto (tgt := 42) dX10_isFormula_38 (by decide) ?_
          obtain rfl := Option.some.inj h
          exact v_zret dX10_isFormula_42 rfl (Or.inr rfl) rfl

/-! X10 learn (W) -/
def DX10_learn_126 (N : Nat) (k2 : Nat → Int32 → HF → Option (Unit × HF)) (k12 : Nat → Int32 → Int32 → HF → Option (Unit × HF)) (v0 : Nat) (v1 : Int32) (v2 : Int32) (s0 : Nat) (s1 : Int32) (s2 : Int32) (f : HF) : Option (Unit × HF) :=
    if s2 = 0 ∨ s2 = 1 then
    (sI f s0 2 s1 s2).bind fun f6 =>
    k12 v0 v1 (v2 + 1) f6
    else none

def DX10_learn_125 (N : Nat) (k2 : Nat → Int32 → HF → Option (Unit × HF)) (k12 : Nat → Int32 → Int32 → HF → Option (Unit × HF)) (v0 : Nat) (v1 : Int32) (v2 : Int32) (s0 : Nat) (s1 : Int32) (f : HF) : Option (Unit × HF) :=
    DX10_learn_126 N k2 k12 v0 v1 v2 s0 s1 (0 : Int32) f

def DX10_learn_121 (N : Nat) (k2 : Nat → Int32 → HF → Option (Unit × HF)) (k12 : Nat → Int32 → Int32 → HF → Option (Unit × HF)) (v0 : Nat) (v1 : Int32) (v2 : Int32) (s0 : Nat) (s1 : Int32) (f : HF) : Option (Unit × HF) :=
    DX10_learn_126 N k2 k12 v0 v1 v2 s0 s1 (1 : Int32) f

def DX10_learn_41 (N : Nat) (k2 : Nat → Int32 → HF → Option (Unit × HF)) (k12 : Nat → Int32 → Int32 → HF → Option (Unit × HF)) (v0 : Nat) (v1 : Int32) (v2 : Int32) (s0 : Int32) (f : HF) : Option (Unit × HF) :=
    (gR f v0 9 23).bind fun x5 =>
    if s0 = 0 then
      DX10_learn_125 N k2 k12 v0 v1 v2 x5 (((40 : Int32) * v1) + v2) f
    else
      (gR f v0 9 18).bind fun x7 =>
      (aI f x7 0 v1).bind fun x8 =>
      (DX10_isIn N (x8.toInt64) (0 : Int64) (5 : Int64) f).bind fun x9 =>
      if x9 = 0 then
        (gR f v0 9 18).bind fun x11 =>
        (aI f x11 0 v1).bind fun x12 =>
        if x12 = (6 : Int32) then
          (gR f v0 9 19).bind fun x13 =>
          (aI f x13 0 v1).bind fun x14 =>
          (DX10_has N v0 x14 v2 f).bind fun x15 =>
          if x15 = 0 then
            DX10_learn_125 N k2 k12 v0 v1 v2 x5 (((40 : Int32) * v1) + v2) f
          else
            DX10_learn_121 N k2 k12 v0 v1 v2 x5 (((40 : Int32) * v1) + v2) f
        else
          DX10_learn_125 N k2 k12 v0 v1 v2 x5 (((40 : Int32) * v1) + v2) f
      else
        (gR f v0 9 19).bind fun x19 =>
        (aI f x19 0 v1).bind fun x20 =>
        if x20 = v2 then
          DX10_learn_121 N k2 k12 v0 v1 v2 x5 (((40 : Int32) * v1) + v2) f
        else
          (gR f v0 9 20).bind fun x21 =>
          (aI f x21 0 v1).bind fun x22 =>
          if x22 = v2 then
            DX10_learn_121 N k2 k12 v0 v1 v2 x5 (((40 : Int32) * v1) + v2) f
          else
            DX10_learn_125 N k2 k12 v0 v1 v2 x5 (((40 : Int32) * v1) + v2) f

def DX10_learn_40 (N : Nat) (k2 : Nat → Int32 → HF → Option (Unit × HF)) (k12 : Nat → Int32 → Int32 → HF → Option (Unit × HF)) (v0 : Nat) (v1 : Int32) (v2 : Int32) (f : HF) : Option (Unit × HF) :=
    DX10_learn_41 N k2 k12 v0 v1 v2 (0 : Int32) f

def DX10_learn_12 (N : Nat) (k2 : Nat → Int32 → HF → Option (Unit × HF)) (n : Nat) (v0 : Nat) (v1 : Int32) (v2 : Int32) (f : HF) : Option (Unit × HF) :=
  match n with
  | 0 => none
  | n + 1 =>
    (gI f v0 9 1).bind fun x2 =>
    if x2 ≤ v2 then
      k2 v0 (v1 + 1) f
    else
      (DX10_isFormula N v0 v1 f).bind fun x3 =>
      if x3 = 0 then
        DX10_learn_40 N k2 (DX10_learn_12 N k2 n) v0 v1 v2 f
      else
        (DX10_isFormula N v0 v2 f).bind fun x27 =>
        if x27 = 0 then
          DX10_learn_40 N k2 (DX10_learn_12 N k2 n) v0 v1 v2 f
        else
          DX10_learn_41 N k2 (DX10_learn_12 N k2 n) v0 v1 v2 (1 : Int32) f

def DX10_learn_2 (N : Nat)  (n : Nat) (v0 : Nat) (v1 : Int32) (f : HF) : Option (Unit × HF) :=
  match n with
  | 0 => none
  | n + 1 =>
    (gI f v0 9 1).bind fun x1 =>
    if x1 ≤ v1 then
      some ((), f)
    else
      DX10_learn_12 N (DX10_learn_2 N n) N v0 v1 (0 : Int32) f

def DX10_learn (N : Nat) (this : Nat) (f : HF) : Option (Unit × HF) :=
  (ck f this 9).bind fun _ =>
  DX10_learn_2 N N this (0 : Int32) f

set_option maxRecDepth 20000 in
theorem tX10_learn_126 {l : Launch} {g : GT} {sz : Option Nat} (N : Nat) (k2 : Nat → Int32 → HF → Option (Unit × HF)) (k12 : Nat → Int32 → Int32 → HF → Option (Unit × HF)) {r : (Unit × HF)} (hk2 : ∀ (w0 : Nat) (w1 : Int32) (f : HF), k2 w0 w1 f = some r → V l g (fun _ => True) (RX10, cX10_learn, 4, (Option.none : Option Jvm.ClassFile.FieldType), [], "learn") 2 (roU (.inl r.1) r.2 sz) 2 [(0, .ref w0), (1, .int w1)] [] f sz 0 0) (hk12 : ∀ (w0 : Nat) (w1 : Int32) (w2 : Int32) (f : HF), k12 w0 w1 w2 f = some r → V l g (fun _ => True) (RX10, cX10_learn, 4, (Option.none : Option Jvm.ClassFile.FieldType), [], "learn") 2 (roU (.inl r.1) r.2 sz) 12 [(0, .ref w0), (1, .int w1), (2, .int w2)] [] f sz 0 0) : ∀ (v0 : Nat) (v1 : Int32) (v2 : Int32) (s0 : Nat) (s1 : Int32) (s2 : Int32) (f : HF), DX10_learn_126 N k2 k12 v0 v1 v2 s0 s1 s2 f = some r → V l g (fun _ => True) (RX10, cX10_learn, 4, (Option.none : Option Jvm.ClassFile.FieldType), [], "learn") 2 (roU (.inl r.1) r.2 sz) 126 [(0, .ref v0), (1, .int v1), (2, .int v2)] [.int s2, .int s1, .ref s0] f sz 0 0 := by
  intro v0 v1 v2 s0 s1 s2 f h
  unfold DX10_learn_126 at h
  obtain ⟨hB, h⟩ := if_some h
  obtain ⟨f6, hf6, h⟩ := ob_some h
  refine v_zast dX10_learn_126 hB hf6 ?_
  refine v_iinc (v := (v2 + 1)) (ls1 := [(2, .int (v2 + 1)), (0, .ref v0), (1, .int v1)]) dX10_learn_127 rfl rfl (by decide) rfl ?_
  refine v_goto (tgt := 12) dX10_learn_130 (by decide) ?_
  exact v_sub (vs_c rfl (vs_c rfl (vs_c rfl vs_n))) (hk12 v0 v1 (v2 + 1) f6 h)

set_option maxRecDepth 20000 in
theorem tX10_learn_125 {l : Launch} {g : GT} {sz : Option Nat} (N : Nat) (k2 : Nat → Int32 → HF → Option (Unit × HF)) (k12 : Nat → Int32 → Int32 → HF → Option (Unit × HF)) {r : (Unit × HF)} (hk2 : ∀ (w0 : Nat) (w1 : Int32) (f : HF), k2 w0 w1 f = some r → V l g (fun _ => True) (RX10, cX10_learn, 4, (Option.none : Option Jvm.ClassFile.FieldType), [], "learn") 2 (roU (.inl r.1) r.2 sz) 2 [(0, .ref w0), (1, .int w1)] [] f sz 0 0) (hk12 : ∀ (w0 : Nat) (w1 : Int32) (w2 : Int32) (f : HF), k12 w0 w1 w2 f = some r → V l g (fun _ => True) (RX10, cX10_learn, 4, (Option.none : Option Jvm.ClassFile.FieldType), [], "learn") 2 (roU (.inl r.1) r.2 sz) 12 [(0, .ref w0), (1, .int w1), (2, .int w2)] [] f sz 0 0) : ∀ (v0 : Nat) (v1 : Int32) (v2 : Int32) (s0 : Nat) (s1 : Int32) (f : HF), DX10_learn_125 N k2 k12 v0 v1 v2 s0 s1 f = some r → V l g (fun _ => True) (RX10, cX10_learn, 4, (Option.none : Option Jvm.ClassFile.FieldType), [], "learn") 2 (roU (.inl r.1) r.2 sz) 125 [(0, .ref v0), (1, .int v1), (2, .int v2)] [.int s1, .ref s0] f sz 0 0 := by
  intro v0 v1 v2 s0 s1 f h
  unfold DX10_learn_125 at h
  refine v_iconst (v := 0) dX10_learn_125 (by decide) ?_
  exact v_sub (vs_c rfl (vs_c rfl (vs_c rfl vs_n))) (tX10_learn_126 N k2 k12 hk2 hk12 v0 v1 v2 s0 s1 (0 : Int32) f h)

set_option maxRecDepth 20000 in
theorem tX10_learn_121 {l : Launch} {g : GT} {sz : Option Nat} (N : Nat) (k2 : Nat → Int32 → HF → Option (Unit × HF)) (k12 : Nat → Int32 → Int32 → HF → Option (Unit × HF)) {r : (Unit × HF)} (hk2 : ∀ (w0 : Nat) (w1 : Int32) (f : HF), k2 w0 w1 f = some r → V l g (fun _ => True) (RX10, cX10_learn, 4, (Option.none : Option Jvm.ClassFile.FieldType), [], "learn") 2 (roU (.inl r.1) r.2 sz) 2 [(0, .ref w0), (1, .int w1)] [] f sz 0 0) (hk12 : ∀ (w0 : Nat) (w1 : Int32) (w2 : Int32) (f : HF), k12 w0 w1 w2 f = some r → V l g (fun _ => True) (RX10, cX10_learn, 4, (Option.none : Option Jvm.ClassFile.FieldType), [], "learn") 2 (roU (.inl r.1) r.2 sz) 12 [(0, .ref w0), (1, .int w1), (2, .int w2)] [] f sz 0 0) : ∀ (v0 : Nat) (v1 : Int32) (v2 : Int32) (s0 : Nat) (s1 : Int32) (f : HF), DX10_learn_121 N k2 k12 v0 v1 v2 s0 s1 f = some r → V l g (fun _ => True) (RX10, cX10_learn, 4, (Option.none : Option Jvm.ClassFile.FieldType), [], "learn") 2 (roU (.inl r.1) r.2 sz) 121 [(0, .ref v0), (1, .int v1), (2, .int v2)] [.int s1, .ref s0] f sz 0 0 := by
  intro v0 v1 v2 s0 s1 f h
  unfold DX10_learn_121 at h
  refine v_iconst (v := 1) dX10_learn_121 (by decide) ?_
  refine v_goto (tgt := 126) dX10_learn_122 (by decide) ?_
  exact v_sub (vs_c rfl (vs_c rfl (vs_c rfl vs_n))) (tX10_learn_126 N k2 k12 hk2 hk12 v0 v1 v2 s0 s1 (1 : Int32) f h)

set_option maxRecDepth 20000 in
theorem tX10_learn_41 {l : Launch} {g : GT} {sz : Option Nat} (N : Nat) (k2 : Nat → Int32 → HF → Option (Unit × HF)) (k12 : Nat → Int32 → Int32 → HF → Option (Unit × HF)) {r : (Unit × HF)} (hk2 : ∀ (w0 : Nat) (w1 : Int32) (f : HF), k2 w0 w1 f = some r → V l g (fun _ => True) (RX10, cX10_learn, 4, (Option.none : Option Jvm.ClassFile.FieldType), [], "learn") 2 (roU (.inl r.1) r.2 sz) 2 [(0, .ref w0), (1, .int w1)] [] f sz 0 0) (hk12 : ∀ (w0 : Nat) (w1 : Int32) (w2 : Int32) (f : HF), k12 w0 w1 w2 f = some r → V l g (fun _ => True) (RX10, cX10_learn, 4, (Option.none : Option Jvm.ClassFile.FieldType), [], "learn") 2 (roU (.inl r.1) r.2 sz) 12 [(0, .ref w0), (1, .int w1), (2, .int w2)] [] f sz 0 0) : ∀ (v0 : Nat) (v1 : Int32) (v2 : Int32) (s0 : Int32) (f : HF), DX10_learn_41 N k2 k12 v0 v1 v2 s0 f = some r → V l g (fun _ => True) (RX10, cX10_learn, 4, (Option.none : Option Jvm.ClassFile.FieldType), [], "learn") 2 (roU (.inl r.1) r.2 sz) 41 [(0, .ref v0), (1, .int v1), (2, .int v2)] [.int s0] f sz 0 0 := by
  intro v0 v1 v2 s0 f h
  unfold DX10_learn_41 at h
  refine v_istore_n (ls1 := [(3, .int s0), (0, .ref v0), (1, .int v1), (2, .int v2)]) dX10_learn_41 rfl (by decide) rfl ?_
  refine v_aload_n dX10_learn_42 rfl rfl ?_
  obtain ⟨x5, hx5, h⟩ := ob_some h
  refine v_getR dX10_learn_43 fl_X10_75 hx5 ?_
  refine v_bipush (v := 40) dX10_learn_46 (by decide) ?_
  refine v_iload_n dX10_learn_48 rfl rfl ?_
  refine v_imul dX10_learn_49 ?_
  refine v_iload_n dX10_learn_50 rfl rfl ?_
  refine v_iadd dX10_learn_51 ?_
  refine v_iload_n dX10_learn_52 rfl rfl ?_
  refine v_if_eq (tgt := 125) dX10_learn_53 (by decide) (fun c26 => ?_) (fun c26 => ?_)
  · replace h := ip_ c26 h
    exact v_sub (vs_c rfl (vs_c rfl (vs_c rfl vs_n))) (tX10_learn_125 N k2 k12 hk2 hk12 v0 v1 v2 x5 (((40 : Int32) * v1) + v2) f h)
  · replace h := in_ c26 h
    refine v_aload_n dX10_learn_56 rfl rfl ?_
    obtain ⟨x7, hx7, h⟩ := ob_some h
    refine v_getR dX10_learn_57 fl_X10_60 hx7 ?_
    refine v_iload_n dX10_learn_60 rfl rfl ?_
    obtain ⟨x8, hx8, h⟩ := ob_some h
    refine v_iald dX10_learn_61 hx8 ?_
    refine v_i2l dX10_learn_62 ?_
    refine v_lconst (v := 0) dX10_learn_63 (by decide) ?_
    refine v_ldc2 dX10_learn_64 kc_X10_113 ?_
    obtain ⟨x9, hx10, h⟩ := ob_some h
    have ehx10 := tX10_isIn (l := l) (g := g) (sz := sz) N (x8.toInt64) (0 : Int64) (5 : Int64) f hx10
    refine v_cSI dX10_learn_67 ml_X10_115 ok_X10_isIn ehx10 (by decide) rfl (rest := [.int (((40 : Int32) * v1) + v2), .ref x5]) rfl (Nat.le_of_ble_eq_true rfl) ?_
    refine v_if_eq (tgt := 96) dX10_learn_70 (by decide) (fun c25 => ?_) (fun c25 => ?_)
    · replace h := ip_ c25 h
      refine v_aload_n dX10_learn_96 rfl rfl ?_
      obtain ⟨x11, hx11, h⟩ := ob_some h
      refine v_getR dX10_learn_97 fl_X10_60 hx11 ?_
      refine v_iload_n dX10_learn_100 rfl rfl ?_
      obtain ⟨x12, hx12, h⟩ := ob_some h
      refine v_iald dX10_learn_101 hx12 ?_
      refine v_bipush (v := 6) dX10_learn_102 (by decide) ?_
      refine v_icmp_ne (tgt := 125) dX10_learn_104 (by decide) (fun c18 => ?_) (fun c18 => ?_)
      · replace h := in_ c18 h
        exact v_sub (vs_c rfl (vs_c rfl (vs_c rfl vs_n))) (tX10_learn_125 N k2 k12 hk2 hk12 v0 v1 v2 x5 (((40 : Int32) * v1) + v2) f h)
      · replace h := ip_ c18 h
        refine v_aload_n dX10_learn_107 rfl rfl ?_
        refine v_aload_n dX10_learn_108 rfl rfl ?_
        obtain ⟨x13, hx13, h⟩ := ob_some h
        refine v_getR dX10_learn_109 fl_X10_63 hx13 ?_
        refine v_iload_n dX10_learn_112 rfl rfl ?_
        obtain ⟨x14, hx14, h⟩ := ob_some h
        refine v_iald dX10_learn_113 hx14 ?_
        refine v_iload_n dX10_learn_114 rfl rfl ?_
        obtain ⟨x15, hx16, h⟩ := ob_some h
        have ehx16 := tX10_has (l := l) (g := g) (sz := sz) N v0 x14 v2 f hx16
        refine v_cVI dX10_learn_115 ml_X10_206 ok_X10_has ehx16 (kX10_has N v0 x14 v2 f hx16) rfl (by decide) rfl (rest := [.int (((40 : Int32) * v1) + v2), .ref x5]) rfl (Nat.le_of_ble_eq_true rfl) ?_
        refine v_if_eq (tgt := 125) dX10_learn_118 (by decide) (fun c17 => ?_) (fun c17 => ?_)
        · replace h := ip_ c17 h
          exact v_sub (vs_c rfl (vs_c rfl (vs_c rfl vs_n))) (tX10_learn_125 N k2 k12 hk2 hk12 v0 v1 v2 x5 (((40 : Int32) * v1) + v2) f h)
        · replace h := in_ c17 h
          exact v_sub (vs_c rfl (vs_c rfl (vs_c rfl vs_n))) (tX10_learn_121 N k2 k12 hk2 hk12 v0 v1 v2 x5 (((40 : Int32) * v1) + v2) f h)
    · replace h := in_ c25 h
      refine v_aload_n dX10_learn_73 rfl rfl ?_
      obtain ⟨x19, hx19, h⟩ := ob_some h
      refine v_getR dX10_learn_74 fl_X10_63 hx19 ?_
      refine v_iload_n dX10_learn_77 rfl rfl ?_
      obtain ⟨x20, hx20, h⟩ := ob_some h
      refine v_iald dX10_learn_78 hx20 ?_
      refine v_iload_n dX10_learn_79 rfl rfl ?_
      refine v_icmp_eq (tgt := 121) dX10_learn_80 (by decide) (fun c24 => ?_) (fun c24 => ?_)
      · replace h := ip_ c24 h
        exact v_sub (vs_c rfl (vs_c rfl (vs_c rfl vs_n))) (tX10_learn_121 N k2 k12 hk2 hk12 v0 v1 v2 x5 (((40 : Int32) * v1) + v2) f h)
      · replace h := in_ c24 h
        refine v_aload_n dX10_learn_83 rfl rfl ?_
        obtain ⟨x21, hx21, h⟩ := ob_some h
        refine v_getR dX10_learn_84 fl_X10_66 hx21 ?_
        refine v_iload_n dX10_learn_87 rfl rfl ?_
        obtain ⟨x22, hx22, h⟩ := ob_some h
        refine v_iald dX10_learn_88 hx22 ?_
        refine v_iload_n dX10_learn_89 rfl rfl ?_
        refine v_icmp_ne (tgt := 125) dX10_learn_90 (by decide) (fun c23 => ?_) (fun c23 => ?_)
        · replace h := in_ c23 h
          exact v_sub (vs_c rfl (vs_c rfl (vs_c rfl vs_n))) (tX10_learn_125 N k2 k12 hk2 hk12 v0 v1 v2 x5 (((40 : Int32) * v1) + v2) f h)
        · replace h := ip_ c23 h
          refine v_goto (tgt := 121) dX10_learn_93 (by decide) ?_
          exact v_sub (vs_c rfl (vs_c rfl (vs_c rfl vs_n))) (tX10_learn_121 N k2 k12 hk2 hk12 v0 v1 v2 x5 (((40 : Int32) * v1) + v2) f h)

set_option maxRecDepth 20000 in
theorem tX10_learn_40 {l : Launch} {g : GT} {sz : Option Nat} (N : Nat) (k2 : Nat → Int32 → HF → Option (Unit × HF)) (k12 : Nat → Int32 → Int32 → HF → Option (Unit × HF)) {r : (Unit × HF)} (hk2 : ∀ (w0 : Nat) (w1 : Int32) (f : HF), k2 w0 w1 f = some r → V l g (fun _ => True) (RX10, cX10_learn, 4, (Option.none : Option Jvm.ClassFile.FieldType), [], "learn") 2 (roU (.inl r.1) r.2 sz) 2 [(0, .ref w0), (1, .int w1)] [] f sz 0 0) (hk12 : ∀ (w0 : Nat) (w1 : Int32) (w2 : Int32) (f : HF), k12 w0 w1 w2 f = some r → V l g (fun _ => True) (RX10, cX10_learn, 4, (Option.none : Option Jvm.ClassFile.FieldType), [], "learn") 2 (roU (.inl r.1) r.2 sz) 12 [(0, .ref w0), (1, .int w1), (2, .int w2)] [] f sz 0 0) : ∀ (v0 : Nat) (v1 : Int32) (v2 : Int32) (f : HF), DX10_learn_40 N k2 k12 v0 v1 v2 f = some r → V l g (fun _ => True) (RX10, cX10_learn, 4, (Option.none : Option Jvm.ClassFile.FieldType), [], "learn") 2 (roU (.inl r.1) r.2 sz) 40 [(0, .ref v0), (1, .int v1), (2, .int v2)] [] f sz 0 0 := by
  intro v0 v1 v2 f h
  unfold DX10_learn_40 at h
  refine v_iconst (v := 0) dX10_learn_40 (by decide) ?_
  exact v_sub (vs_c rfl (vs_c rfl (vs_c rfl vs_n))) (tX10_learn_41 N k2 k12 hk2 hk12 v0 v1 v2 (0 : Int32) f h)

set_option maxRecDepth 20000 in
theorem tX10_learn_12 {l : Launch} {g : GT} {sz : Option Nat} (N : Nat) (k2 : Nat → Int32 → HF → Option (Unit × HF)) {r : (Unit × HF)} (hk2 : ∀ (w0 : Nat) (w1 : Int32) (f : HF), k2 w0 w1 f = some r → V l g (fun _ => True) (RX10, cX10_learn, 4, (Option.none : Option Jvm.ClassFile.FieldType), [], "learn") 2 (roU (.inl r.1) r.2 sz) 2 [(0, .ref w0), (1, .int w1)] [] f sz 0 0) : ∀ (n : Nat), ∀ (v0 : Nat) (v1 : Int32) (v2 : Int32) (f : HF), DX10_learn_12 N k2 n v0 v1 v2 f = some r → V l g (fun _ => True) (RX10, cX10_learn, 4, (Option.none : Option Jvm.ClassFile.FieldType), [], "learn") 2 (roU (.inl r.1) r.2 sz) 12 [(0, .ref v0), (1, .int v1), (2, .int v2)] [] f sz 0 0 := by
  intro n
  induction n with
  | zero => intro v0 v1 v2 f h; cases h
  | succ n ih =>
    intro v0 v1 v2 f h
    rw [DX10_learn_12] at h
    refine v_iload_n dX10_learn_12 rfl rfl ?_
    refine v_aload_n dX10_learn_13 rfl rfl ?_
    obtain ⟨x2, hx2, h⟩ := ob_some h
    refine v_getI dX10_learn_14 fl_X10_106 hx2 ?_
    refine v_icmp_ge (tgt := 133) dX10_learn_17 (by decide) (fun c31 => ?_) (fun c31 => ?_)
    · replace h := ip_ c31 h
      refine v_iinc (v := (v1 + 1)) (ls1 := [(1, .int (v1 + 1)), (0, .ref v0), (2, .int v2)]) dX10_learn_133 rfl rfl (by decide) rfl ?_
      refine v_goto (tgt := 2) dX10_learn_136 (by decide) ?_
      exact v_sub (vs_c rfl (vs_c rfl vs_n)) (hk2 v0 (v1 + 1) f h)
    · replace h := in_ c31 h
      refine v_aload_n dX10_learn_20 rfl rfl ?_
      refine v_iload_n dX10_learn_21 rfl rfl ?_
      obtain ⟨x3, hx4, h⟩ := ob_some h
      have ehx4 := tX10_isFormula (l := l) (g := g) (sz := sz) N v0 v1 f hx4
      refine v_cVI dX10_learn_22 ml_X10_203 ok_X10_isFormula ehx4 (kX10_isFormula N v0 v1 f hx4) rfl (by decide) rfl (rest := []) rfl (Nat.le_of_ble_eq_true rfl) ?_
      refine v_if_eq (tgt := 40) dX10_learn_25 (by decide) (fun c30 => ?_) (fun c30 => ?_)
      · replace h := ip_ c30 h
        exact v_sub (vs_c rfl (vs_c rfl (vs_c rfl vs_n))) (tX10_learn_40 N k2 (DX10_learn_12 N k2 n) hk2 ih v0 v1 v2 f h)
      · replace h := in_ c30 h
        refine v_aload_n dX10_learn_28 rfl rfl ?_
        refine v_iload_n dX10_learn_29 rfl rfl ?_
        obtain ⟨x27, hx28, h⟩ := ob_some h
        have ehx28 := tX10_isFormula (l := l) (g := g) (sz := sz) N v0 v2 f hx28
        refine v_cVI dX10_learn_30 ml_X10_203 ok_X10_isFormula ehx28 (kX10_isFormula N v0 v2 f hx28) rfl (by decide) rfl (rest := []) rfl (Nat.le_of_ble_eq_true rfl) ?_
        refine v_if_eq (tgt := 40) dX10_learn_33 (by decide) (fun c29 => ?_) (fun c29 => ?_)
        · replace h := ip_ c29 h
          exact v_sub (vs_c rfl (vs_c rfl (vs_c rfl vs_n))) (tX10_learn_40 N k2 (DX10_learn_12 N k2 n) hk2 ih v0 v1 v2 f h)
        · replace h := in_ c29 h
          refine v_iconst (v := 1) dX10_learn_36 (by decide) ?_
          refine v_goto (tgt := 41) dX10_learn_37 (by decide) ?_
          exact v_sub (vs_c rfl (vs_c rfl (vs_c rfl vs_n))) (tX10_learn_41 N k2 (DX10_learn_12 N k2 n) hk2 ih v0 v1 v2 (1 : Int32) f h)

set_option maxRecDepth 20000 in
theorem tX10_learn_2 {l : Launch} {g : GT} {sz : Option Nat} (N : Nat)  {r : (Unit × HF)} : ∀ (n : Nat), ∀ (v0 : Nat) (v1 : Int32) (f : HF), DX10_learn_2 N n v0 v1 f = some r → V l g (fun _ => True) (RX10, cX10_learn, 4, (Option.none : Option Jvm.ClassFile.FieldType), [], "learn") 2 (roU (.inl r.1) r.2 sz) 2 [(0, .ref v0), (1, .int v1)] [] f sz 0 0 := by
  intro n
  induction n with
  | zero => intro v0 v1 f h; cases h
  | succ n ih =>
    intro v0 v1 f h
    rw [DX10_learn_2] at h
    refine v_iload_n dX10_learn_2 rfl rfl ?_
    refine v_aload_n dX10_learn_3 rfl rfl ?_
    obtain ⟨x1, hx1, h⟩ := ob_some h
    refine v_getI dX10_learn_4 fl_X10_106 hx1 ?_
    refine v_icmp_ge (tgt := 139) dX10_learn_7 (by decide) (fun c32 => ?_) (fun c32 => ?_)
    · replace h := ip_ c32 h
      obtain rfl := Option.some.inj h
      exact v_vret dX10_learn_139 rfl rfl
    · replace h := in_ c32 h
      refine v_iconst (v := 0) dX10_learn_10 (by decide) ?_
      refine v_istore_n (ls1 := [(2, .int (0 : Int32)), (0, .ref v0), (1, .int v1)]) dX10_learn_11 rfl (by decide) rfl ?_
      exact v_sub (vs_c rfl (vs_c rfl (vs_c rfl vs_n))) (tX10_learn_12 N (DX10_learn_2 N n) ih N v0 v1 (0 : Int32) f h)

set_option maxRecDepth 20000 in
theorem kX10_learn (N : Nat) (this : Nat) (f : HF) {r : (Unit × HF)} (h : DX10_learn N this f = some r) : ck f this 9 = some () := by
  unfold DX10_learn at h
  obtain ⟨_, hck, _⟩ := ob_some h
  exact hck

set_option maxRecDepth 20000 in
theorem tX10_learn {l : Launch} {g : GT} {sz : Option Nat} (N : Nat) (this : Nat) (f : HF) {r : (Unit × HF)} (h : DX10_learn N this f = some r) : Mt l g yX10_learn cX10_learn 4 (Option.none : Option Jvm.ClassFile.FieldType) 2 [.ref this] f sz (roU (.inl r.1) r.2 sz) := by
  unfold DX10_learn at h
  obtain ⟨_, hck, h⟩ := ob_some h
  refine mt_of (by decide) (Nat.le_of_ble_eq_true rfl) (?_ : V l g (fun _ => True) (RX10, cX10_learn, 4, (Option.none : Option Jvm.ClassFile.FieldType), [], "learn") 2 (roU (.inl r.1) r.2 sz) 0 [(0, .ref this)] [] f sz 0 0)
  refine v_iconst (v := 0) dX10_learn_0 (by decide) ?_
  refine v_istore_n (ls1 := [(1, .int (0 : Int32)), (0, .ref this)]) dX10_learn_1 rfl (by decide) rfl ?_
  exact v_sub (vs_c rfl (vs_c rfl vs_n)) (tX10_learn_2 N N this (0 : Int32) f h)

