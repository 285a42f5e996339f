/-! X10 flatten (W) -/
def DX10_flatten_100 (N : Nat) (k91 : Nat → Int32 → Int32 → Int32 → HF → Option (Int32 × HF)) (n : Nat) (v0 : Nat) (v1 : Int32) (v3 : Int32) (v4 : Int32) (v5 : Int32) (f : HF) : Option (Int32 × HF) :=
  match n with
  | 0 => none
  | n + 1 =>
    if (4 : Int32) ≤ v5 then
      (gR f v0 9 32).bind fun x23 =>
      (gI f v0 9 33).bind fun x24 =>
      (sI f x23 0 (((5 : Int32) * x24) + (4 : Int32)) v1).bind fun f25 =>
      (gI f25 v0 9 33).bind fun x26 =>
      (pV f25 v0 9 33 (.int (x26 + (1 : Int32)))).bind fun f27 =>
      k91 v0 v1 v3 (v4 + 1) f27
    else
      (gR f v0 9 32).bind fun x28 =>
      (gI f v0 9 33).bind fun x29 =>
      (gR f v0 9 31).bind fun x30 =>
      (aI f x30 0 (((4 : Int32) * v4) + v5)).bind fun x31 =>
      (sI f x28 0 (((5 : Int32) * x29) + v5) x31).bind fun f32 =>
      DX10_flatten_100 N k91 n v0 v1 v3 v4 (v5 + 1) f32

def DX10_flatten_91 (N : Nat)  (n : Nat) (v0 : Nat) (v1 : Int32) (v3 : Int32) (v4 : Int32) (f : HF) : Option (Int32 × HF) :=
  match n with
  | 0 => none
  | n + 1 =>
    if v3 ≤ v4 then
      (gR f v0 9 9).bind fun x20 =>
      (sI f x20 2 v1 (1 : Int32)).bind fun f21 =>
      (gI f21 v0 9 33).bind fun x22 =>
      some (x22, f21)
    else
      DX10_flatten_100 N (DX10_flatten_91 N n) N v0 v1 v3 v4 (0 : Int32) f

def DX10_flatten_66 (N : Nat)  (v0 : Nat) (v1 : Int32) (s0 : Nat) (s1 : Int32) (f : HF) : Option (Int32 × HF) :=
    (pV f s0 9 0 (.int s1)).bind fun f14 =>
    (gI f14 v0 9 0).bind fun x15 =>
    if x15 ≤ 0 then
      (gR f14 v0 9 31).bind fun x16 =>
      bW (DX10_make N v0 v1 x16 f14) fun x17 f19 =>
      DX10_flatten_91 N N v0 v1 x17 (0 : Int32) f19
    else
      some ((0 : Int32), f14)

def DX10_flatten (N : Nat) (this : Nat) (p0 : Int32) (f : HF) : Option (Int32 × HF) :=
  (ck f this 9).bind fun _ =>
  (DX10_checkField N this p0 f).bind fun x1 =>
  (pV f this 9 0 (.int x1)).bind fun f3 =>
  (gI f3 this 9 0).bind fun x4 =>
  if x4 ≤ 0 then
    (gR f3 this 9 5).bind fun x5 =>
    (aI f3 x5 0 p0).bind fun x6 =>
    bW (DX10_show N this x6 f3) fun x7 f9 =>
    (gI f9 this 9 28).bind fun x10 =>
    (gR f9 this 9 9).bind fun x11 =>
    (aI f9 x11 2 p0).bind fun x12 =>
    if x12 = 0 then
      (gI f9 this 9 33).bind fun x13 =>
      if (x13 + (x10 + (1 : Int32))) ≤ (400 : Int32) then
        DX10_flatten_66 N this p0 this (0 : Int32) f9
      else
        DX10_flatten_66 N this p0 this (4 : Int32) f9
    else
      DX10_flatten_66 N this p0 this (3 : Int32) f9
  else
    some ((0 : Int32), f3)

set_option maxRecDepth 20000 in
theorem tX10_flatten_100 {l : Launch} {g : GT} {sz : Option Nat} (N : Nat) (k91 : Nat → Int32 → Int32 → Int32 → HF → Option (Int32 × HF)) {r : (Int32 × HF)} (hk91 : ∀ (w0 : Nat) (w1 : Int32) (w3 : Int32) (w4 : Int32) (f : HF), k91 w0 w1 w3 w4 f = some r → V l g (fun _ => True) (RX10, cX10_flatten, 6, (Option.some Jvm.ClassFile.FieldType.int), [], "flatten") 6 (roI (.inl r.1) r.2 sz) 91 [(0, .ref w0), (1, .int w1), (3, .int w3), (4, .int w4)] [] f sz 0 0) : ∀ (n : Nat), ∀ (v0 : Nat) (v1 : Int32) (v3 : Int32) (v4 : Int32) (v5 : Int32) (f : HF), DX10_flatten_100 N k91 n v0 v1 v3 v4 v5 f = some r → V l g (fun _ => True) (RX10, cX10_flatten, 6, (Option.some Jvm.ClassFile.FieldType.int), [], "flatten") 6 (roI (.inl r.1) r.2 sz) 100 [(0, .ref v0), (1, .int v1), (3, .int v3), (4, .int v4), (5, .int v5)] [] f sz 0 0 := by
  intro n
  induction n with
  | zero => intro v0 v1 v3 v4 v5 f h; cases h
  | succ n ih =>
    intro v0 v1 v3 v4 v5 f h
    rw [DX10_flatten_100] at h
    refine v_iload dX10_flatten_100 rfl ?_
    refine v_iconst (v := 4) dX10_flatten_102 (by decide) ?_
    refine v_icmp_ge (tgt := 138) dX10_flatten_103 (by decide) (fun c33 => ?_) (fun c33 => ?_)
    · replace h := ip_ c33 h
      refine v_aload_n dX10_flatten_138 rfl rfl ?_
      obtain ⟨x23, hx23, h⟩ := ob_some h
      refine v_getR dX10_flatten_139 fl_X10_93 hx23 ?_
      refine v_iconst (v := 5) dX10_flatten_142 (by decide) ?_
      refine v_aload_n dX10_flatten_143 rfl rfl ?_
      obtain ⟨x24, hx24, h⟩ := ob_some h
      refine v_getI dX10_flatten_144 fl_X10_279 hx24 ?_
      refine v_imul dX10_flatten_147 ?_
      refine v_iconst (v := 4) dX10_flatten_148 (by decide) ?_
      refine v_iadd dX10_flatten_149 ?_
      refine v_iload_n dX10_flatten_150 rfl rfl ?_
      obtain ⟨f25, hf25, h⟩ := ob_some h
      refine v_iast dX10_flatten_151 hf25 ?_
      refine v_aload_n dX10_flatten_152 rfl rfl ?_
      refine v_dup dX10_flatten_153 rfl ?_
      obtain ⟨x26, hx26, h⟩ := ob_some h
      refine v_getI dX10_flatten_154 fl_X10_279 hx26 ?_
      refine v_iconst (v := 1) dX10_flatten_157 (by decide) ?_
      refine v_iadd dX10_flatten_158 ?_
      obtain ⟨f27, hf27, h⟩ := ob_some h
      refine v_pI dX10_flatten_159 fp_X10_279 hf27 ?_
      refine v_iinc (v := (v4 + 1)) (ls1 := [(4, .int (v4 + 1)), (0, .ref v0), (1, .int v1), (3, .int v3), (5, .int v5)]) dX10_flatten_162 rfl rfl (by decide) rfl ?_
      refine v_goto (tgt := 91) dX10_flatten_165 (by decide) ?_
      exact v_sub (vs_c rfl (vs_c rfl (vs_c rfl (vs_c rfl vs_n)))) (hk91 v0 v1 v3 (v4 + 1) f27 h)
    · replace h := in_ c33 h
      refine v_aload_n dX10_flatten_106 rfl rfl ?_
      obtain ⟨x28, hx28, h⟩ := ob_some h
      refine v_getR dX10_flatten_107 fl_X10_93 hx28 ?_
      refine v_iconst (v := 5) dX10_flatten_110 (by decide) ?_
      refine v_aload_n dX10_flatten_111 rfl rfl ?_
      obtain ⟨x29, hx29, h⟩ := ob_some h
      refine v_getI dX10_flatten_112 fl_X10_279 hx29 ?_
      refine v_imul dX10_flatten_115 ?_
      refine v_iload dX10_flatten_116 rfl ?_
      refine v_iadd dX10_flatten_118 ?_
      refine v_aload_n dX10_flatten_119 rfl rfl ?_
      obtain ⟨x30, hx30, h⟩ := ob_some h
      refine v_getR dX10_flatten_120 fl_X10_90 hx30 ?_
      refine v_iconst (v := 4) dX10_flatten_123 (by decide) ?_
      refine v_iload dX10_flatten_124 rfl ?_
      refine v_imul dX10_flatten_126 ?_
      refine v_iload dX10_flatten_127 rfl ?_
      refine v_iadd dX10_flatten_129 ?_
      obtain ⟨x31, hx31, h⟩ := ob_some h
      refine v_iald dX10_flatten_130 hx31 ?_
      obtain ⟨f32, hf32, h⟩ := ob_some h
      refine v_iast dX10_flatten_131 hf32 ?_
      refine v_iinc (v := (v5 + 1)) (ls1 := [(5, .int (v5 + 1)), (0, .ref v0), (1, .int v1), (3, .int v3), (4, .int v4)]) dX10_flatten_132 rfl rfl (by decide) rfl ?_
      refine v_goto (tgt := 100) dX10_flatten_135 (by decide) ?_
      exact v_sub (vs_c rfl (vs_c rfl (vs_c rfl (vs_c rfl (vs_c rfl vs_n))))) (ih v0 v1 v3 v4 (v5 + 1) f32 h)

set_option maxRecDepth 20000 in
theorem tX10_flatten_91 {l : Launch} {g : GT} {sz : Option Nat} (N : Nat)  {r : (Int32 × HF)} : ∀ (n : Nat), ∀ (v0 : Nat) (v1 : Int32) (v3 : Int32) (v4 : Int32) (f : HF), DX10_flatten_91 N n v0 v1 v3 v4 f = some r → V l g (fun _ => True) (RX10, cX10_flatten, 6, (Option.some Jvm.ClassFile.FieldType.int), [], "flatten") 6 (roI (.inl r.1) r.2 sz) 91 [(0, .ref v0), (1, .int v1), (3, .int v3), (4, .int v4)] [] f sz 0 0 := by
  intro n
  induction n with
  | zero => intro v0 v1 v3 v4 f h; cases h
  | succ n ih =>
    intro v0 v1 v3 v4 f h
    rw [DX10_flatten_91] at h
    refine v_iload dX10_flatten_91 rfl ?_
    refine v_iload_n dX10_flatten_93 rfl rfl ?_
    refine v_icmp_ge (tgt := 168) dX10_flatten_94 (by decide) (fun c34 => ?_) (fun c34 => ?_)
    · replace h := ip_ c34 h
      refine v_aload_n dX10_flatten_168 rfl rfl ?_
      obtain ⟨x20, hx20, h⟩ := ob_some h
      refine v_getR dX10_flatten_169 fl_X10_31 hx20 ?_
      refine v_iload_n dX10_flatten_172 rfl rfl ?_
      refine v_iconst (v := 1) dX10_flatten_173 (by decide) ?_
      obtain ⟨f21, hf21, h⟩ := ob_some h
      refine v_zast dX10_flatten_174 (Or.inr rfl) hf21 ?_
      refine v_aload_n dX10_flatten_175 rfl rfl ?_
      obtain ⟨x22, hx22, h⟩ := ob_some h
      refine v_getI dX10_flatten_176 fl_X10_279 hx22 ?_
      obtain rfl := Option.some.inj h
      exact v_iret dX10_flatten_179 rfl rfl
    · replace h := in_ c34 h
      refine v_iconst (v := 0) dX10_flatten_97 (by decide) ?_
      refine v_istore (ls1 := [(5, .int (0 : Int32)), (0, .ref v0), (1, .int v1), (3, .int v3), (4, .int v4)]) dX10_flatten_98 (by decide) rfl ?_
      exact v_sub (vs_c rfl (vs_c rfl (vs_c rfl (vs_c rfl (vs_c rfl vs_n))))) (tX10_flatten_100 N (DX10_flatten_91 N n) ih N v0 v1 v3 v4 (0 : Int32) f h)

set_option maxRecDepth 20000 in
theorem tX10_flatten_66 {l : Launch} {g : GT} {sz : Option Nat} (N : Nat)  {r : (Int32 × HF)} : ∀ (v0 : Nat) (v1 : Int32) (s0 : Nat) (s1 : Int32) (f : HF), DX10_flatten_66 N v0 v1 s0 s1 f = some r → V l g (fun _ => True) (RX10, cX10_flatten, 6, (Option.some Jvm.ClassFile.FieldType.int), [], "flatten") 6 (roI (.inl r.1) r.2 sz) 66 [(0, .ref v0), (1, .int v1)] [.int s1, .ref s0] f sz 0 0 := by
  intro v0 v1 s0 s1 f h
  unfold DX10_flatten_66 at h
  obtain ⟨f14, hf14, h⟩ := ob_some h
  refine v_pI dX10_flatten_66 fp_X10_102 hf14 ?_
  refine v_aload_n dX10_flatten_69 rfl rfl ?_
  obtain ⟨x15, hx15, h⟩ := ob_some h
  refine v_getI dX10_flatten_70 fl_X10_102 hx15 ?_
  refine v_if_le (tgt := 78) dX10_flatten_73 (by decide) (fun c35 => ?_) (fun c35 => ?_)
  · replace h := ip_ c35 h
    refine v_aload_n dX10_flatten_78 rfl rfl ?_
    refine v_iload_n dX10_flatten_79 rfl rfl ?_
    refine v_aload_n dX10_flatten_80 rfl rfl ?_
    obtain ⟨x16, hx16, h⟩ := ob_some h
    refine v_getR dX10_flatten_81 fl_X10_90 hx16 ?_
    obtain ⟨x17, f19, hx18, h⟩ := bW_some h
    have ehx18 := tX10_make (l := l) (g := g) (sz := sz) N v0 v1 x16 f14 hx18
    refine v_cVI dX10_flatten_84 ml_X10_272 ok_X10_make ehx18 (kX10_make N v0 v1 x16 f14 hx18) rfl (by decide) rfl (rest := []) rfl (Nat.le_of_ble_eq_true rfl) ?_
    refine v_istore_n (ls1 := [(3, .int x17), (0, .ref v0), (1, .int v1)]) dX10_flatten_87 rfl (by decide) rfl ?_
    refine v_iconst (v := 0) dX10_flatten_88 (by decide) ?_
    refine v_istore (ls1 := [(4, .int (0 : Int32)), (3, .int x17), (0, .ref v0), (1, .int v1)]) dX10_flatten_89 (by decide) rfl ?_
    exact v_sub (vs_c rfl (vs_c rfl (vs_c rfl (vs_c rfl vs_n)))) (tX10_flatten_91 N N v0 v1 x17 (0 : Int32) f19 h)
  · replace h := in_ c35 h
    refine v_iconst (v := 0) dX10_flatten_76 (by decide) ?_
    obtain rfl := Option.some.inj h
    exact v_iret dX10_flatten_77 rfl rfl

set_option maxRecDepth 20000 in
theorem kX10_flatten (N : Nat) (this : Nat) (p0 : Int32) (f : HF) {r : (Int32 × HF)} (h : DX10_flatten N this p0 f = some r) : ck f this 9 = some () := by
  unfold DX10_flatten at h
  obtain ⟨_, hck, _⟩ := ob_some h
  exact hck

set_option maxRecDepth 20000 in
theorem tX10_flatten {l : Launch} {g : GT} {sz : Option Nat} (N : Nat) (this : Nat) (p0 : Int32) (f : HF) {r : (Int32 × HF)} (h : DX10_flatten N this p0 f = some r) : Mt l g yX10_flatten cX10_flatten 6 (Option.some Jvm.ClassFile.FieldType.int) 6 [.ref this, .int p0] f sz (roI (.inl r.1) r.2 sz) := by
  unfold DX10_flatten at h
  obtain ⟨_, hck, h⟩ := ob_some h
  refine mt_of (by decide) (Nat.le_of_ble_eq_true rfl) (?_ : V l g (fun _ => True) (RX10, cX10_flatten, 6, (Option.some Jvm.ClassFile.FieldType.int), [], "flatten") 6 (roI (.inl r.1) r.2 sz) 0 [(0, .ref this), (1, .int p0)] [] f sz 0 0)
  refine v_aload_n dX10_flatten_0 rfl rfl ?_
  refine v_aload_n dX10_flatten_1 rfl rfl ?_
  refine v_iload_n dX10_flatten_2 rfl rfl ?_
  obtain ⟨x1, hx2, h⟩ := ob_some h
  have ehx2 := tX10_checkField (l := l) (g := g) (sz := sz) N this p0 f hx2
  refine v_cVI dX10_flatten_3 ml_X10_262 ok_X10_checkField ehx2 (kX10_checkField N this p0 f hx2) rfl (by decide) rfl (rest := [.ref this]) rfl (Nat.le_of_ble_eq_true rfl) ?_
  obtain ⟨f3, hf3, h⟩ := ob_some h
  refine v_pI dX10_flatten_6 fp_X10_102 hf3 ?_
  refine v_aload_n dX10_flatten_9 rfl rfl ?_
  obtain ⟨x4, hx4, h⟩ := ob_some h
  refine v_getI dX10_flatten_10 fl_X10_102 hx4 ?_
  refine v_if_le (tgt := 18) dX10_flatten_13 (by decide) (fun c38 => ?_) (fun c38 => ?_)
  · replace h := ip_ c38 h
    refine v_aload_n dX10_flatten_18 rfl rfl ?_
    refine v_aload_n dX10_flatten_19 rfl rfl ?_
    obtain ⟨x5, hx5, h⟩ := ob_some h
    refine v_getR dX10_flatten_20 fl_X10_19 hx5 ?_
    refine v_iload_n dX10_flatten_23 rfl rfl ?_
    obtain ⟨x6, hx6, h⟩ := ob_some h
    refine v_iald dX10_flatten_24 hx6 ?_
    obtain ⟨x7, f9, hx8, h⟩ := bW_some h
    have ehx8 := tX10_show (l := l) (g := g) (sz := sz) N this x6 f3 hx8
    refine v_cVU dX10_flatten_25 ml_X10_256 ok_X10_show ehx8 (kX10_show N this x6 f3 hx8) rfl (by decide) rfl (rest := []) rfl (Nat.le_of_ble_eq_true rfl) ?_
    refine v_aload_n dX10_flatten_28 rfl rfl ?_
    obtain ⟨x10, hx10, h⟩ := ob_some h
    refine v_getI dX10_flatten_29 fl_X10_180 hx10 ?_
    refine v_iconst (v := 1) dX10_flatten_32 (by decide) ?_
    refine v_iadd dX10_flatten_33 ?_
    refine v_istore_n (ls1 := [(2, .int (x10 + (1 : Int32))), (0, .ref this), (1, .int p0)]) dX10_flatten_34 rfl (by decide) rfl ?_
    refine v_aload_n dX10_flatten_35 rfl rfl ?_
    refine v_aload_n dX10_flatten_36 rfl rfl ?_
    obtain ⟨x11, hx11, h⟩ := ob_some h
    refine v_getR dX10_flatten_37 fl_X10_31 hx11 ?_
    refine v_iload_n dX10_flatten_40 rfl rfl ?_
    obtain ⟨x12, hx12, h⟩ := ob_some h
    refine v_zald dX10_flatten_41 hx12 ?_
    refine v_if_eq (tgt := 49) dX10_flatten_42 (by decide) (fun c37 => ?_) (fun c37 => ?_)
    · replace h := ip_ c37 h
      refine v_aload_n dX10_flatten_49 rfl rfl ?_
      obtain ⟨x13, hx13, h⟩ := ob_some h
      refine v_getI dX10_flatten_50 fl_X10_279 hx13 ?_
      refine v_iload_n dX10_flatten_53 rfl rfl ?_
      refine v_iadd dX10_flatten_54 ?_
      refine v_sipush (v := 400) dX10_flatten_55 (by decide) ?_
      refine v_icmp_le (tgt := 65) dX10_flatten_58 (by decide) (fun c36 => ?_) (fun c36 => ?_)
      · replace h := ip_ c36 h
        refine v_iconst (v := 0) dX10_flatten_65 (by decide) ?_
        exact v_sub (vs_c rfl (vs_c rfl vs_n)) (tX10_flatten_66 N this p0 this (0 : Int32) f9 h)
      · replace h := in_ c36 h
        refine v_iconst (v := 4) dX10_flatten_61 (by decide) ?_
        refine v_goto (tgt := 66) dX10_flatten_62 (by decide) ?_
        exact v_sub (vs_c rfl (vs_c rfl vs_n)) (tX10_flatten_66 N this p0 this (4 : Int32) f9 h)
    · replace h := in_ c37 h
      refine v_iconst (v := 3) dX10_flatten_45 (by decide) ?_
      refine v_goto (tgt := 66) dX10_flatten_46 (by decide) ?_
      exact v_sub (vs_c rfl (vs_c rfl vs_n)) (tX10_flatten_66 N this p0 this (3 : Int32) f9 h)
  · replace h := in_ c38 h
    refine v_iconst (v := 0) dX10_flatten_16 (by decide) ?_
    obtain rfl := Option.some.inj h
    exact v_iret dX10_flatten_17 rfl rfl

/-! X10 page (W) -/
def DX10_page_34 (N : Nat)  (v0 : Nat) (v1 : Int32) (v2 : Int32) (s0 : Nat) (s1 : Int32) (f : HF) : Option (Int32 × HF) :=
    (pV f s0 9 0 (.int s1)).bind fun f4 =>
    (gI f4 v0 9 0).bind fun x5 =>
    if x5 ≤ 0 then
      (gR f4 v0 9 32).bind fun x6 =>
      (aI f4 x6 0 (((5 : Int32) * v1) + v2)).bind fun x7 =>
      some (x7, f4)
    else
      some ((0 : Int32), f4)

def DX10_page_33 (N : Nat)  (v0 : Nat) (v1 : Int32) (v2 : Int32) (s0 : Nat) (f : HF) : Option (Int32 × HF) :=
    DX10_page_34 N v0 v1 v2 s0 (1 : Int32) f

def DX10_page (N : Nat) (this : Nat) (p0 : Int32) (p1 : Int32) (f : HF) : Option (Int32 × HF) :=
  (ck f this 9).bind fun _ =>
  (gI f this 9 33).bind fun x1 =>
  (DX10_isIn N (p0.toInt64) (0 : Int64) ((x1.toInt64) - (1 : Int64)) f).bind fun x2 =>
  if x2 = 0 then
    DX10_page_33 N this p0 p1 this f
  else
    (DX10_isIn N (p1.toInt64) (0 : Int64) (4 : Int64) f).bind fun x9 =>
    if x9 = 0 then
      DX10_page_33 N this p0 p1 this f
    else
      DX10_page_34 N this p0 p1 this (0 : Int32) f

set_option maxRecDepth 20000 in
theorem tX10_page_34 {l : Launch} {g : GT} {sz : Option Nat} (N : Nat)  {r : (Int32 × HF)} : ∀ (v0 : Nat) (v1 : Int32) (v2 : Int32) (s0 : Nat) (s1 : Int32) (f : HF), DX10_page_34 N v0 v1 v2 s0 s1 f = some r → V l g (fun _ => True) (RX10, cX10_page, 3, (Option.some Jvm.ClassFile.FieldType.int), [], "page") 1 (roI (.inl r.1) r.2 sz) 34 [(0, .ref v0), (1, .int v1), (2, .int v2)] [.int s1, .ref s0] f sz 0 0 := by
  intro v0 v1 v2 s0 s1 f h
  unfold DX10_page_34 at h
  obtain ⟨f4, hf4, h⟩ := ob_some h
  refine v_pI dX10_page_34 fp_X10_102 hf4 ?_
  refine v_aload_n dX10_page_37 rfl rfl ?_
  obtain ⟨x5, hx5, h⟩ := ob_some h
  refine v_getI dX10_page_38 fl_X10_102 hx5 ?_
  refine v_if_le (tgt := 48) dX10_page_41 (by decide) (fun c8 => ?_) (fun c8 => ?_)
  · replace h := ip_ c8 h
    refine v_aload_n dX10_page_48 rfl rfl ?_
    obtain ⟨x6, hx6, h⟩ := ob_some h
    refine v_getR dX10_page_49 fl_X10_93 hx6 ?_
    refine v_iconst (v := 5) dX10_page_52 (by decide) ?_
    refine v_iload_n dX10_page_53 rfl rfl ?_
    refine v_imul dX10_page_54 ?_
    refine v_iload_n dX10_page_55 rfl rfl ?_
    refine v_iadd dX10_page_56 ?_
    obtain ⟨x7, hx7, h⟩ := ob_some h
    refine v_iald dX10_page_57 hx7 ?_
    obtain rfl := Option.some.inj h
    exact v_iret dX10_page_58 rfl rfl
  · replace h := in_ c8 h
    refine v_iconst (v := 0) dX10_page_44 (by decide) ?_
    refine v_goto (tgt := 58) dX10_page_45 (by decide) ?_
    obtain rfl := Option.some.inj h
    exact v_iret dX10_page_58 rfl rfl

set_option maxRecDepth 20000 in
theorem tX10_page_33 {l : Launch} {g : GT} {sz : Option Nat} (N : Nat)  {r : (Int32 × HF)} : ∀ (v0 : Nat) (v1 : Int32) (v2 : Int32) (s0 : Nat) (f : HF), DX10_page_33 N v0 v1 v2 s0 f = some r → V l g (fun _ => True) (RX10, cX10_page, 3, (Option.some Jvm.ClassFile.FieldType.int), [], "page") 1 (roI (.inl r.1) r.2 sz) 33 [(0, .ref v0), (1, .int v1), (2, .int v2)] [.ref s0] f sz 0 0 := by
  intro v0 v1 v2 s0 f h
  unfold DX10_page_33 at h
  refine v_iconst (v := 1) dX10_page_33 (by decide) ?_
  exact v_sub (vs_c rfl (vs_c rfl (vs_c rfl vs_n))) (tX10_page_34 N v0 v1 v2 s0 (1 : Int32) f h)

set_option maxRecDepth 20000 in
theorem kX10_page (N : Nat) (this : Nat) (p0 : Int32) (p1 : Int32) (f : HF) {r : (Int32 × HF)} (h : DX10_page N this p0 p1 f = some r) : ck f this 9 = some () := by
  unfold DX10_page at h
  obtain ⟨_, hck, _⟩ := ob_some h
  exact hck

set_option maxRecDepth 20000 in
theorem tX10_page {l : Launch} {g : GT} {sz : Option Nat} (N : Nat) (this : Nat) (p0 : Int32) (p1 : Int32) (f : HF) {r : (Int32 × HF)} (h : DX10_page N this p0 p1 f = some r) : Mt l g yX10_page cX10_page 3 (Option.some Jvm.ClassFile.FieldType.int) 1 [.ref this, .int p0, .int p1] f sz (roI (.inl r.1) r.2 sz) := by
  unfold DX10_page at h
  obtain ⟨_, hck, h⟩ := ob_some h
  refine mt_of (by decide) (Nat.le_of_ble_eq_true rfl) (?_ : V l g (fun _ => True) (RX10, cX10_page, 3, (Option.some Jvm.ClassFile.FieldType.int), [], "page") 1 (roI (.inl r.1) r.2 sz) 0 [(0, .ref this), (1, .int p0), (2, .int p1)] [] f sz 0 0)
  refine v_aload_n dX10_page_0 rfl rfl ?_
  refine v_iload_n dX10_page_1 rfl rfl ?_
  refine v_i2l dX10_page_2 ?_
  refine v_lconst (v := 0) dX10_page_3 (by decide) ?_
  refine v_aload_n dX10_page_4 rfl rfl ?_
  obtain ⟨x1, hx1, h⟩ := ob_some h
  refine v_getI dX10_page_5 fl_X10_279 hx1 ?_
  refine v_i2l dX10_page_8 ?_
  refine v_lconst (v := 1) dX10_page_9 (by decide) ?_
  refine v_lsub dX10_page_10 ?_
  obtain ⟨x2, hx3, h⟩ := ob_some h
  have ehx3 := tX10_isIn (l := l) (g := g) (sz := sz) N (p0.toInt64) (0 : Int64) ((x1.toInt64) - (1 : Int64)) f hx3
  refine v_cSI dX10_page_11 ml_X10_115 ok_X10_isIn ehx3 (by decide) rfl (rest := [.ref this]) rfl (Nat.le_of_ble_eq_true rfl) ?_
  refine v_if_eq (tgt := 33) dX10_page_14 (by decide) (fun c12 => ?_) (fun c12 => ?_)
  · replace h := ip_ c12 h
    exact v_sub (vs_c rfl (vs_c rfl (vs_c rfl vs_n))) (tX10_page_33 N this p0 p1 this f h)
  · replace h := in_ c12 h
    refine v_iload_n dX10_page_17 rfl rfl ?_
    refine v_i2l dX10_page_18 ?_
    refine v_lconst (v := 0) dX10_page_19 (by decide) ?_
    refine v_ldc2 dX10_page_20 kc_X10_282 ?_
    obtain ⟨x9, hx10, h⟩ := ob_some h
    have ehx10 := tX10_isIn (l := l) (g := g) (sz := sz) N (p1.toInt64) (0 : Int64) (4 : Int64) f hx10
    refine v_cSI dX10_page_23 ml_X10_115 ok_X10_isIn ehx10 (by decide) rfl (rest := [.ref this]) rfl (Nat.le_of_ble_eq_true rfl) ?_
    refine v_if_eq (tgt := 33) dX10_page_26 (by decide) (fun c11 => ?_) (fun c11 => ?_)
    · replace h := ip_ c11 h
      exact v_sub (vs_c rfl (vs_c rfl (vs_c rfl vs_n))) (tX10_page_33 N this p0 p1 this f h)
    · replace h := in_ c11 h
      refine v_iconst (v := 0) dX10_page_29 (by decide) ?_
      refine v_goto (tgt := 34) dX10_page_30 (by decide) ?_
      exact v_sub (vs_c rfl (vs_c rfl (vs_c rfl vs_n))) (tX10_page_34 N this p0 p1 this (0 : Int32) f h)

/-! X10 out (W) -/
def DX10_out_2 (N : Nat)  (n : Nat) (v0 : Nat) (v1 : Int32) (f : HF) : Option (Unit × HF) :=
  match n with
  | 0 => none
  | n + 1 =>
    (gI f v0 9 28).bind fun x1 =>
    if x1 ≤ v1 then
      (pV f v0 9 28 (.int (0 : Int32))).bind fun f2 =>
      some ((), f2)
    else
      (gR f v0 9 34).bind fun x3 =>
      (gI f v0 9 35).bind fun x4 =>
      (gR f v0 9 27).bind fun x5 =>
      (aI f x5 0 v1).bind fun x6 =>
      (sI f x3 0 x4 x6).bind fun f7 =>
      (gI f7 v0 9 35).bind fun x8 =>
      (pV f7 v0 9 35 (.int (x8 + (1 : Int32)))).bind fun f9 =>
      DX10_out_2 N n v0 (v1 + 1) f9

def DX10_out (N : Nat) (this : Nat) (f : HF) : Option (Unit × HF) :=
  (ck f this 9).bind fun _ =>
  DX10_out_2 N N this (0 : Int32) f

set_option maxRecDepth 20000 in
theorem tX10_out_2 {l : Launch} {g : GT} {sz : Option Nat} (N : Nat)  {r : (Unit × HF)} : ∀ (n : Nat), ∀ (v0 : Nat) (v1 : Int32) (f : HF), DX10_out_2 N n v0 v1 f = some r → V l g (fun _ => True) (RX10, cX10_out, 2, (Option.none : Option Jvm.ClassFile.FieldType), [], "out") 0 (roU (.inl r.1) r.2 sz) 2 [(0, .ref v0), (1, .int v1)] [] f sz 0 0 := by
  intro n
  induction n with
  | zero => intro v0 v1 f h; cases h
  | succ n ih =>
    intro v0 v1 f h
    rw [DX10_out_2] at h
    refine v_iload_n dX10_out_2 rfl rfl ?_
    refine v_aload_n dX10_out_3 rfl rfl ?_
    obtain ⟨x1, hx1, h⟩ := ob_some h
    refine v_getI dX10_out_4 fl_X10_180 hx1 ?_
    refine v_icmp_ge (tgt := 41) dX10_out_7 (by decide) (fun c10 => ?_) (fun c10 => ?_)
    · replace h := ip_ c10 h
      refine v_aload_n dX10_out_41 rfl rfl ?_
      refine v_iconst (v := 0) dX10_out_42 (by decide) ?_
      obtain ⟨f2, hf2, h⟩ := ob_some h
      refine v_pI dX10_out_43 fp_X10_180 hf2 ?_
      obtain rfl := Option.some.inj h
      exact v_vret dX10_out_46 rfl rfl
    · replace h := in_ c10 h
      refine v_aload_n dX10_out_10 rfl rfl ?_
      obtain ⟨x3, hx3, h⟩ := ob_some h
      refine v_getR dX10_out_11 fl_X10_96 hx3 ?_
      refine v_aload_n dX10_out_14 rfl rfl ?_
      obtain ⟨x4, hx4, h⟩ := ob_some h
      refine v_getI dX10_out_15 fl_X10_284 hx4 ?_
      refine v_aload_n dX10_out_18 rfl rfl ?_
      obtain ⟨x5, hx5, h⟩ := ob_some h
      refine v_getR dX10_out_19 fl_X10_84 hx5 ?_
      refine v_iload_n dX10_out_22 rfl rfl ?_
      obtain ⟨x6, hx6, h⟩ := ob_some h
      refine v_iald dX10_out_23 hx6 ?_
      obtain ⟨f7, hf7, h⟩ := ob_some h
      refine v_iast dX10_out_24 hf7 ?_
      refine v_aload_n dX10_out_25 rfl rfl ?_
      refine v_dup dX10_out_26 rfl ?_
      obtain ⟨x8, hx8, h⟩ := ob_some h
      refine v_getI dX10_out_27 fl_X10_284 hx8 ?_
      refine v_iconst (v := 1) dX10_out_30 (by decide) ?_
      refine v_iadd dX10_out_31 ?_
      obtain ⟨f9, hf9, h⟩ := ob_some h
      refine v_pI dX10_out_32 fp_X10_284 hf9 ?_
      refine v_iinc (v := (v1 + 1)) (ls1 := [(1, .int (v1 + 1)), (0, .ref v0)]) dX10_out_35 rfl rfl (by decide) rfl ?_
      refine v_goto (tgt := 2) dX10_out_38 (by decide) ?_
      exact v_sub (vs_c rfl (vs_c rfl vs_n)) (ih v0 (v1 + 1) f9 h)

set_option maxRecDepth 20000 in
theorem kX10_out (N : Nat) (this : Nat) (f : HF) {r : (Unit × HF)} (h : DX10_out N this f = some r) : ck f this 9 = some () := by
  unfold DX10_out at h
  obtain ⟨_, hck, _⟩ := ob_some h
  exact hck

set_option maxRecDepth 20000 in
theorem tX10_out {l : Launch} {g : GT} {sz : Option Nat} (N : Nat) (this : Nat) (f : HF) {r : (Unit × HF)} (h : DX10_out N this f = some r) : Mt l g yX10_out cX10_out 2 (Option.none : Option Jvm.ClassFile.FieldType) 0 [.ref this] f sz (roU (.inl r.1) r.2 sz) := by
  unfold DX10_out at h
  obtain ⟨_, hck, h⟩ := ob_some h
  refine mt_of (by decide) (Nat.le_of_ble_eq_true rfl) (?_ : V l g (fun _ => True) (RX10, cX10_out, 2, (Option.none : Option Jvm.ClassFile.FieldType), [], "out") 0 (roU (.inl r.1) r.2 sz) 0 [(0, .ref this)] [] f sz 0 0)
  refine v_iconst (v := 0) dX10_out_0 (by decide) ?_
  refine v_istore_n (ls1 := [(1, .int (0 : Int32)), (0, .ref this)]) dX10_out_1 rfl (by decide) rfl ?_
  exact v_sub (vs_c rfl (vs_c rfl vs_n)) (tX10_out_2 N N this (0 : Int32) f h)

/-! X10 putValue (W) -/
def DX10_putValue (N : Nat) (this : Nat) (p0 : Int32) (f : HF) : Option (Unit × HF) :=
  (ck f this 9).bind fun _ =>
  (DX10_isSigned N this p0 f).bind fun x1 =>
  if x1 = 0 then
    (gR f this 9 2).bind fun x3 =>
    (aI f x3 0 p0).bind fun x4 =>
    if x4 = (2 : Int32) then
      (gR f this 9 12).bind fun x15 =>
      (aI f x15 0 p0).bind fun x16 =>
      bW (DX10_put N this ((48 : Int32) + x16) f) fun x17 f19 =>
      some ((), f19)
    else
      (gR f this 9 12).bind fun x5 =>
      (aI f x5 0 p0).bind fun x6 =>
      if x6 < 0 then
        some ((), f)
      else
        (gR f this 9 13).bind fun x7 =>
        (gR f this 9 12).bind fun x8 =>
        (aI f x8 0 p0).bind fun x9 =>
        (aI f x7 0 (((12 : Int32) * p0) + x9)).bind fun x10 =>
        bW (DX10_putNumber N this (x10.toInt64) (0 : Int32) f) fun x11 f13 =>
        some ((), f13)
  else
    bW (DX10_putSigns N this p0 f) fun x21 f23 =>
    some ((), f23)

set_option maxRecDepth 20000 in
theorem kX10_putValue (N : Nat) (this : Nat) (p0 : Int32) (f : HF) {r : (Unit × HF)} (h : DX10_putValue N this p0 f = some r) : ck f this 9 = some () := by
  unfold DX10_putValue at h
  obtain ⟨_, hck, _⟩ := ob_some h
  exact hck

set_option maxRecDepth 20000 in
theorem tX10_putValue {l : Launch} {g : GT} {sz : Option Nat} (N : Nat) (this : Nat) (p0 : Int32) (f : HF) {r : (Unit × HF)} (h : DX10_putValue N this p0 f = some r) : Mt l g yX10_putValue cX10_putValue 2 (Option.none : Option Jvm.ClassFile.FieldType) 2 [.ref this, .int p0] f sz (roU (.inl r.1) r.2 sz) := by
  unfold DX10_putValue at h
  obtain ⟨_, hck, h⟩ := ob_some h
  refine mt_of (by decide) (Nat.le_of_ble_eq_true rfl) (?_ : V l g (fun _ => True) (RX10, cX10_putValue, 2, (Option.none : Option Jvm.ClassFile.FieldType), [], "putValue") 2 (roU (.inl r.1) r.2 sz) 0 [(0, .ref this), (1, .int p0)] [] f sz 0 0)
  refine v_aload_n dX10_putValue_0 rfl rfl ?_
  refine v_iload_n dX10_putValue_1 rfl rfl ?_
  obtain ⟨x1, hx2, h⟩ := ob_some h
  have ehx2 := tX10_isSigned (l := l) (g := g) (sz := sz) N this p0 f hx2
  refine v_cVI dX10_putValue_2 ml_X10_140 ok_X10_isSigned ehx2 (kX10_isSigned N this p0 f hx2) rfl (by decide) rfl (rest := []) rfl (Nat.le_of_ble_eq_true rfl) ?_
  refine v_if_eq (tgt := 16) dX10_putValue_5 (by decide) (fun c24 => ?_) (fun c24 => ?_)
  · replace h := ip_ c24 h
    refine v_aload_n dX10_putValue_16 rfl rfl ?_
    obtain ⟨x3, hx3, h⟩ := ob_some h
    refine v_getR dX10_putValue_17 fl_X10_7 hx3 ?_
    refine v_iload_n dX10_putValue_20 rfl rfl ?_
    obtain ⟨x4, hx4, h⟩ := ob_some h
    refine v_iald dX10_putValue_21 hx4 ?_
    refine v_iconst (v := 2) dX10_putValue_22 (by decide) ?_
    refine v_icmp_ne (tgt := 42) dX10_putValue_23 (by decide) (fun c20 => ?_) (fun c20 => ?_)
    · replace h := in_ c20 h
      refine v_aload_n dX10_putValue_42 rfl rfl ?_
      obtain ⟨x5, hx5, h⟩ := ob_some h
      refine v_getR dX10_putValue_43 fl_X10_41 hx5 ?_
      refine v_iload_n dX10_putValue_46 rfl rfl ?_
      obtain ⟨x6, hx6, h⟩ := ob_some h
      refine v_iald dX10_putValue_47 hx6 ?_
      refine v_if_lt (tgt := 73) dX10_putValue_48 (by decide) (fun c14 => ?_) (fun c14 => ?_)
      · replace h := ip_ c14 h
        obtain rfl := Option.some.inj h
        exact v_vret dX10_putValue_73 rfl rfl
      · replace h := in_ c14 h
        refine v_aload_n dX10_putValue_51 rfl rfl ?_
        refine v_aload_n dX10_putValue_52 rfl rfl ?_
        obtain ⟨x7, hx7, h⟩ := ob_some h
        refine v_getR dX10_putValue_53 fl_X10_44 hx7 ?_
        refine v_bipush (v := 12) dX10_putValue_56 (by decide) ?_
        refine v_iload_n dX10_putValue_58 rfl rfl ?_
        refine v_imul dX10_putValue_59 ?_
        refine v_aload_n dX10_putValue_60 rfl rfl ?_
        obtain ⟨x8, hx8, h⟩ := ob_some h
        refine v_getR dX10_putValue_61 fl_X10_41 hx8 ?_
        refine v_iload_n dX10_putValue_64 rfl rfl ?_
        obtain ⟨x9, hx9, h⟩ := ob_some h
        refine v_iald dX10_putValue_65 hx9 ?_
        refine v_iadd dX10_putValue_66 ?_
        obtain ⟨x10, hx10, h⟩ := ob_some h
        refine v_iald dX10_putValue_67 hx10 ?_
        refine v_i2l dX10_putValue_68 ?_
        refine v_iconst (v := 0) dX10_putValue_69 (by decide) ?_
        obtain ⟨x11, f13, hx12, h⟩ := bW_some h
        have ehx12 := tX10_putNumber (l := l) (g := g) (sz := sz) N this (x10.toInt64) (0 : Int32) f hx12
        refine v_cVU dX10_putValue_70 ml_X10_187 ok_X10_putNumber ehx12 (kX10_putNumber N this (x10.toInt64) (0 : Int32) f hx12) rfl (by decide) rfl (rest := []) rfl (Nat.le_of_ble_eq_true rfl) ?_
        obtain rfl := Option.some.inj h
        exact v_vret dX10_putValue_73 rfl rfl
    · replace h := ip_ c20 h
      refine v_aload_n dX10_putValue_26 rfl rfl ?_
      refine v_bipush (v := 48) dX10_putValue_27 (by decide) ?_
      refine v_aload_n dX10_putValue_29 rfl rfl ?_
      obtain ⟨x15, hx15, h⟩ := ob_some h
      refine v_getR dX10_putValue_30 fl_X10_41 hx15 ?_
      refine v_iload_n dX10_putValue_33 rfl rfl ?_
      obtain ⟨x16, hx16, h⟩ := ob_some h
      refine v_iald dX10_putValue_34 hx16 ?_
      refine v_iadd dX10_putValue_35 ?_
      obtain ⟨x17, f19, hx18, h⟩ := bW_some h
      have ehx18 := tX10_put (l := l) (g := g) (sz := sz) N this ((48 : Int32) + x16) f hx18
      refine v_cVU dX10_putValue_36 ml_X10_183 ok_X10_put ehx18 (kX10_put N this ((48 : Int32) + x16) f hx18) rfl (by decide) rfl (rest := []) rfl (Nat.le_of_ble_eq_true rfl) ?_
      refine v_goto (tgt := 73) dX10_putValue_39 (by decide) ?_
      obtain rfl := Option.some.inj h
      exact v_vret dX10_putValue_73 rfl rfl
  · replace h := in_ c24 h
    refine v_aload_n dX10_putValue_8 rfl rfl ?_
    refine v_iload_n dX10_putValue_9 rfl rfl ?_
    obtain ⟨x21, f23, hx22, h⟩ := bW_some h
    have ehx22 := tX10_putSigns (l := l) (g := g) (sz := sz) N this p0 f hx22
    refine v_cVU dX10_putValue_10 ml_X10_253 ok_X10_putSigns ehx22 (kX10_putSigns N this p0 f hx22) rfl (by decide) rfl (rest := []) rfl (Nat.le_of_ble_eq_true rfl) ?_
    refine v_goto (tgt := 73) dX10_putValue_13 (by decide) ?_
    obtain rfl := Option.some.inj h
    exact v_vret dX10_putValue_73 rfl rfl

/-! X10 isMaster (R) -/
def DX10_isMaster (N : Nat) (this : Nat) (p0 : Int32) (f : HF) : Option Int32 :=
  (ck f this 9).bind fun _ =>
  (gR f this 9 5).bind fun x1 =>
  (aI f x1 0 p0).bind fun x2 =>
  if x2 = p0 then
    (gR f this 9 2).bind fun x3 =>
    (aI f x3 0 p0).bind fun x4 =>
    if x4 = 0 then
      some (0 : Int32)
    else
      some (1 : Int32)
  else
    some (0 : Int32)

set_option maxRecDepth 20000 in
theorem kX10_isMaster (N : Nat) (this : Nat) (p0 : Int32) (f : HF) {r : Int32} (h : DX10_isMaster N this p0 f = some r) : ck f this 9 = some () := by
  unfold DX10_isMaster at h
  obtain ⟨_, hck, _⟩ := ob_some h
  exact hck

set_option maxRecDepth 20000 in
theorem tX10_isMaster {l : Launch} {g : GT} {sz : Option Nat} (N : Nat) (this : Nat) (p0 : Int32) (f : HF) {r : Int32} (h : DX10_isMaster N this p0 f = some r) : Mt l g yX10_isMaster cX10_isMaster 2 (Option.some Jvm.ClassFile.FieldType.boolean) 0 [.ref this, .int p0] f sz (roI (.inl r) f sz) := by
  unfold DX10_isMaster at h
  obtain ⟨_, hck, h⟩ := ob_some h
  refine mt_of (by decide) (Nat.le_of_ble_eq_true rfl) (?_ : V l g (fun _ => True) (RX10, cX10_isMaster, 2, (Option.some Jvm.ClassFile.FieldType.boolean), [], "isMaster") 0 (roI (.inl r) f sz) 0 [(0, .ref this), (1, .int p0)] [] f sz 0 0)
  refine v_aload_n dX10_isMaster_0 rfl rfl ?_
  obtain ⟨x1, hx1, h⟩ := ob_some h
  refine v_getR dX10_isMaster_1 fl_X10_19 hx1 ?_
  refine v_iload_n dX10_isMaster_4 rfl rfl ?_
  obtain ⟨x2, hx2, h⟩ := ob_some h
  refine v_iald dX10_isMaster_5 hx2 ?_
  refine v_iload_n dX10_isMaster_6 rfl rfl ?_
  refine v_icmp_ne (tgt := 23) dX10_isMaster_7 (by decide) (fun c6 => ?_) (fun c6 => ?_)
  · replace h := in_ c6 h
    refine v_iconst (v := 0) dX10_isMaster_23 (by decide) ?_
    obtain rfl := Option.some.inj h
    exact v_zret dX10_isMaster_24 rfl (Or.inl rfl) rfl
  · replace h := ip_ c6 h
    refine v_aload_n dX10_isMaster_10 rfl rfl ?_
    obtain ⟨x3, hx3, h⟩ := ob_some h
    refine v_getR dX10_isMaster_11 fl_X10_7 hx3 ?_
    refine v_iload_n dX10_isMaster_14 rfl rfl ?_
    obtain ⟨x4, hx4, h⟩ := ob_some h
    refine v_iald dX10_isMaster_15 hx4 ?_
    refine v_if_eq (tgt := 23) dX10_isMaster_16 (by decide) (fun c5 => ?_) (fun c5 => ?_)
    · replace h := ip_ c5 h
      refine v_iconst (v := 0) dX10_isMaster_23 (by decide) ?_
      obtain rfl := Option.some.inj h
      exact v_zret dX10_isMaster_24 rfl (Or.inl rfl) rfl
    · replace h := in_ c5 h
      refine v_iconst (v := 1) dX10_isMaster_19 (by decide) ?_
      refine v_goto (tgt := 24) dX10_isMaster_20 (by decide) ?_
      obtain rfl := Option.some.inj h
      exact v_zret dX10_isMaster_24 rfl (Or.inr rfl) rfl

/-! X10 nameOut (W) -/
def DX10_nameOut_79 (N : Nat) (k25 : Nat → Int32 → Int32 → HF → Option (Unit × HF)) (v0 : Nat) (v1 : Int32) (v3 : Int32) (f : HF) : Option (Unit × HF) :=
    bW (DX10_out N v0 f) fun x6 f8 =>
    k25 v0 v1 (v3 + (-1)) f8

def DX10_nameOut_35 (N : Nat) (k25 : Nat → Int32 → Int32 → HF → Option (Unit × HF)) (n : Nat) (v0 : Nat) (v1 : Int32) (v3 : Int32) (v4 : Int32) (v5 : Int32) (f : HF) : Option (Unit × HF) :=
  match n with
  | 0 => none
  | n + 1 =>
    if v3 ≤ v5 then
      (gR f v0 9 4).bind fun x1 =>
      (aI f x1 0 v4).bind fun x2 =>
      bW (DX10_putNumber N v0 (x2.toInt64) (0 : Int32) f) fun x3 f5 =>
      if v3 ≤ 0 then
        DX10_nameOut_79 N k25 v0 v1 v3 f5
      else
        bW (DX10_put N v0 (46 : Int32) f5) fun x9 f11 =>
        DX10_nameOut_79 N k25 v0 v1 v3 f11
    else
      (gR f v0 9 3).bind fun x13 =>
      (aI f x13 0 v4).bind fun x14 =>
      DX10_nameOut_35 N k25 n v0 v1 v3 x14 (v5 + 1) f

def DX10_nameOut_25 (N : Nat)  (n : Nat) (v0 : Nat) (v1 : Int32) (v3 : Int32) (f : HF) : Option (Unit × HF) :=
  match n with
  | 0 => none
  | n + 1 =>
    if v3 < 0 then
      some ((), f)
    else
      DX10_nameOut_35 N (DX10_nameOut_25 N n) N v0 v1 v3 v1 (0 : Int32) f

def DX10_nameOut_4 (N : Nat)  (n : Nat) (v0 : Nat) (v1 : Int32) (v2 : Int32) (v3 : Int32) (f : HF) : Option (Unit × HF) :=
  match n with
  | 0 => none
  | n + 1 =>
    if v3 < 0 then
      DX10_nameOut_25 N N v0 v1 (v2 - (1 : Int32)) f
    else
      (gR f v0 9 3).bind fun x17 =>
      (aI f x17 0 v3).bind fun x18 =>
      DX10_nameOut_4 N n v0 v1 (v2 + 1) x18 f

def DX10_nameOut (N : Nat) (this : Nat) (p0 : Int32) (f : HF) : Option (Unit × HF) :=
  (ck f this 9).bind fun _ =>
  DX10_nameOut_4 N N this p0 (0 : Int32) p0 f

set_option maxRecDepth 20000 in
theorem tX10_nameOut_79 {l : Launch} {g : GT} {sz : Option Nat} (N : Nat) (k25 : Nat → Int32 → Int32 → HF → Option (Unit × HF)) {r : (Unit × HF)} (hk25 : ∀ (w0 : Nat) (w1 : Int32) (w3 : Int32) (f : HF), k25 w0 w1 w3 f = some r → V l g (fun _ => True) (RX10, cX10_nameOut, 6, (Option.none : Option Jvm.ClassFile.FieldType), [], "nameOut") 2 (roU (.inl r.1) r.2 sz) 25 [(0, .ref w0), (1, .int w1), (3, .int w3)] [] f sz 0 0) : ∀ (v0 : Nat) (v1 : Int32) (v3 : Int32) (f : HF), DX10_nameOut_79 N k25 v0 v1 v3 f = some r → V l g (fun _ => True) (RX10, cX10_nameOut, 6, (Option.none : Option Jvm.ClassFile.FieldType), [], "nameOut") 2 (roU (.inl r.1) r.2 sz) 79 [(0, .ref v0), (1, .int v1), (3, .int v3)] [] f sz 0 0 := by
  intro v0 v1 v3 f h
  unfold DX10_nameOut_79 at h
  refine v_aload_n dX10_nameOut_79 rfl rfl ?_
  obtain ⟨x6, f8, hx7, h⟩ := bW_some h
  have ehx7 := tX10_out (l := l) (g := g) (sz := sz) N v0 f hx7
  refine v_cVU dX10_nameOut_80 ml_X10_296 ok_X10_out ehx7 (kX10_out N v0 f hx7) rfl (by decide) rfl (rest := []) rfl (Nat.le_of_ble_eq_true rfl) ?_
  refine v_iinc (v := (v3 + (-1))) (ls1 := [(3, .int (v3 + (-1))), (0, .ref v0), (1, .int v1)]) dX10_nameOut_83 rfl rfl (by decide) rfl ?_
  refine v_goto (tgt := 25) dX10_nameOut_86 (by decide) ?_
  exact v_sub (vs_c rfl (vs_c rfl (vs_c rfl vs_n))) (hk25 v0 v1 (v3 + (-1)) f8 h)

set_option maxRecDepth 20000 in
theorem tX10_nameOut_35 {l : Launch} {g : GT} {sz : Option Nat} (N : Nat) (k25 : Nat → Int32 → Int32 → HF → Option (Unit × HF)) {r : (Unit × HF)} (hk25 : ∀ (w0 : Nat) (w1 : Int32) (w3 : Int32) (f : HF), k25 w0 w1 w3 f = some r → V l g (fun _ => True) (RX10, cX10_nameOut, 6, (Option.none : Option Jvm.ClassFile.FieldType), [], "nameOut") 2 (roU (.inl r.1) r.2 sz) 25 [(0, .ref w0), (1, .int w1), (3, .int w3)] [] f sz 0 0) : ∀ (n : Nat), ∀ (v0 : Nat) (v1 : Int32) (v3 : Int32) (v4 : Int32) (v5 : Int32) (f : HF), DX10_nameOut_35 N k25 n v0 v1 v3 v4 v5 f = some r → V l g (fun _ => True) (RX10, cX10_nameOut, 6, (Option.none : Option Jvm.ClassFile.FieldType), [], "nameOut") 2 (roU (.inl r.1) r.2 sz) 35 [(0, .ref v0), (1, .int v1), (3, .int v3), (4, .int v4), (5, .int v5)] [] f sz 0 0 := by
  intro n
  induction n with
  | zero => intro v0 v1 v3 v4 v5 f h; cases h
  | succ n ih =>
    intro v0 v1 v3 v4 v5 f h
    rw [DX10_nameOut_35] at h
    refine v_iload dX10_nameOut_35 rfl ?_
    refine v_iload_n dX10_nameOut_37 rfl rfl ?_
    refine v_icmp_ge (tgt := 56) dX10_nameOut_38 (by decide) (fun c15 => ?_) (fun c15 => ?_)
    · replace h := ip_ c15 h
      refine v_aload_n dX10_nameOut_56 rfl rfl ?_
      refine v_aload_n dX10_nameOut_57 rfl rfl ?_
      obtain ⟨x1, hx1, h⟩ := ob_some h
      refine v_getR dX10_nameOut_58 fl_X10_16 hx1 ?_
      refine v_iload dX10_nameOut_61 rfl ?_
      obtain ⟨x2, hx2, h⟩ := ob_some h
      refine v_iald dX10_nameOut_63 hx2 ?_
      refine v_i2l dX10_nameOut_64 ?_
      refine v_iconst (v := 0) dX10_nameOut_65 (by decide) ?_
      obtain ⟨x3, f5, hx4, h⟩ := bW_some h
      have ehx4 := tX10_putNumber (l := l) (g := g) (sz := sz) N v0 (x2.toInt64) (0 : Int32) f hx4
      refine v_cVU dX10_nameOut_66 ml_X10_187 ok_X10_putNumber ehx4 (kX10_putNumber N v0 (x2.toInt64) (0 : Int32) f hx4) rfl (by decide) rfl (rest := []) rfl (Nat.le_of_ble_eq_true rfl) ?_
      refine v_iload_n dX10_nameOut_69 rfl rfl ?_
      refine v_if_le (tgt := 79) dX10_nameOut_70 (by decide) (fun c12 => ?_) (fun c12 => ?_)
      · replace h := ip_ c12 h
        exact v_sub (vs_c rfl (vs_c rfl (vs_c rfl vs_n))) (tX10_nameOut_79 N k25 hk25 v0 v1 v3 f5 h)
      · replace h := in_ c12 h
        refine v_aload_n dX10_nameOut_73 rfl rfl ?_
        refine v_bipush (v := 46) dX10_nameOut_74 (by decide) ?_
        obtain ⟨x9, f11, hx10, h⟩ := bW_some h
        have ehx10 := tX10_put (l := l) (g := g) (sz := sz) N v0 (46 : Int32) f5 hx10
        refine v_cVU dX10_nameOut_76 ml_X10_183 ok_X10_put ehx10 (kX10_put N v0 (46 : Int32) f5 hx10) rfl (by decide) rfl (rest := []) rfl (Nat.le_of_ble_eq_true rfl) ?_
        exact v_sub (vs_c rfl (vs_c rfl (vs_c rfl vs_n))) (tX10_nameOut_79 N k25 hk25 v0 v1 v3 f11 h)
    · replace h := in_ c15 h
      refine v_aload_n dX10_nameOut_41 rfl rfl ?_
      obtain ⟨x13, hx13, h⟩ := ob_some h
      refine v_getR dX10_nameOut_42 fl_X10_13 hx13 ?_
      refine v_iload dX10_nameOut_45 rfl ?_
      obtain ⟨x14, hx14, h⟩ := ob_some h
      refine v_iald dX10_nameOut_47 hx14 ?_
      refine v_istore (ls1 := [(4, .int x14), (0, .ref v0), (1, .int v1), (3, .int v3), (5, .int v5)]) dX10_nameOut_48 (by decide) rfl ?_
      refine v_iinc (v := (v5 + 1)) (ls1 := [(5, .int (v5 + 1)), (4, .int x14), (0, .ref v0), (1, .int v1), (3, .int v3)]) dX10_nameOut_50 rfl rfl (by decide) rfl ?_
      refine v_goto (tgt := 35) dX10_nameOut_53 (by decide) ?_
      exact v_sub (vs_c rfl (vs_c rfl (vs_c rfl (vs_c rfl (vs_c rfl vs_n))))) (ih v0 v1 v3 x14 (v5 + 1) f h)

set_option maxRecDepth 20000 in
theorem tX10_nameOut_25 {l : Launch} {g : GT} {sz : Option Nat} (N : Nat)  {r : (Unit × HF)} : ∀ (n : Nat), ∀ (v0 : Nat) (v1 : Int32) (v3 : Int32) (f : HF), DX10_nameOut_25 N n v0 v1 v3 f = some r → V l g (fun _ => True) (RX10, cX10_nameOut, 6, (Option.none : Option Jvm.ClassFile.FieldType), [], "nameOut") 2 (roU (.inl r.1) r.2 sz) 25 [(0, .ref v0), (1, .int v1), (3, .int v3)] [] f sz 0 0 := by
  intro n
  induction n with
  | zero => intro v0 v1 v3 f h; cases h
  | succ n ih =>
    intro v0 v1 v3 f h
    rw [DX10_nameOut_25] at h
    refine v_iload_n dX10_nameOut_25 rfl rfl ?_
    refine v_if_lt (tgt := 89) dX10_nameOut_26 (by decide) (fun c16 => ?_) (fun c16 => ?_)
    · replace h := ip_ c16 h
      obtain rfl := Option.some.inj h
      exact v_vret dX10_nameOut_89 rfl rfl
    · replace h := in_ c16 h
      refine v_iload_n dX10_nameOut_29 rfl rfl ?_
      refine v_istore (ls1 := [(4, .int v1), (0, .ref v0), (1, .int v1), (3, .int v3)]) dX10_nameOut_30 (by decide) rfl ?_
      refine v_iconst (v := 0) dX10_nameOut_32 (by decide) ?_
      refine v_istore (ls1 := [(5, .int (0 : Int32)), (4, .int v1), (0, .ref v0), (1, .int v1), (3, .int v3)]) dX10_nameOut_33 (by decide) rfl ?_
      exact v_sub (vs_c rfl (vs_c rfl (vs_c rfl (vs_c rfl (vs_c rfl vs_n))))) (tX10_nameOut_35 N (DX10_nameOut_25 N n) ih N v0 v1 v3 v1 (0 : Int32) f h)

set_option maxRecDepth 20000 in
theorem tX10_nameOut_4 {l : Launch} {g : GT} {sz : Option Nat} (N : Nat)  {r : (Unit × HF)} : ∀ (n : Nat), ∀ (v0 : Nat) (v1 : Int32) (v2 : Int32) (v3 : Int32) (f : HF), DX10_nameOut_4 N n v0 v1 v2 v3 f = some r → V l g (fun _ => True) (RX10, cX10_nameOut, 6, (Option.none : Option Jvm.ClassFile.FieldType), [], "nameOut") 2 (roU (.inl r.1) r.2 sz) 4 [(0, .ref v0), (1, .int v1), (2, .int v2), (3, .int v3)] [] f sz 0 0 := by
  intro n
  induction n with
  | zero => intro v0 v1 v2 v3 f h; cases h
  | succ n ih =>
    intro v0 v1 v2 v3 f h
    rw [DX10_nameOut_4] at h
    refine v_iload_n dX10_nameOut_4 rfl rfl ?_
    refine v_if_lt (tgt := 21) dX10_nameOut_5 (by decide) (fun c19 => ?_) (fun c19 => ?_)
    · replace h := ip_ c19 h
      refine v_iload_n dX10_nameOut_21 rfl rfl ?_
      refine v_iconst (v := 1) dX10_nameOut_22 (by decide) ?_
      refine v_isub dX10_nameOut_23 ?_
      refine v_istore_n (ls1 := [(3, .int (v2 - (1 : Int32))), (0, .ref v0), (1, .int v1), (2, .int v2)]) dX10_nameOut_24 rfl (by decide) rfl ?_
      exact v_sub (vs_c rfl (vs_c rfl (vs_c rfl vs_n))) (tX10_nameOut_25 N N v0 v1 (v2 - (1 : Int32)) f h)
    · replace h := in_ c19 h
      refine v_iinc (v := (v2 + 1)) (ls1 := [(2, .int (v2 + 1)), (0, .ref v0), (1, .int v1), (3, .int v3)]) dX10_nameOut_8 rfl rfl (by decide) rfl ?_
      refine v_aload_n dX10_nameOut_11 rfl rfl ?_
      obtain ⟨x17, hx17, h⟩ := ob_some h
      refine v_getR dX10_nameOut_12 fl_X10_13 hx17 ?_
      refine v_iload_n dX10_nameOut_15 rfl rfl ?_
      obtain ⟨x18, hx18, h⟩ := ob_some h
      refine v_iald dX10_nameOut_16 hx18 ?_
      refine v_istore_n (ls1 := [(3, .int x18), (2, .int (v2 + 1)), (0, .ref v0), (1, .int v1)]) dX10_nameOut_17 rfl (by decide) rfl ?_
      refine v_goto (tgt := 4) dX10_nameOut_18 (by decide) ?_
      exact v_sub (vs_c rfl (vs_c rfl (vs_c rfl (vs_c rfl vs_n)))) (ih v0 v1 (v2 + 1) x18 f h)

set_option maxRecDepth 20000 in
theorem kX10_nameOut (N : Nat) (this : Nat) (p0 : Int32) (f : HF) {r : (Unit × HF)} (h : DX10_nameOut N this p0 f = some r) : ck f this 9 = some () := by
  unfold DX10_nameOut at h
  obtain ⟨_, hck, _⟩ := ob_some h
  exact hck

set_option maxRecDepth 20000 in
theorem tX10_nameOut {l : Launch} {g : GT} {sz : Option Nat} (N : Nat) (this : Nat) (p0 : Int32) (f : HF) {r : (Unit × HF)} (h : DX10_nameOut N this p0 f = some r) : Mt l g yX10_nameOut cX10_nameOut 6 (Option.none : Option Jvm.ClassFile.FieldType) 2 [.ref this, .int p0] f sz (roU (.inl r.1) r.2 sz) := by
  unfold DX10_nameOut at h
  obtain ⟨_, hck, h⟩ := ob_some h
  refine mt_of (by decide) (Nat.le_of_ble_eq_true rfl) (?_ : V l g (fun _ => True) (RX10, cX10_nameOut, 6, (Option.none : Option Jvm.ClassFile.FieldType), [], "nameOut") 2 (roU (.inl r.1) r.2 sz) 0 [(0, .ref this), (1, .int p0)] [] f sz 0 0)
  refine v_iconst (v := 0) dX10_nameOut_0 (by decide) ?_
  refine v_istore_n (ls1 := [(2, .int (0 : Int32)), (0, .ref this), (1, .int p0)]) dX10_nameOut_1 rfl (by decide) rfl ?_
  refine v_iload_n dX10_nameOut_2 rfl rfl ?_
  refine v_istore_n (ls1 := [(3, .int p0), (2, .int (0 : Int32)), (0, .ref this), (1, .int p0)]) dX10_nameOut_3 rfl (by decide) rfl ?_
  exact v_sub (vs_c rfl (vs_c rfl (vs_c rfl (vs_c rfl vs_n)))) (tX10_nameOut_4 N N this p0 (0 : Int32) p0 f h)

/-! X10 write (W) -/
def DX10_write_59 (N : Nat) (k12 : Nat → Int32 → HF → Option (Int32 × HF)) (v0 : Nat) (v1 : Int32) (f : HF) : Option (Int32 × HF) :=
    k12 v0 (v1 + 1) f

def DX10_write_12 (N : Nat)  (n : Nat) (v0 : Nat) (v1 : Int32) (f : HF) : Option (Int32 × HF) :=
  match n with
  | 0 => none
  | n + 1 =>
    (gI f v0 9 1).bind fun x3 =>
    if x3 ≤ v1 then
      (gI f v0 9 35).bind fun x4 =>
      some (x4, f)
    else
      (DX10_isMaster N v0 v1 f).bind fun x5 =>
      if x5 = 0 then
        DX10_write_59 N (DX10_write_12 N n) v0 v1 f
      else
        (pV f v0 9 28 (.int (0 : Int32))).bind fun f7 =>
        bW (DX10_nameOut N v0 v1 f7) fun x8 f10 =>
        bW (DX10_put N v0 (61 : Int32) f10) fun x11 f13 =>
        bW (DX10_putValue N v0 v1 f13) fun x14 f16 =>
        bW (DX10_put N v0 (10 : Int32) f16) fun x17 f19 =>
        bW (DX10_out N v0 f19) fun x20 f22 =>
        DX10_write_59 N (DX10_write_12 N n) v0 v1 f22

def DX10_write (N : Nat) (this : Nat) (f : HF) : Option (Int32 × HF) :=
  (ck f this 9).bind fun _ =>
  (pV f this 9 0 (.int (0 : Int32))).bind fun f1 =>
  (pV f1 this 9 35 (.int (0 : Int32))).bind fun f2 =>
  DX10_write_12 N N this (0 : Int32) f2

set_option maxRecDepth 20000 in
theorem tX10_write_59 {l : Launch} {g : GT} {sz : Option Nat} (N : Nat) (k12 : Nat → Int32 → HF → Option (Int32 × HF)) {r : (Int32 × HF)} (hk12 : ∀ (w0 : Nat) (w1 : Int32) (f : HF), k12 w0 w1 f = some r → V l g (fun _ => True) (RX10, cX10_write, 2, (Option.some Jvm.ClassFile.FieldType.int), [], "write") 3 (roI (.inl r.1) r.2 sz) 12 [(0, .ref w0), (1, .int w1)] [] f sz 0 0) : ∀ (v0 : Nat) (v1 : Int32) (f : HF), DX10_write_59 N k12 v0 v1 f = some r → V l g (fun _ => True) (RX10, cX10_write, 2, (Option.some Jvm.ClassFile.FieldType.int), [], "write") 3 (roI (.inl r.1) r.2 sz) 59 [(0, .ref v0), (1, .int v1)] [] f sz 0 0 := by
  intro v0 v1 f h
  unfold DX10_write_59 at h
  refine v_iinc (v := (v1 + 1)) (ls1 := [(1, .int (v1 + 1)), (0, .ref v0)]) dX10_write_59 rfl rfl (by decide) rfl ?_
  refine v_goto (tgt := 12) dX10_write_62 (by decide) ?_
  exact v_sub (vs_c rfl (vs_c rfl vs_n)) (hk12 v0 (v1 + 1) f h)

set_option maxRecDepth 20000 in
theorem tX10_write_12 {l : Launch} {g : GT} {sz : Option Nat} (N : Nat)  {r : (Int32 × HF)} : ∀ (n : Nat), ∀ (v0 : Nat) (v1 : Int32) (f : HF), DX10_write_12 N n v0 v1 f = some r → V l g (fun _ => True) (RX10, cX10_write, 2, (Option.some Jvm.ClassFile.FieldType.int), [], "write") 3 (roI (.inl r.1) r.2 sz) 12 [(0, .ref v0), (1, .int v1)] [] f sz 0 0 := by
  intro n
  induction n with
  | zero => intro v0 v1 f h; cases h
  | succ n ih =>
    intro v0 v1 f h
    rw [DX10_write_12] at h
    refine v_iload_n dX10_write_12 rfl rfl ?_
    refine v_aload_n dX10_write_13 rfl rfl ?_
    obtain ⟨x3, hx3, h⟩ := ob_some h
    refine v_getI dX10_write_14 fl_X10_106 hx3 ?_
    refine v_icmp_ge (tgt := 65) dX10_write_17 (by decide) (fun c24 => ?_) (fun c24 => ?_)
    · replace h := ip_ c24 h
      refine v_aload_n dX10_write_65 rfl rfl ?_
      obtain ⟨x4, hx4, h⟩ := ob_some h
      refine v_getI dX10_write_66 fl_X10_284 hx4 ?_
      obtain rfl := Option.some.inj h
      exact v_iret dX10_write_69 rfl rfl
    · replace h := in_ c24 h
      refine v_aload_n dX10_write_20 rfl rfl ?_
      refine v_iload_n dX10_write_21 rfl rfl ?_
      obtain ⟨x5, hx6, h⟩ := ob_some h
      have ehx6 := tX10_isMaster (l := l) (g := g) (sz := sz) N v0 v1 f hx6
      refine v_cVI dX10_write_22 ml_X10_287 ok_X10_isMaster ehx6 (kX10_isMaster N v0 v1 f hx6) rfl (by decide) rfl (rest := []) rfl (Nat.le_of_ble_eq_true rfl) ?_
      refine v_if_eq (tgt := 59) dX10_write_25 (by decide) (fun c23 => ?_) (fun c23 => ?_)
      · replace h := ip_ c23 h
        exact v_sub (vs_c rfl (vs_c rfl vs_n)) (tX10_write_59 N (DX10_write_12 N n) ih v0 v1 f h)
      · replace h := in_ c23 h
        refine v_aload_n dX10_write_28 rfl rfl ?_
        refine v_iconst (v := 0) dX10_write_29 (by decide) ?_
        obtain ⟨f7, hf7, h⟩ := ob_some h
        refine v_pI dX10_write_30 fp_X10_180 hf7 ?_
        refine v_aload_n dX10_write_33 rfl rfl ?_
        refine v_iload_n dX10_write_34 rfl rfl ?_
        obtain ⟨x8, f10, hx9, h⟩ := bW_some h
        have ehx9 := tX10_nameOut (l := l) (g := g) (sz := sz) N v0 v1 f7 hx9
        refine v_cVU dX10_write_35 ml_X10_290 ok_X10_nameOut ehx9 (kX10_nameOut N v0 v1 f7 hx9) rfl (by decide) rfl (rest := []) rfl (Nat.le_of_ble_eq_true rfl) ?_
        refine v_aload_n dX10_write_38 rfl rfl ?_
        refine v_bipush (v := 61) dX10_write_39 (by decide) ?_
        obtain ⟨x11, f13, hx12, h⟩ := bW_some h
        have ehx12 := tX10_put (l := l) (g := g) (sz := sz) N v0 (61 : Int32) f10 hx12
        refine v_cVU dX10_write_41 ml_X10_183 ok_X10_put ehx12 (kX10_put N v0 (61 : Int32) f10 hx12) rfl (by decide) rfl (rest := []) rfl (Nat.le_of_ble_eq_true rfl) ?_
        refine v_aload_n dX10_write_44 rfl rfl ?_
        refine v_iload_n dX10_write_45 rfl rfl ?_
        obtain ⟨x14, f16, hx15, h⟩ := bW_some h
        have ehx15 := tX10_putValue (l := l) (g := g) (sz := sz) N v0 v1 f13 hx15
        refine v_cVU dX10_write_46 ml_X10_293 ok_X10_putValue ehx15 (kX10_putValue N v0 v1 f13 hx15) rfl (by decide) rfl (rest := []) rfl (Nat.le_of_ble_eq_true rfl) ?_
        refine v_aload_n dX10_write_49 rfl rfl ?_
        refine v_bipush (v := 10) dX10_write_50 (by decide) ?_
        obtain ⟨x17, f19, hx18, h⟩ := bW_some h
        have ehx18 := tX10_put (l := l) (g := g) (sz := sz) N v0 (10 : Int32) f16 hx18
        refine v_cVU dX10_write_52 ml_X10_183 ok_X10_put ehx18 (kX10_put N v0 (10 : Int32) f16 hx18) rfl (by decide) rfl (rest := []) rfl (Nat.le_of_ble_eq_true rfl) ?_
        refine v_aload_n dX10_write_55 rfl rfl ?_
        obtain ⟨x20, f22, hx21, h⟩ := bW_some h
        have ehx21 := tX10_out (l := l) (g := g) (sz := sz) N v0 f19 hx21
        refine v_cVU dX10_write_56 ml_X10_296 ok_X10_out ehx21 (kX10_out N v0 f19 hx21) rfl (by decide) rfl (rest := []) rfl (Nat.le_of_ble_eq_true rfl) ?_
        exact v_sub (vs_c rfl (vs_c rfl vs_n)) (tX10_write_59 N (DX10_write_12 N n) ih v0 v1 f22 h)

set_option maxRecDepth 20000 in
theorem kX10_write (N : Nat) (this : Nat) (f : HF) {r : (Int32 × HF)} (h : DX10_write N this f = some r) : ck f this 9 = some () := by
  unfold DX10_write at h
  obtain ⟨_, hck, _⟩ := ob_some h
  exact hck

set_option maxRecDepth 20000 in
theorem tX10_write {l : Launch} {g : GT} {sz : Option Nat} (N : Nat) (this : Nat) (f : HF) {r : (Int32 × HF)} (h : DX10_write N this f = some r) : Mt l g yX10_write cX10_write 2 (Option.some Jvm.ClassFile.FieldType.int) 3 [.ref this] f sz (roI (.inl r.1) r.2 sz) := by
  unfold DX10_write at h
  obtain ⟨_, hck, h⟩ := ob_some h
  refine mt_of (by decide) (Nat.le_of_ble_eq_true rfl) (?_ : V l g (fun _ => True) (RX10, cX10_write, 2, (Option.some Jvm.ClassFile.FieldType.int), [], "write") 3 (roI (.inl r.1) r.2 sz) 0 [(0, .ref this)] [] f sz 0 0)
  refine v_aload_n dX10_write_0 rfl rfl ?_
  refine v_iconst (v := 0) dX10_write_1 (by decide) ?_
  obtain ⟨f1, hf1, h⟩ := ob_some h
  refine v_pI dX10_write_2 fp_X10_102 hf1 ?_
  refine v_aload_n dX10_write_5 rfl rfl ?_
  refine v_iconst (v := 0) dX10_write_6 (by decide) ?_
  obtain ⟨f2, hf2, h⟩ := ob_some h
  refine v_pI dX10_write_7 fp_X10_284 hf2 ?_
  refine v_iconst (v := 0) dX10_write_10 (by decide) ?_
  refine v_istore_n (ls1 := [(1, .int (0 : Int32)), (0, .ref this)]) dX10_write_11 rfl (by decide) rfl ?_
  exact v_sub (vs_c rfl (vs_c rfl vs_n)) (tX10_write_12 N N this (0 : Int32) f2 h)

/-! X10 at (W) -/
def DX10_at_22 (N : Nat)  (v0 : Nat) (v1 : Int32) (s0 : Nat) (s1 : Int32) (f : HF) : Option (Int32 × HF) :=
    (pV f s0 9 0 (.int s1)).bind fun f4 =>
    (gI f4 v0 9 0).bind fun x5 =>
    if x5 ≤ 0 then
      (gR f4 v0 9 34).bind fun x6 =>
      (aI f4 x6 0 v1).bind fun x7 =>
      some (x7, f4)
    else
      some ((0 : Int32), f4)

def DX10_at (N : Nat) (this : Nat) (p0 : Int32) (f : HF) : Option (Int32 × HF) :=
  (ck f this 9).bind fun _ =>
  (gI f this 9 35).bind fun x1 =>
  (DX10_isIn N (p0.toInt64) (0 : Int64) ((x1.toInt64) - (1 : Int64)) f).bind fun x2 =>
  if x2 = 0 then
    DX10_at_22 N this p0 this (1 : Int32) f
  else
    DX10_at_22 N this p0 this (0 : Int32) f

set_option maxRecDepth 20000 in
theorem tX10_at_22 {l : Launch} {g : GT} {sz : Option Nat} (N : Nat)  {r : (Int32 × HF)} : ∀ (v0 : Nat) (v1 : Int32) (s0 : Nat) (s1 : Int32) (f : HF), DX10_at_22 N v0 v1 s0 s1 f = some r → V l g (fun _ => True) (RX10, cX10_at, 2, (Option.some Jvm.ClassFile.FieldType.int), [], "at") 1 (roI (.inl r.1) r.2 sz) 22 [(0, .ref v0), (1, .int v1)] [.int s1, .ref s0] f sz 0 0 := by
  intro v0 v1 s0 s1 f h
  unfold DX10_at_22 at h
  obtain ⟨f4, hf4, h⟩ := ob_some h
  refine v_pI dX10_at_22 fp_X10_102 hf4 ?_
  refine v_aload_n dX10_at_25 rfl rfl ?_
  obtain ⟨x5, hx5, h⟩ := ob_some h
  refine v_getI dX10_at_26 fl_X10_102 hx5 ?_
  refine v_if_le (tgt := 36) dX10_at_29 (by decide) (fun c8 => ?_) (fun c8 => ?_)
  · replace h := ip_ c8 h
    refine v_aload_n dX10_at_36 rfl rfl ?_
    obtain ⟨x6, hx6, h⟩ := ob_some h
    refine v_getR dX10_at_37 fl_X10_96 hx6 ?_
    refine v_iload_n dX10_at_40 rfl rfl ?_
    obtain ⟨x7, hx7, h⟩ := ob_some h
    refine v_iald dX10_at_41 hx7 ?_
    obtain rfl := Option.some.inj h
    exact v_iret dX10_at_42 rfl rfl
  · replace h := in_ c8 h
    refine v_iconst (v := 0) dX10_at_32 (by decide) ?_
    refine v_goto (tgt := 42) dX10_at_33 (by decide) ?_
    obtain rfl := Option.some.inj h
    exact v_iret dX10_at_42 rfl rfl

set_option maxRecDepth 20000 in
theorem kX10_at (N : Nat) (this : Nat) (p0 : Int32) (f : HF) {r : (Int32 × HF)} (h : DX10_at N this p0 f = some r) : ck f this 9 = some () := by
  unfold DX10_at at h
  obtain ⟨_, hck, _⟩ := ob_some h
  exact hck

set_option maxRecDepth 20000 in
theorem tX10_at {l : Launch} {g : GT} {sz : Option Nat} (N : Nat) (this : Nat) (p0 : Int32) (f : HF) {r : (Int32 × HF)} (h : DX10_at N this p0 f = some r) : Mt l g yX10_at cX10_at 2 (Option.some Jvm.ClassFile.FieldType.int) 1 [.ref this, .int p0] f sz (roI (.inl r.1) r.2 sz) := by
  unfold DX10_at at h
  obtain ⟨_, hck, h⟩ := ob_some h
  refine mt_of (by decide) (Nat.le_of_ble_eq_true rfl) (?_ : V l g (fun _ => True) (RX10, cX10_at, 2, (Option.some Jvm.ClassFile.FieldType.int), [], "at") 1 (roI (.inl r.1) r.2 sz) 0 [(0, .ref this), (1, .int p0)] [] f sz 0 0)
  refine v_aload_n dX10_at_0 rfl rfl ?_
  refine v_iload_n dX10_at_1 rfl rfl ?_
  refine v_i2l dX10_at_2 ?_
  refine v_lconst (v := 0) dX10_at_3 (by decide) ?_
  refine v_aload_n dX10_at_4 rfl rfl ?_
  obtain ⟨x1, hx1, h⟩ := ob_some h
  refine v_getI dX10_at_5 fl_X10_284 hx1 ?_
  refine v_i2l dX10_at_8 ?_
  refine v_lconst (v := 1) dX10_at_9 (by decide) ?_
  refine v_lsub dX10_at_10 ?_
  obtain ⟨x2, hx3, h⟩ := ob_some h
  have ehx3 := tX10_isIn (l := l) (g := g) (sz := sz) N (p0.toInt64) (0 : Int64) ((x1.toInt64) - (1 : Int64)) f hx3
  refine v_cSI dX10_at_11 ml_X10_115 ok_X10_isIn ehx3 (by decide) rfl (rest := [.ref this]) rfl (Nat.le_of_ble_eq_true rfl) ?_
  refine v_if_eq (tgt := 21) dX10_at_14 (by decide) (fun c9 => ?_) (fun c9 => ?_)
  · replace h := ip_ c9 h
    refine v_iconst (v := 1) dX10_at_21 (by decide) ?_
    exact v_sub (vs_c rfl (vs_c rfl vs_n)) (tX10_at_22 N this p0 this (1 : Int32) f h)
  · replace h := in_ c9 h
    refine v_iconst (v := 0) dX10_at_17 (by decide) ?_
    refine v_goto (tgt := 22) dX10_at_18 (by decide) ?_
    exact v_sub (vs_c rfl (vs_c rfl vs_n)) (tX10_at_22 N this p0 this (0 : Int32) f h)

/-! X10 behindName (W) -/
def DX10_behindName_103 (N : Nat) (k33 : Nat → Int32 → Int32 → Int32 → HF → Option (Int32 × HF)) (n : Nat) (v0 : Nat) (v2 : Int32) (v4 : Int32) (v5 : Int32) (v7 : Int32) (f : HF) : Option (Int32 × HF) :=
  match n with
  | 0 => none
  | n + 1 =>
    (gI f v0 9 28).bind fun x10 =>
    if x10 ≤ v7 then
      k33 v0 v2 v4 (v5 + (-1)) f
    else
      (gI f v0 9 37).bind fun x11 =>
      if x11 ≤ v4 then
        some ((-1 : Int32), f)
      else
        (gR f v0 9 36).bind fun x12 =>
        (aI f x12 0 v4).bind fun x13 =>
        (gR f v0 9 27).bind fun x14 =>
        (aI f x14 0 v7).bind fun x15 =>
        if x13 = x15 then
          DX10_behindName_103 N k33 n v0 v2 (v4 + 1) v5 (v7 + 1) f
        else
          some ((-1 : Int32), f)

def DX10_behindName_97 (N : Nat) (k33 : Nat → Int32 → Int32 → Int32 → HF → Option (Int32 × HF)) (v0 : Nat) (v2 : Int32) (v4 : Int32) (v5 : Int32) (s0 : Nat) (s1 : Int32) (f : HF) : Option (Int32 × HF) :=
    bW (DX10_put N s0 s1 f) fun x7 f9 =>
    DX10_behindName_103 N k33 N v0 v2 v4 v5 (0 : Int32) f9

def DX10_behindName_44 (N : Nat) (k33 : Nat → Int32 → Int32 → Int32 → HF → Option (Int32 × HF)) (n : Nat) (v0 : Nat) (v2 : Int32) (v4 : Int32) (v5 : Int32) (v6 : Int32) (v7 : Int32) (f : HF) : Option (Int32 × HF) :=
  match n with
  | 0 => none
  | n + 1 =>
    if v5 ≤ v7 then
      (pV f v0 9 28 (.int (0 : Int32))).bind fun f1 =>
      (gR f1 v0 9 4).bind fun x2 =>
      (aI f1 x2 0 v6).bind fun x3 =>
      bW (DX10_putNumber N v0 (x3.toInt64) (0 : Int32) f1) fun x4 f6 =>
      if v5 ≤ 0 then
        DX10_behindName_97 N k33 v0 v2 v4 v5 v0 (61 : Int32) f6
      else
        DX10_behindName_97 N k33 v0 v2 v4 v5 v0 (46 : Int32) f6
    else
      (gR f v0 9 3).bind fun x20 =>
      (aI f x20 0 v6).bind fun x21 =>
      DX10_behindName_44 N k33 n v0 v2 v4 v5 x21 (v7 + 1) f

def DX10_behindName_33 (N : Nat)  (n : Nat) (v0 : Nat) (v2 : Int32) (v4 : Int32) (v5 : Int32) (f : HF) : Option (Int32 × HF) :=
  match n with
  | 0 => none
  | n + 1 =>
    if v5 < 0 then
      some (v4, f)
    else
      DX10_behindName_44 N (DX10_behindName_33 N n) N v0 v2 v4 v5 v2 (0 : Int32) f

def DX10_behindName_5 (N : Nat)  (n : Nat) (v0 : Nat) (v1 : Int32) (v2 : Int32) (v3 : Int32) (v4 : Int32) (f : HF) : Option (Int32 × HF) :=
  match n with
  | 0 => none
  | n + 1 =>
    if v4 < 0 then
      DX10_behindName_33 N N v0 v2 v1 (v3 - (1 : Int32)) f
    else
      (gR f v0 9 3).bind fun x24 =>
      (aI f x24 0 v4).bind fun x25 =>
      DX10_behindName_5 N n v0 v1 v2 (v3 + 1) x25 f

def DX10_behindName (N : Nat) (this : Nat) (p0 : Int32) (p1 : Int32) (f : HF) : Option (Int32 × HF) :=
  (ck f this 9).bind fun _ =>
  DX10_behindName_5 N N this p0 p1 (0 : Int32) p1 f

set_option maxRecDepth 20000 in
theorem tX10_behindName_103 {l : Launch} {g : GT} {sz : Option Nat} (N : Nat) (k33 : Nat → Int32 → Int32 → Int32 → HF → Option (Int32 × HF)) {r : (Int32 × HF)} (hk33 : ∀ (w0 : Nat) (w2 : Int32) (w4 : Int32) (w5 : Int32) (f : HF), k33 w0 w2 w4 w5 f = some r → V l g (fun _ => True) (RX10, cX10_behindName, 8, (Option.some Jvm.ClassFile.FieldType.int), [], "behindName") 2 (roI (.inl r.1) r.2 sz) 33 [(0, .ref w0), (2, .int w2), (4, .int w4), (5, .int w5)] [] f sz 0 0) : ∀ (n : Nat), ∀ (v0 : Nat) (v2 : Int32) (v4 : Int32) (v5 : Int32) (v7 : Int32) (f : HF), DX10_behindName_103 N k33 n v0 v2 v4 v5 v7 f = some r → V l g (fun _ => True) (RX10, cX10_behindName, 8, (Option.some Jvm.ClassFile.FieldType.int), [], "behindName") 2 (roI (.inl r.1) r.2 sz) 103 [(0, .ref v0), (2, .int v2), (4, .int v4), (5, .int v5), (7, .int v7)] [] f sz 0 0 := by
  intro n
  induction n with
  | zero => intro v0 v2 v4 v5 v7 f h; cases h
  | succ n ih =>
    intro v0 v2 v4 v5 v7 f h
    rw [DX10_behindName_103] at h
    refine v_iload dX10_behindName_103 rfl ?_
    refine v_aload_n dX10_behindName_105 rfl rfl ?_
    obtain ⟨x10, hx10, h⟩ := ob_some h
    refine v_getI dX10_behindName_106 fl_X10_180 hx10 ?_
    refine v_icmp_ge (tgt := 149) dX10_behindName_109 (by decide) (fun c18 => ?_) (fun c18 => ?_)
    · replace h := ip_ c18 h
      refine v_iinc (v := (v5 + (-1))) (ls1 := [(5, .int (v5 + (-1))), (0, .ref v0), (2, .int v2), (4, .int v4), (7, .int v7)]) dX10_behindName_149 rfl rfl (by decide) rfl ?_
      refine v_goto (tgt := 33) dX10_behindName_152 (by decide) ?_
      exact v_sub (vs_c rfl (vs_c rfl (vs_c rfl (vs_c rfl vs_n)))) (hk33 v0 v2 v4 (v5 + (-1)) f h)
    · replace h := in_ c18 h
      refine v_iload dX10_behindName_112 rfl ?_
      refine v_aload_n dX10_behindName_114 rfl rfl ?_
      obtain ⟨x11, hx11, h⟩ := ob_some h
      refine v_getI dX10_behindName_115 fl_X10_299 hx11 ?_
      refine v_icmp_ge (tgt := 138) dX10_behindName_118 (by decide) (fun c17 => ?_) (fun c17 => ?_)
      · replace h := ip_ c17 h
        refine v_iconst (v := -1) dX10_behindName_138 (by decide) ?_
        obtain rfl := Option.some.inj h
        exact v_iret dX10_behindName_139 rfl rfl
      · replace h := in_ c17 h
        refine v_aload_n dX10_behindName_121 rfl rfl ?_
        obtain ⟨x12, hx12, h⟩ := ob_some h
        refine v_getR dX10_behindName_122 fl_X10_99 hx12 ?_
        refine v_iload dX10_behindName_125 rfl ?_
        obtain ⟨x13, hx13, h⟩ := ob_some h
        refine v_iald dX10_behindName_127 hx13 ?_
        refine v_aload_n dX10_behindName_128 rfl rfl ?_
        obtain ⟨x14, hx14, h⟩ := ob_some h
        refine v_getR dX10_behindName_129 fl_X10_84 hx14 ?_
        refine v_iload dX10_behindName_132 rfl ?_
        obtain ⟨x15, hx15, h⟩ := ob_some h
        refine v_iald dX10_behindName_134 hx15 ?_
        refine v_icmp_eq (tgt := 140) dX10_behindName_135 (by decide) (fun c16 => ?_) (fun c16 => ?_)
        · replace h := ip_ c16 h
          refine v_iinc (v := (v4 + 1)) (ls1 := [(4, .int (v4 + 1)), (0, .ref v0), (2, .int v2), (5, .int v5), (7, .int v7)]) dX10_behindName_140 rfl rfl (by decide) rfl ?_
          refine v_iinc (v := (v7 + 1)) (ls1 := [(7, .int (v7 + 1)), (4, .int (v4 + 1)), (0, .ref v0), (2, .int v2), (5, .int v5)]) dX10_behindName_143 rfl rfl (by decide) rfl ?_
          refine v_goto (tgt := 103) dX10_behindName_146 (by decide) ?_
          exact v_sub (vs_c rfl (vs_c rfl (vs_c rfl (vs_c rfl (vs_c rfl vs_n))))) (ih v0 v2 (v4 + 1) v5 (v7 + 1) f h)
        · replace h := in_ c16 h
          refine v_iconst (v := -1) dX10_behindName_138 (by decide) ?_
          obtain rfl := Option.some.inj h
          exact v_iret dX10_behindName_139 rfl rfl

set_option maxRecDepth 20000 in
theorem tX10_behindName_97 {l : Launch} {g : GT} {sz : Option Nat} (N : Nat) (k33 : Nat → Int32 → Int32 → Int32 → HF → Option (Int32 × HF)) {r : (Int32 × HF)} (hk33 : ∀ (w0 : Nat) (w2 : Int32) (w4 : Int32) (w5 : Int32) (f : HF), k33 w0 w2 w4 w5 f = some r → V l g (fun _ => True) (RX10, cX10_behindName, 8, (Option.some Jvm.ClassFile.FieldType.int), [], "behindName") 2 (roI (.inl r.1) r.2 sz) 33 [(0, .ref w0), (2, .int w2), (4, .int w4), (5, .int w5)] [] f sz 0 0) : ∀ (v0 : Nat) (v2 : Int32) (v4 : Int32) (v5 : Int32) (s0 : Nat) (s1 : Int32) (f : HF), DX10_behindName_97 N k33 v0 v2 v4 v5 s0 s1 f = some r → V l g (fun _ => True) (RX10, cX10_behindName, 8, (Option.some Jvm.ClassFile.FieldType.int), [], "behindName") 2 (roI (.inl r.1) r.2 sz) 97 [(0, .ref v0), (2, .int v2), (4, .int v4), (5, .int v5)] [.int s1, .ref s0] f sz 0 0 := by
  intro v0 v2 v4 v5 s0 s1 f h
  unfold DX10_behindName_97 at h
  obtain ⟨x7, f9, hx8, h⟩ := bW_some h
  have ehx8 := tX10_put (l := l) (g := g) (sz := sz) N s0 s1 f hx8
  refine v_cVU dX10_behindName_97 ml_X10_183 ok_X10_put ehx8 (kX10_put N s0 s1 f hx8) rfl (by decide) rfl (rest := []) rfl (Nat.le_of_ble_eq_true rfl) ?_
  refine v_iconst (v := 0) dX10_behindName_100 (by decide) ?_
  refine v_istore (ls1 := [(7, .int (0 : Int32)), (0, .ref v0), (2, .int v2), (4, .int v4), (5, .int v5)]) dX10_behindName_101 (by decide) rfl ?_
  exact v_sub (vs_c rfl (vs_c rfl (vs_c rfl (vs_c rfl (vs_c rfl vs_n))))) (tX10_behindName_103 N k33 hk33 N v0 v2 v4 v5 (0 : Int32) f9 h)

set_option maxRecDepth 20000 in
theorem tX10_behindName_44 {l : Launch} {g : GT} {sz : Option Nat} (N : Nat) (k33 : Nat → Int32 → Int32 → Int32 → HF → Option (Int32 × HF)) {r : (Int32 × HF)} (hk33 : ∀ (w0 : Nat) (w2 : Int32) (w4 : Int32) (w5 : Int32) (f : HF), k33 w0 w2 w4 w5 f = some r → V l g (fun _ => True) (RX10, cX10_behindName, 8, (Option.some Jvm.ClassFile.FieldType.int), [], "behindName") 2 (roI (.inl r.1) r.2 sz) 33 [(0, .ref w0), (2, .int w2), (4, .int w4), (5, .int w5)] [] f sz 0 0) : ∀ (n : Nat), ∀ (v0 : Nat) (v2 : Int32) (v4 : Int32) (v5 : Int32) (v6 : Int32) (v7 : Int32) (f : HF), DX10_behindName_44 N k33 n v0 v2 v4 v5 v6 v7 f = some r → V l g (fun _ => True) (RX10, cX10_behindName, 8, (Option.some Jvm.ClassFile.FieldType.int), [], "behindName") 2 (roI (.inl r.1) r.2 sz) 44 [(0, .ref v0), (2, .int v2), (4, .int v4), (5, .int v5), (6, .int v6), (7, .int v7)] [] f sz 0 0 := by
  intro n
  induction n with
  | zero => intro v0 v2 v4 v5 v6 v7 f h; cases h
  | succ n ih =>
    intro v0 v2 v4 v5 v6 v7 f h
    rw [DX10_behindName_44] at h
    refine v_iload dX10_behindName_44 rfl ?_
    refine v_iload dX10_behindName_46 rfl ?_
    refine v_icmp_ge (tgt := 66) dX10_behindName_48 (by decide) (fun c22 => ?_) (fun c22 => ?_)
    · replace h := ip_ c22 h
      refine v_aload_n dX10_behindName_66 rfl rfl ?_
      refine v_iconst (v := 0) dX10_behindName_67 (by decide) ?_
      obtain ⟨f1, hf1, h⟩ := ob_some h
      refine v_pI dX10_behindName_68 fp_X10_180 hf1 ?_
      refine v_aload_n dX10_behindName_71 rfl rfl ?_
      refine v_aload_n dX10_behindName_72 rfl rfl ?_
      obtain ⟨x2, hx2, h⟩ := ob_some h
      refine v_getR dX10_behindName_73 fl_X10_16 hx2 ?_
      refine v_iload dX10_behindName_76 rfl ?_
      obtain ⟨x3, hx3, h⟩ := ob_some h
      refine v_iald dX10_behindName_78 hx3 ?_
      refine v_i2l dX10_behindName_79 ?_
      refine v_iconst (v := 0) dX10_behindName_80 (by decide) ?_
      obtain ⟨x4, f6, hx5, h⟩ := bW_some h
      have ehx5 := tX10_putNumber (l := l) (g := g) (sz := sz) N v0 (x3.toInt64) (0 : Int32) f1 hx5
      refine v_cVU dX10_behindName_81 ml_X10_187 ok_X10_putNumber ehx5 (kX10_putNumber N v0 (x3.toInt64) (0 : Int32) f1 hx5) rfl (by decide) rfl (rest := []) rfl (Nat.le_of_ble_eq_true rfl) ?_
      refine v_aload_n dX10_behindName_84 rfl rfl ?_
      refine v_iload dX10_behindName_85 rfl ?_
      refine v_if_le (tgt := 95) dX10_behindName_87 (by decide) (fun c19 => ?_) (fun c19 => ?_)
      · replace h := ip_ c19 h
        refine v_bipush (v := 61) dX10_behindName_95 (by decide) ?_
        exact v_sub (vs_c rfl (vs_c rfl (vs_c rfl (vs_c rfl vs_n)))) (tX10_behindName_97 N k33 hk33 v0 v2 v4 v5 v0 (61 : Int32) f6 h)
      · replace h := in_ c19 h
        refine v_bipush (v := 46) dX10_behindName_90 (by decide) ?_
        refine v_goto (tgt := 97) dX10_behindName_92 (by decide) ?_
        exact v_sub (vs_c rfl (vs_c rfl (vs_c rfl (vs_c rfl vs_n)))) (tX10_behindName_97 N k33 hk33 v0 v2 v4 v5 v0 (46 : Int32) f6 h)
    · replace h := in_ c22 h
      refine v_aload_n dX10_behindName_51 rfl rfl ?_
      obtain ⟨x20, hx20, h⟩ := ob_some h
      refine v_getR dX10_behindName_52 fl_X10_13 hx20 ?_
      refine v_iload dX10_behindName_55 rfl ?_
      obtain ⟨x21, hx21, h⟩ := ob_some h
      refine v_iald dX10_behindName_57 hx21 ?_
      refine v_istore (ls1 := [(6, .int x21), (0, .ref v0), (2, .int v2), (4, .int v4), (5, .int v5), (7, .int v7)]) dX10_behindName_58 (by decide) rfl ?_
      refine v_iinc (v := (v7 + 1)) (ls1 := [(7, .int (v7 + 1)), (6, .int x21), (0, .ref v0), (2, .int v2), (4, .int v4), (5, .int v5)]) dX10_behindName_60 rfl rfl (by decide) rfl ?_
      refine v_goto (tgt := 44) dX10_behindName_63 (by decide) ?_
      exact v_sub (vs_c rfl (vs_c rfl (vs_c rfl (vs_c rfl (vs_c rfl (vs_c rfl vs_n)))))) (ih v0 v2 v4 v5 x21 (v7 + 1) f h)

set_option maxRecDepth 20000 in
theorem tX10_behindName_33 {l : Launch} {g : GT} {sz : Option Nat} (N : Nat)  {r : (Int32 × HF)} : ∀ (n : Nat), ∀ (v0 : Nat) (v2 : Int32) (v4 : Int32) (v5 : Int32) (f : HF), DX10_behindName_33 N n v0 v2 v4 v5 f = some r → V l g (fun _ => True) (RX10, cX10_behindName, 8, (Option.some Jvm.ClassFile.FieldType.int), [], "behindName") 2 (roI (.inl r.1) r.2 sz) 33 [(0, .ref v0), (2, .int v2), (4, .int v4), (5, .int v5)] [] f sz 0 0 := by
  intro n
  induction n with
  | zero => intro v0 v2 v4 v5 f h; cases h
  | succ n ih =>
    intro v0 v2 v4 v5 f h
    rw [DX10_behindName_33] at h
    refine v_iload dX10_behindName_33 rfl ?_
    refine v_if_lt (tgt := 155) dX10_behindName_35 (by decide) (fun c23 => ?_) (fun c23 => ?_)
    · replace h := ip_ c23 h
      refine v_iload dX10_behindName_155 rfl ?_
      obtain rfl := Option.some.inj h
      exact v_iret dX10_behindName_157 rfl rfl
    · replace h := in_ c23 h
      refine v_iload_n dX10_behindName_38 rfl rfl ?_
      refine v_istore (ls1 := [(6, .int v2), (0, .ref v0), (2, .int v2), (4, .int v4), (5, .int v5)]) dX10_behindName_39 (by decide) rfl ?_
      refine v_iconst (v := 0) dX10_behindName_41 (by decide) ?_
      refine v_istore (ls1 := [(7, .int (0 : Int32)), (6, .int v2), (0, .ref v0), (2, .int v2), (4, .int v4), (5, .int v5)]) dX10_behindName_42 (by decide) rfl ?_
      exact v_sub (vs_c rfl (vs_c rfl (vs_c rfl (vs_c rfl (vs_c rfl (vs_c rfl vs_n)))))) (tX10_behindName_44 N (DX10_behindName_33 N n) ih N v0 v2 v4 v5 v2 (0 : Int32) f h)

set_option maxRecDepth 20000 in
theorem tX10_behindName_5 {l : Launch} {g : GT} {sz : Option Nat} (N : Nat)  {r : (Int32 × HF)} : ∀ (n : Nat), ∀ (v0 : Nat) (v1 : Int32) (v2 : Int32) (v3 : Int32) (v4 : Int32) (f : HF), DX10_behindName_5 N n v0 v1 v2 v3 v4 f = some r → V l g (fun _ => True) (RX10, cX10_behindName, 8, (Option.some Jvm.ClassFile.FieldType.int), [], "behindName") 2 (roI (.inl r.1) r.2 sz) 5 [(0, .ref v0), (1, .int v1), (2, .int v2), (3, .int v3), (4, .int v4)] [] f sz 0 0 := by
  intro n
  induction n with
  | zero => intro v0 v1 v2 v3 v4 f h; cases h
  | succ n ih =>
    intro v0 v1 v2 v3 v4 f h
    rw [DX10_behindName_5] at h
    refine v_iload dX10_behindName_5 rfl ?_
    refine v_if_lt (tgt := 25) dX10_behindName_7 (by decide) (fun c26 => ?_) (fun c26 => ?_)
    · replace h := ip_ c26 h
      refine v_iload_n dX10_behindName_25 rfl rfl ?_
      refine v_istore (ls1 := [(4, .int v1), (0, .ref v0), (1, .int v1), (2, .int v2), (3, .int v3)]) dX10_behindName_26 (by decide) rfl ?_
      refine v_iload_n dX10_behindName_28 rfl rfl ?_
      refine v_iconst (v := 1) dX10_behindName_29 (by decide) ?_
      refine v_isub dX10_behindName_30 ?_
      refine v_istore (ls1 := [(5, .int (v3 - (1 : Int32))), (4, .int v1), (0, .ref v0), (1, .int v1), (2, .int v2), (3, .int v3)]) dX10_behindName_31 (by decide) rfl ?_
      exact v_sub (vs_c rfl (vs_c rfl (vs_c rfl (vs_c rfl vs_n)))) (tX10_behindName_33 N N v0 v2 v1 (v3 - (1 : Int32)) f h)
    · replace h := in_ c26 h
      refine v_iinc (v := (v3 + 1)) (ls1 := [(3, .int (v3 + 1)), (0, .ref v0), (1, .int v1), (2, .int v2), (4, .int v4)]) dX10_behindName_10 rfl rfl (by decide) rfl ?_
      refine v_aload_n dX10_behindName_13 rfl rfl ?_
      obtain ⟨x24, hx24, h⟩ := ob_some h
      refine v_getR dX10_behindName_14 fl_X10_13 hx24 ?_
      refine v_iload dX10_behindName_17 rfl ?_
      obtain ⟨x25, hx25, h⟩ := ob_some h
      refine v_iald dX10_behindName_19 hx25 ?_
      refine v_istore (ls1 := [(4, .int x25), (3, .int (v3 + 1)), (0, .ref v0), (1, .int v1), (2, .int v2)]) dX10_behindName_20 (by decide) rfl ?_
      refine v_goto (tgt := 5) dX10_behindName_22 (by decide) ?_
      exact v_sub (vs_c rfl (vs_c rfl (vs_c rfl (vs_c rfl (vs_c rfl vs_n))))) (ih v0 v1 v2 (v3 + 1) x25 f h)

set_option maxRecDepth 20000 in
theorem kX10_behindName (N : Nat) (this : Nat) (p0 : Int32) (p1 : Int32) (f : HF) {r : (Int32 × HF)} (h : DX10_behindName N this p0 p1 f = some r) : ck f this 9 = some () := by
  unfold DX10_behindName at h
  obtain ⟨_, hck, _⟩ := ob_some h
  exact hck

set_option maxRecDepth 20000 in
theorem tX10_behindName {l : Launch} {g : GT} {sz : Option Nat} (N : Nat) (this : Nat) (p0 : Int32) (p1 : Int32) (f : HF) {r : (Int32 × HF)} (h : DX10_behindName N this p0 p1 f = some r) : Mt l g yX10_behindName cX10_behindName 8 (Option.some Jvm.ClassFile.FieldType.int) 2 [.ref this, .int p0, .int p1] f sz (roI (.inl r.1) r.2 sz) := by
  unfold DX10_behindName at h
  obtain ⟨_, hck, h⟩ := ob_some h
  refine mt_of (by decide) (Nat.le_of_ble_eq_true rfl) (?_ : V l g (fun _ => True) (RX10, cX10_behindName, 8, (Option.some Jvm.ClassFile.FieldType.int), [], "behindName") 2 (roI (.inl r.1) r.2 sz) 0 [(0, .ref this), (1, .int p0), (2, .int p1)] [] f sz 0 0)
  refine v_iconst (v := 0) dX10_behindName_0 (by decide) ?_
  refine v_istore_n (ls1 := [(3, .int (0 : Int32)), (0, .ref this), (1, .int p0), (2, .int p1)]) dX10_behindName_1 rfl (by decide) rfl ?_
  refine v_iload_n dX10_behindName_2 rfl rfl ?_
  refine v_istore (ls1 := [(4, .int p1), (3, .int (0 : Int32)), (0, .ref this), (1, .int p0), (2, .int p1)]) dX10_behindName_3 (by decide) rfl ?_
  exact v_sub (vs_c rfl (vs_c rfl (vs_c rfl (vs_c rfl (vs_c rfl vs_n))))) (tX10_behindName_5 N N this p0 p1 (0 : Int32) p1 f h)

