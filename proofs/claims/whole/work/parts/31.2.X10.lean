/-! X10 set (W) -/
def DX10_set_128 (N : Nat)  (v0 : Nat) (v1 : Int32) (v2 : Int32) (v3 : Int32) (v4 : Int32) (s0 : Int32) (f : HF) : Option (Int32 × HF) :=
    if v2 = (5 : Int32) then
      (gR f v0 9 6).bind fun x21 =>
      (sI f x21 0 v1 v3).bind fun f22 =>
      some (s0, f22)
    else
      if v2 = (6 : Int32) then
        (gR f v0 9 7).bind fun x18 =>
        (sI f x18 0 v1 v3).bind fun f19 =>
        some (s0, f19)
      else
        if v2 = (7 : Int32) then
          (gR f v0 9 8).bind fun x15 =>
          (sI f x15 0 v1 v3).bind fun f16 =>
          some (s0, f16)
        else
          (gR f v0 9 15).bind fun x13 =>
          (sI f x13 0 (((5 : Int32) * v4) + v2) v3).bind fun f14 =>
          some (s0, f14)

def DX10_set_61 (N : Nat)  (v0 : Nat) (v1 : Int32) (v2 : Int32) (v3 : Int32) (v4 : Int32) (s0 : Nat) (s1 : Int32) (f : HF) : Option (Int32 × HF) :=
    (pV f s0 9 0 (.int s1)).bind fun f9 =>
    (gI f9 v0 9 0).bind fun x10 =>
    if x10 ≤ 0 then
      if v2 = (5 : Int32) then
        (gR f9 v0 9 6).bind fun x30 =>
        (aI f9 x30 0 v1).bind fun x31 =>
        DX10_set_128 N v0 v1 v2 v3 v4 x31 f9
      else
        if v2 = (6 : Int32) then
          (gR f9 v0 9 7).bind fun x27 =>
          (aI f9 x27 0 v1).bind fun x28 =>
          DX10_set_128 N v0 v1 v2 v3 v4 x28 f9
        else
          if v2 = (7 : Int32) then
            (gR f9 v0 9 8).bind fun x24 =>
            (aI f9 x24 0 v1).bind fun x25 =>
            DX10_set_128 N v0 v1 v2 v3 v4 x25 f9
          else
            (gR f9 v0 9 15).bind fun x11 =>
            (aI f9 x11 0 (((5 : Int32) * v4) + v2)).bind fun x12 =>
            DX10_set_128 N v0 v1 v2 v3 v4 x12 f9
    else
      some ((0 : Int32), f9)

def DX10_set_56 (N : Nat)  (v0 : Nat) (v1 : Int32) (v2 : Int32) (v3 : Int32) (v4 : Int32) (s0 : Nat) (f : HF) : Option (Int32 × HF) :=
    DX10_set_61 N v0 v1 v2 v3 v4 s0 (2 : Int32) f

def DX10_set_14 (N : Nat)  (v0 : Nat) (v1 : Int32) (v2 : Int32) (v3 : Int32) (s0 : Nat) (s1 : Int32) (f : HF) : Option (Int32 × HF) :=
    (pV f s0 9 0 (.int s1)).bind fun f3 =>
    (gI f3 v0 9 0).bind fun x4 =>
    if x4 ≤ 0 then
      (gR f3 v0 9 5).bind fun x5 =>
      (aI f3 x5 0 v1).bind fun x6 =>
      (gR f3 v0 9 2).bind fun x7 =>
      (aI f3 x7 0 x6).bind fun x8 =>
      if x8 = 0 then
        DX10_set_56 N v0 v1 v2 v3 x6 v0 f3
      else
        (DX10_maySet N v0 x6 v2 v3 f3).bind fun x34 =>
        if x34 = 0 then
          DX10_set_56 N v0 v1 v2 v3 x6 v0 f3
        else
          DX10_set_61 N v0 v1 v2 v3 x6 v0 (0 : Int32) f3
    else
      some ((0 : Int32), f3)

def DX10_set (N : Nat) (this : Nat) (p0 : Int32) (p1 : Int32) (p2 : Int32) (f : HF) : Option (Int32 × HF) :=
  (ck f this 9).bind fun _ =>
  (DX10_no N this p0 f).bind fun x1 =>
  if x1 = 0 then
    DX10_set_14 N this p0 p1 p2 this (0 : Int32) f
  else
    DX10_set_14 N this p0 p1 p2 this (1 : Int32) f

set_option maxRecDepth 20000 in
theorem tX10_set_128 {l : Launch} {g : GT} {sz : Option Nat} (N : Nat)  {r : (Int32 × HF)} : ∀ (v0 : Nat) (v1 : Int32) (v2 : Int32) (v3 : Int32) (v4 : Int32) (s0 : Int32) (f : HF), DX10_set_128 N v0 v1 v2 v3 v4 s0 f = some r → V l g (fun _ => True) (RX10, cX10_set, 6, (Option.some Jvm.ClassFile.FieldType.int), [], "set") 2 (roI (.inl r.1) r.2 sz) 128 [(0, .ref v0), (1, .int v1), (2, .int v2), (3, .int v3), (4, .int v4)] [.int s0] f sz 0 0 := by
  intro v0 v1 v2 v3 v4 s0 f h
  unfold DX10_set_128 at h
  refine v_istore (ls1 := [(5, .int s0), (0, .ref v0), (1, .int v1), (2, .int v2), (3, .int v3), (4, .int v4)]) dX10_set_128 (by decide) rfl ?_
  refine v_iload_n dX10_set_130 rfl rfl ?_
  refine v_iconst (v := 5) dX10_set_131 (by decide) ?_
  refine v_icmp_ne (tgt := 145) dX10_set_132 (by decide) (fun c23 => ?_) (fun c23 => ?_)
  · replace h := in_ c23 h
    refine v_iload_n dX10_set_145 rfl rfl ?_
    refine v_bipush (v := 6) dX10_set_146 (by decide) ?_
    refine v_icmp_ne (tgt := 161) dX10_set_148 (by decide) (fun c20 => ?_) (fun c20 => ?_)
    · replace h := in_ c20 h
      refine v_iload_n dX10_set_161 rfl rfl ?_
      refine v_bipush (v := 7) dX10_set_162 (by decide) ?_
      refine v_icmp_ne (tgt := 177) dX10_set_164 (by decide) (fun c17 => ?_) (fun c17 => ?_)
      · replace h := in_ c17 h
        refine v_aload_n dX10_set_177 rfl rfl ?_
        obtain ⟨x13, hx13, h⟩ := ob_some h
        refine v_getR dX10_set_178 fl_X10_50 hx13 ?_
        refine v_iconst (v := 5) dX10_set_181 (by decide) ?_
        refine v_iload dX10_set_182 rfl ?_
        refine v_imul dX10_set_184 ?_
        refine v_iload_n dX10_set_185 rfl rfl ?_
        refine v_iadd dX10_set_186 ?_
        refine v_iload_n dX10_set_187 rfl rfl ?_
        obtain ⟨f14, hf14, h⟩ := ob_some h
        refine v_iast dX10_set_188 hf14 ?_
        refine v_iload dX10_set_189 rfl ?_
        obtain rfl := Option.some.inj h
        exact v_iret dX10_set_191 rfl rfl
      · replace h := ip_ c17 h
        refine v_aload_n dX10_set_167 rfl rfl ?_
        obtain ⟨x15, hx15, h⟩ := ob_some h
        refine v_getR dX10_set_168 fl_X10_28 hx15 ?_
        refine v_iload_n dX10_set_171 rfl rfl ?_
        refine v_iload_n dX10_set_172 rfl rfl ?_
        obtain ⟨f16, hf16, h⟩ := ob_some h
        refine v_iast dX10_set_173 hf16 ?_
        refine v_goto (tgt := 189) dX10_set_174 (by decide) ?_
        refine v_iload dX10_set_189 rfl ?_
        obtain rfl := Option.some.inj h
        exact v_iret dX10_set_191 rfl rfl
    · replace h := ip_ c20 h
      refine v_aload_n dX10_set_151 rfl rfl ?_
      obtain ⟨x18, hx18, h⟩ := ob_some h
      refine v_getR dX10_set_152 fl_X10_25 hx18 ?_
      refine v_iload_n dX10_set_155 rfl rfl ?_
      refine v_iload_n dX10_set_156 rfl rfl ?_
      obtain ⟨f19, hf19, h⟩ := ob_some h
      refine v_iast dX10_set_157 hf19 ?_
      refine v_goto (tgt := 189) dX10_set_158 (by decide) ?_
      refine v_iload dX10_set_189 rfl ?_
      obtain rfl := Option.some.inj h
      exact v_iret dX10_set_191 rfl rfl
  · replace h := ip_ c23 h
    refine v_aload_n dX10_set_135 rfl rfl ?_
    obtain ⟨x21, hx21, h⟩ := ob_some h
    refine v_getR dX10_set_136 fl_X10_22 hx21 ?_
    refine v_iload_n dX10_set_139 rfl rfl ?_
    refine v_iload_n dX10_set_140 rfl rfl ?_
    obtain ⟨f22, hf22, h⟩ := ob_some h
    refine v_iast dX10_set_141 hf22 ?_
    refine v_goto (tgt := 189) dX10_set_142 (by decide) ?_
    refine v_iload dX10_set_189 rfl ?_
    obtain rfl := Option.some.inj h
    exact v_iret dX10_set_191 rfl rfl

set_option maxRecDepth 20000 in
theorem tX10_set_61 {l : Launch} {g : GT} {sz : Option Nat} (N : Nat)  {r : (Int32 × HF)} : ∀ (v0 : Nat) (v1 : Int32) (v2 : Int32) (v3 : Int32) (v4 : Int32) (s0 : Nat) (s1 : Int32) (f : HF), DX10_set_61 N v0 v1 v2 v3 v4 s0 s1 f = some r → V l g (fun _ => True) (RX10, cX10_set, 6, (Option.some Jvm.ClassFile.FieldType.int), [], "set") 2 (roI (.inl r.1) r.2 sz) 61 [(0, .ref v0), (1, .int v1), (2, .int v2), (3, .int v3), (4, .int v4)] [.int s1, .ref s0] f sz 0 0 := by
  intro v0 v1 v2 v3 v4 s0 s1 f h
  unfold DX10_set_61 at h
  obtain ⟨f9, hf9, h⟩ := ob_some h
  refine v_pI dX10_set_61 fp_X10_102 hf9 ?_
  refine v_aload_n dX10_set_64 rfl rfl ?_
  obtain ⟨x10, hx10, h⟩ := ob_some h
  refine v_getI dX10_set_65 fl_X10_102 hx10 ?_
  refine v_if_le (tgt := 73) dX10_set_68 (by decide) (fun c33 => ?_) (fun c33 => ?_)
  · replace h := ip_ c33 h
    refine v_iload_n dX10_set_73 rfl rfl ?_
    refine v_iconst (v := 5) dX10_set_74 (by decide) ?_
    refine v_icmp_ne (tgt := 87) dX10_set_75 (by decide) (fun c32 => ?_) (fun c32 => ?_)
    · replace h := in_ c32 h
      refine v_iload_n dX10_set_87 rfl rfl ?_
      refine v_bipush (v := 6) dX10_set_88 (by decide) ?_
      refine v_icmp_ne (tgt := 102) dX10_set_90 (by decide) (fun c29 => ?_) (fun c29 => ?_)
      · replace h := in_ c29 h
        refine v_iload_n dX10_set_102 rfl rfl ?_
        refine v_bipush (v := 7) dX10_set_103 (by decide) ?_
        refine v_icmp_ne (tgt := 117) dX10_set_105 (by decide) (fun c26 => ?_) (fun c26 => ?_)
        · replace h := in_ c26 h
          refine v_aload_n dX10_set_117 rfl rfl ?_
          obtain ⟨x11, hx11, h⟩ := ob_some h
          refine v_getR dX10_set_118 fl_X10_50 hx11 ?_
          refine v_iconst (v := 5) dX10_set_121 (by decide) ?_
          refine v_iload dX10_set_122 rfl ?_
          refine v_imul dX10_set_124 ?_
          refine v_iload_n dX10_set_125 rfl rfl ?_
          refine v_iadd dX10_set_126 ?_
          obtain ⟨x12, hx12, h⟩ := ob_some h
          refine v_iald dX10_set_127 hx12 ?_
          exact v_sub (vs_c rfl (vs_c rfl (vs_c rfl (vs_c rfl (vs_c rfl vs_n))))) (tX10_set_128 N v0 v1 v2 v3 v4 x12 f9 h)
        · replace h := ip_ c26 h
          refine v_aload_n dX10_set_108 rfl rfl ?_
          obtain ⟨x24, hx24, h⟩ := ob_some h
          refine v_getR dX10_set_109 fl_X10_28 hx24 ?_
          refine v_iload_n dX10_set_112 rfl rfl ?_
          obtain ⟨x25, hx25, h⟩ := ob_some h
          refine v_iald dX10_set_113 hx25 ?_
          refine v_goto (tgt := 128) dX10_set_114 (by decide) ?_
          exact v_sub (vs_c rfl (vs_c rfl (vs_c rfl (vs_c rfl (vs_c rfl vs_n))))) (tX10_set_128 N v0 v1 v2 v3 v4 x25 f9 h)
      · replace h := ip_ c29 h
        refine v_aload_n dX10_set_93 rfl rfl ?_
        obtain ⟨x27, hx27, h⟩ := ob_some h
        refine v_getR dX10_set_94 fl_X10_25 hx27 ?_
        refine v_iload_n dX10_set_97 rfl rfl ?_
        obtain ⟨x28, hx28, h⟩ := ob_some h
        refine v_iald dX10_set_98 hx28 ?_
        refine v_goto (tgt := 128) dX10_set_99 (by decide) ?_
        exact v_sub (vs_c rfl (vs_c rfl (vs_c rfl (vs_c rfl (vs_c rfl vs_n))))) (tX10_set_128 N v0 v1 v2 v3 v4 x28 f9 h)
    · replace h := ip_ c32 h
      refine v_aload_n dX10_set_78 rfl rfl ?_
      obtain ⟨x30, hx30, h⟩ := ob_some h
      refine v_getR dX10_set_79 fl_X10_22 hx30 ?_
      refine v_iload_n dX10_set_82 rfl rfl ?_
      obtain ⟨x31, hx31, h⟩ := ob_some h
      refine v_iald dX10_set_83 hx31 ?_
      refine v_goto (tgt := 128) dX10_set_84 (by decide) ?_
      exact v_sub (vs_c rfl (vs_c rfl (vs_c rfl (vs_c rfl (vs_c rfl vs_n))))) (tX10_set_128 N v0 v1 v2 v3 v4 x31 f9 h)
  · replace h := in_ c33 h
    refine v_iconst (v := 0) dX10_set_71 (by decide) ?_
    obtain rfl := Option.some.inj h
    exact v_iret dX10_set_72 rfl rfl

set_option maxRecDepth 20000 in
theorem tX10_set_56 {l : Launch} {g : GT} {sz : Option Nat} (N : Nat)  {r : (Int32 × HF)} : ∀ (v0 : Nat) (v1 : Int32) (v2 : Int32) (v3 : Int32) (v4 : Int32) (s0 : Nat) (f : HF), DX10_set_56 N v0 v1 v2 v3 v4 s0 f = some r → V l g (fun _ => True) (RX10, cX10_set, 6, (Option.some Jvm.ClassFile.FieldType.int), [], "set") 2 (roI (.inl r.1) r.2 sz) 56 [(0, .ref v0), (1, .int v1), (2, .int v2), (3, .int v3), (4, .int v4)] [.ref s0] f sz 0 0 := by
  intro v0 v1 v2 v3 v4 s0 f h
  unfold DX10_set_56 at h
  refine v_iconst (v := 2) dX10_set_56 (by decide) ?_
  refine v_goto (tgt := 61) dX10_set_57 (by decide) ?_
  exact v_sub (vs_c rfl (vs_c rfl (vs_c rfl (vs_c rfl (vs_c rfl vs_n))))) (tX10_set_61 N v0 v1 v2 v3 v4 s0 (2 : Int32) f h)

set_option maxRecDepth 20000 in
theorem tX10_set_14 {l : Launch} {g : GT} {sz : Option Nat} (N : Nat)  {r : (Int32 × HF)} : ∀ (v0 : Nat) (v1 : Int32) (v2 : Int32) (v3 : Int32) (s0 : Nat) (s1 : Int32) (f : HF), DX10_set_14 N v0 v1 v2 v3 s0 s1 f = some r → V l g (fun _ => True) (RX10, cX10_set, 6, (Option.some Jvm.ClassFile.FieldType.int), [], "set") 2 (roI (.inl r.1) r.2 sz) 14 [(0, .ref v0), (1, .int v1), (2, .int v2), (3, .int v3)] [.int s1, .ref s0] f sz 0 0 := by
  intro v0 v1 v2 v3 s0 s1 f h
  unfold DX10_set_14 at h
  obtain ⟨f3, hf3, h⟩ := ob_some h
  refine v_pI dX10_set_14 fp_X10_102 hf3 ?_
  refine v_aload_n dX10_set_17 rfl rfl ?_
  obtain ⟨x4, hx4, h⟩ := ob_some h
  refine v_getI dX10_set_18 fl_X10_102 hx4 ?_
  refine v_if_le (tgt := 26) dX10_set_21 (by decide) (fun c38 => ?_) (fun c38 => ?_)
  · replace h := ip_ c38 h
    refine v_aload_n dX10_set_26 rfl rfl ?_
    obtain ⟨x5, hx5, h⟩ := ob_some h
    refine v_getR dX10_set_27 fl_X10_19 hx5 ?_
    refine v_iload_n dX10_set_30 rfl rfl ?_
    obtain ⟨x6, hx6, h⟩ := ob_some h
    refine v_iald dX10_set_31 hx6 ?_
    refine v_istore (ls1 := [(4, .int x6), (0, .ref v0), (1, .int v1), (2, .int v2), (3, .int v3)]) dX10_set_32 (by decide) rfl ?_
    refine v_aload_n dX10_set_34 rfl rfl ?_
    refine v_aload_n dX10_set_35 rfl rfl ?_
    obtain ⟨x7, hx7, h⟩ := ob_some h
    refine v_getR dX10_set_36 fl_X10_7 hx7 ?_
    refine v_iload dX10_set_39 rfl ?_
    obtain ⟨x8, hx8, h⟩ := ob_some h
    refine v_iald dX10_set_41 hx8 ?_
    refine v_if_eq (tgt := 56) dX10_set_42 (by decide) (fun c37 => ?_) (fun c37 => ?_)
    · replace h := ip_ c37 h
      exact v_sub (vs_c rfl (vs_c rfl (vs_c rfl (vs_c rfl (vs_c rfl vs_n))))) (tX10_set_56 N v0 v1 v2 v3 x6 v0 f3 h)
    · replace h := in_ c37 h
      refine v_aload_n dX10_set_45 rfl rfl ?_
      refine v_iload dX10_set_46 rfl ?_
      refine v_iload_n dX10_set_48 rfl rfl ?_
      refine v_iload_n dX10_set_49 rfl rfl ?_
      obtain ⟨x34, hx35, h⟩ := ob_some h
      have ehx35 := tX10_maySet (l := l) (g := g) (sz := sz) N v0 x6 v2 v3 f3 hx35
      refine v_cVI dX10_set_50 ml_X10_166 ok_X10_maySet ehx35 (kX10_maySet N v0 x6 v2 v3 f3 hx35) rfl (by decide) rfl (rest := [.ref v0]) rfl (Nat.le_of_ble_eq_true rfl) ?_
      refine v_if_ne (tgt := 60) dX10_set_53 (by decide) (fun c36 => ?_) (fun c36 => ?_)
      · replace h := in_ c36 h
        refine v_iconst (v := 0) dX10_set_60 (by decide) ?_
        exact v_sub (vs_c rfl (vs_c rfl (vs_c rfl (vs_c rfl (vs_c rfl vs_n))))) (tX10_set_61 N v0 v1 v2 v3 x6 v0 (0 : Int32) f3 h)
      · replace h := ip_ c36 h
        exact v_sub (vs_c rfl (vs_c rfl (vs_c rfl (vs_c rfl (vs_c rfl vs_n))))) (tX10_set_56 N v0 v1 v2 v3 x6 v0 f3 h)
  · replace h := in_ c38 h
    refine v_iconst (v := 0) dX10_set_24 (by decide) ?_
    obtain rfl := Option.some.inj h
    exact v_iret dX10_set_25 rfl rfl

set_option maxRecDepth 20000 in
theorem kX10_set (N : Nat) (this : Nat) (p0 : Int32) (p1 : Int32) (p2 : Int32) (f : HF) {r : (Int32 × HF)} (h : DX10_set N this p0 p1 p2 f = some r) : ck f this 9 = some () := by
  unfold DX10_set at h
  obtain ⟨_, hck, _⟩ := ob_some h
  exact hck

set_option maxRecDepth 20000 in
theorem tX10_set {l : Launch} {g : GT} {sz : Option Nat} (N : Nat) (this : Nat) (p0 : Int32) (p1 : Int32) (p2 : Int32) (f : HF) {r : (Int32 × HF)} (h : DX10_set N this p0 p1 p2 f = some r) : Mt l g yX10_set cX10_set 6 (Option.some Jvm.ClassFile.FieldType.int) 2 [.ref this, .int p0, .int p1, .int p2] f sz (roI (.inl r.1) r.2 sz) := by
  unfold DX10_set at h
  obtain ⟨_, hck, h⟩ := ob_some h
  refine mt_of (by decide) (Nat.le_of_ble_eq_true rfl) (?_ : V l g (fun _ => True) (RX10, cX10_set, 6, (Option.some Jvm.ClassFile.FieldType.int), [], "set") 2 (roI (.inl r.1) r.2 sz) 0 [(0, .ref this), (1, .int p0), (2, .int p1), (3, .int p2)] [] f sz 0 0)
  refine v_aload_n dX10_set_0 rfl rfl ?_
  refine v_aload_n dX10_set_1 rfl rfl ?_
  refine v_iload_n dX10_set_2 rfl rfl ?_
  obtain ⟨x1, hx2, h⟩ := ob_some h
  have ehx2 := tX10_no (l := l) (g := g) (sz := sz) N this p0 f hx2
  refine v_cVI dX10_set_3 ml_X10_109 ok_X10_no ehx2 (kX10_no N this p0 f hx2) rfl (by decide) rfl (rest := [.ref this]) rfl (Nat.le_of_ble_eq_true rfl) ?_
  refine v_if_eq (tgt := 13) dX10_set_6 (by decide) (fun c39 => ?_) (fun c39 => ?_)
  · replace h := ip_ c39 h
    refine v_iconst (v := 0) dX10_set_13 (by decide) ?_
    exact v_sub (vs_c rfl (vs_c rfl (vs_c rfl (vs_c rfl vs_n)))) (tX10_set_14 N this p0 p1 p2 this (0 : Int32) f h)
  · replace h := in_ c39 h
    refine v_iconst (v := 1) dX10_set_9 (by decide) ?_
    refine v_goto (tgt := 14) dX10_set_10 (by decide) ?_
    exact v_sub (vs_c rfl (vs_c rfl (vs_c rfl (vs_c rfl vs_n)))) (tX10_set_14 N this p0 p1 p2 this (1 : Int32) f h)

/-! X10 bounds (W) -/
def DX10_bounds_52 (N : Nat)  (v0 : Nat) (v1 : Int32) (v2 : Int64) (v4 : Int64) (s0 : Nat) (s1 : Int32) (f : HF) : Option (Unit × HF) :=
    (pV f s0 9 0 (.int s1)).bind fun f5 =>
    (gI f5 v0 9 0).bind fun x6 =>
    if x6 = 0 then
      (gR f5 v0 9 16).bind fun x7 =>
      (gR f5 v0 9 5).bind fun x8 =>
      (aI f5 x8 0 v1).bind fun x9 =>
      (sL f5 x7 x9 v2).bind fun f10 =>
      (gR f10 v0 9 17).bind fun x11 =>
      (gR f10 v0 9 5).bind fun x12 =>
      (aI f10 x12 0 v1).bind fun x13 =>
      (sL f10 x11 x13 v4).bind fun f14 =>
      some ((), f14)
    else
      some ((), f5)

def DX10_bounds_47 (N : Nat)  (v0 : Nat) (v1 : Int32) (v2 : Int64) (v4 : Int64) (s0 : Nat) (f : HF) : Option (Unit × HF) :=
    DX10_bounds_52 N v0 v1 v2 v4 s0 (2 : Int32) f

def DX10_bounds (N : Nat) (this : Nat) (p0 : Int32) (p1 : Int64) (p2 : Int64) (f : HF) : Option (Unit × HF) :=
  (ck f this 9).bind fun _ =>
  (DX10_no N this p0 f).bind fun x1 =>
  if x1 = 0 then
    (gR f this 9 2).bind fun x3 =>
    (aI f x3 0 p0).bind fun x4 =>
    if x4 = (5 : Int32) then
      if p1 < (-999999999999 : Int64) then
        DX10_bounds_47 N this p0 p1 p2 this f
      else
        if (999999999999 : Int64) < p2 then
          DX10_bounds_47 N this p0 p1 p2 this f
        else
          if p1 ≤ p2 then
            DX10_bounds_52 N this p0 p1 p2 this (0 : Int32) f
          else
            DX10_bounds_47 N this p0 p1 p2 this f
    else
      DX10_bounds_47 N this p0 p1 p2 this f
  else
    DX10_bounds_52 N this p0 p1 p2 this (1 : Int32) f

set_option maxRecDepth 20000 in
theorem tX10_bounds_52 {l : Launch} {g : GT} {sz : Option Nat} (N : Nat)  {r : (Unit × HF)} : ∀ (v0 : Nat) (v1 : Int32) (v2 : Int64) (v4 : Int64) (s0 : Nat) (s1 : Int32) (f : HF), DX10_bounds_52 N v0 v1 v2 v4 s0 s1 f = some r → V l g (fun _ => True) (RX10, cX10_bounds, 6, (Option.none : Option Jvm.ClassFile.FieldType), [], "bounds") 1 (roU (.inl r.1) r.2 sz) 52 [(0, .ref v0), (1, .int v1), (2, .long v2), (4, .long v4)] [.int s1, .ref s0] f sz 0 0 := by
  intro v0 v1 v2 v4 s0 s1 f h
  unfold DX10_bounds_52 at h
  obtain ⟨f5, hf5, h⟩ := ob_some h
  refine v_pI dX10_bounds_52 fp_X10_102 hf5 ?_
  refine v_aload_n dX10_bounds_55 rfl rfl ?_
  obtain ⟨x6, hx6, h⟩ := ob_some h
  refine v_getI dX10_bounds_56 fl_X10_102 hx6 ?_
  refine v_if_ne (tgt := 87) dX10_bounds_59 (by decide) (fun c15 => ?_) (fun c15 => ?_)
  · replace h := in_ c15 h
    obtain rfl := Option.some.inj h
    exact v_vret dX10_bounds_87 rfl rfl
  · replace h := ip_ c15 h
    refine v_aload_n dX10_bounds_62 rfl rfl ?_
    obtain ⟨x7, hx7, h⟩ := ob_some h
    refine v_getR dX10_bounds_63 fl_X10_53 hx7 ?_
    refine v_aload_n dX10_bounds_66 rfl rfl ?_
    obtain ⟨x8, hx8, h⟩ := ob_some h
    refine v_getR dX10_bounds_67 fl_X10_19 hx8 ?_
    refine v_iload_n dX10_bounds_70 rfl rfl ?_
    obtain ⟨x9, hx9, h⟩ := ob_some h
    refine v_iald dX10_bounds_71 hx9 ?_
    refine v_lload_n dX10_bounds_72 rfl rfl ?_
    obtain ⟨f10, hf10, h⟩ := ob_some h
    refine v_last dX10_bounds_73 hf10 ?_
    refine v_aload_n dX10_bounds_74 rfl rfl ?_
    obtain ⟨x11, hx11, h⟩ := ob_some h
    refine v_getR dX10_bounds_75 fl_X10_57 hx11 ?_
    refine v_aload_n dX10_bounds_78 rfl rfl ?_
    obtain ⟨x12, hx12, h⟩ := ob_some h
    refine v_getR dX10_bounds_79 fl_X10_19 hx12 ?_
    refine v_iload_n dX10_bounds_82 rfl rfl ?_
    obtain ⟨x13, hx13, h⟩ := ob_some h
    refine v_iald dX10_bounds_83 hx13 ?_
    refine v_lload dX10_bounds_84 rfl ?_
    obtain ⟨f14, hf14, h⟩ := ob_some h
    refine v_last dX10_bounds_86 hf14 ?_
    obtain rfl := Option.some.inj h
    exact v_vret dX10_bounds_87 rfl rfl

set_option maxRecDepth 20000 in
theorem tX10_bounds_47 {l : Launch} {g : GT} {sz : Option Nat} (N : Nat)  {r : (Unit × HF)} : ∀ (v0 : Nat) (v1 : Int32) (v2 : Int64) (v4 : Int64) (s0 : Nat) (f : HF), DX10_bounds_47 N v0 v1 v2 v4 s0 f = some r → V l g (fun _ => True) (RX10, cX10_bounds, 6, (Option.none : Option Jvm.ClassFile.FieldType), [], "bounds") 1 (roU (.inl r.1) r.2 sz) 47 [(0, .ref v0), (1, .int v1), (2, .long v2), (4, .long v4)] [.ref s0] f sz 0 0 := by
  intro v0 v1 v2 v4 s0 f h
  unfold DX10_bounds_47 at h
  refine v_iconst (v := 2) dX10_bounds_47 (by decide) ?_
  refine v_goto (tgt := 52) dX10_bounds_48 (by decide) ?_
  exact v_sub (vs_c rfl (vs_c rfl (vs_c rfl (vs_c rfl vs_n)))) (tX10_bounds_52 N v0 v1 v2 v4 s0 (2 : Int32) f h)

set_option maxRecDepth 20000 in
theorem kX10_bounds (N : Nat) (this : Nat) (p0 : Int32) (p1 : Int64) (p2 : Int64) (f : HF) {r : (Unit × HF)} (h : DX10_bounds N this p0 p1 p2 f = some r) : ck f this 9 = some () := by
  unfold DX10_bounds at h
  obtain ⟨_, hck, _⟩ := ob_some h
  exact hck

set_option maxRecDepth 20000 in
theorem tX10_bounds {l : Launch} {g : GT} {sz : Option Nat} (N : Nat) (this : Nat) (p0 : Int32) (p1 : Int64) (p2 : Int64) (f : HF) {r : (Unit × HF)} (h : DX10_bounds N this p0 p1 p2 f = some r) : Mt l g yX10_bounds cX10_bounds 6 (Option.none : Option Jvm.ClassFile.FieldType) 1 [.ref this, .int p0, .long p1, .long p2] f sz (roU (.inl r.1) r.2 sz) := by
  unfold DX10_bounds at h
  obtain ⟨_, hck, h⟩ := ob_some h
  refine mt_of (by decide) (Nat.le_of_ble_eq_true rfl) (?_ : V l g (fun _ => True) (RX10, cX10_bounds, 6, (Option.none : Option Jvm.ClassFile.FieldType), [], "bounds") 1 (roU (.inl r.1) r.2 sz) 0 [(0, .ref this), (1, .int p0), (2, .long p1), (4, .long p2)] [] f sz 0 0)
  refine v_aload_n dX10_bounds_0 rfl rfl ?_
  refine v_aload_n dX10_bounds_1 rfl rfl ?_
  refine v_iload_n dX10_bounds_2 rfl rfl ?_
  obtain ⟨x1, hx2, h⟩ := ob_some h
  have ehx2 := tX10_no (l := l) (g := g) (sz := sz) N this p0 f hx2
  refine v_cVI dX10_bounds_3 ml_X10_109 ok_X10_no ehx2 (kX10_no N this p0 f hx2) rfl (by decide) rfl (rest := [.ref this]) rfl (Nat.le_of_ble_eq_true rfl) ?_
  refine v_if_eq (tgt := 13) dX10_bounds_6 (by decide) (fun c20 => ?_) (fun c20 => ?_)
  · replace h := ip_ c20 h
    refine v_aload_n dX10_bounds_13 rfl rfl ?_
    obtain ⟨x3, hx3, h⟩ := ob_some h
    refine v_getR dX10_bounds_14 fl_X10_7 hx3 ?_
    refine v_iload_n dX10_bounds_17 rfl rfl ?_
    obtain ⟨x4, hx4, h⟩ := ob_some h
    refine v_iald dX10_bounds_18 hx4 ?_
    refine v_iconst (v := 5) dX10_bounds_19 (by decide) ?_
    refine v_icmp_ne (tgt := 47) dX10_bounds_20 (by decide) (fun c19 => ?_) (fun c19 => ?_)
    · replace h := in_ c19 h
      exact v_sub (vs_c rfl (vs_c rfl (vs_c rfl (vs_c rfl vs_n)))) (tX10_bounds_47 N this p0 p1 p2 this f h)
    · replace h := ip_ c19 h
      refine v_lload_n dX10_bounds_23 rfl rfl ?_
      refine v_ldc2 dX10_bounds_24 kc_X10_125 ?_
      refine v_lcmp_lt (tgt := 47) dX10_bounds_27 dX10_bounds_28 (by decide) (fun c18 => ?_) (fun c18 => ?_)
      · replace h := ip_ c18 h
        exact v_sub (vs_c rfl (vs_c rfl (vs_c rfl (vs_c rfl vs_n)))) (tX10_bounds_47 N this p0 p1 p2 this f h)
      · replace h := in_ c18 h
        refine v_lload dX10_bounds_31 rfl ?_
        refine v_ldc2 dX10_bounds_33 kc_X10_127 ?_
        refine v_lcmp_gt (tgt := 47) dX10_bounds_36 dX10_bounds_37 (by decide) (fun c17 => ?_) (fun c17 => ?_)
        · replace h := ip_ c17 h
          exact v_sub (vs_c rfl (vs_c rfl (vs_c rfl (vs_c rfl vs_n)))) (tX10_bounds_47 N this p0 p1 p2 this f h)
        · replace h := in_ c17 h
          refine v_lload_n dX10_bounds_40 rfl rfl ?_
          refine v_lload dX10_bounds_41 rfl ?_
          refine v_lcmp_le (tgt := 51) dX10_bounds_43 dX10_bounds_44 (by decide) (fun c16 => ?_) (fun c16 => ?_)
          · replace h := ip_ c16 h
            refine v_iconst (v := 0) dX10_bounds_51 (by decide) ?_
            exact v_sub (vs_c rfl (vs_c rfl (vs_c rfl (vs_c rfl vs_n)))) (tX10_bounds_52 N this p0 p1 p2 this (0 : Int32) f h)
          · replace h := in_ c16 h
            exact v_sub (vs_c rfl (vs_c rfl (vs_c rfl (vs_c rfl vs_n)))) (tX10_bounds_47 N this p0 p1 p2 this f h)
  · replace h := in_ c20 h
    refine v_iconst (v := 1) dX10_bounds_9 (by decide) ?_
    refine v_goto (tgt := 52) dX10_bounds_10 (by decide) ?_
    exact v_sub (vs_c rfl (vs_c rfl (vs_c rfl (vs_c rfl vs_n)))) (tX10_bounds_52 N this p0 p1 p2 this (1 : Int32) f h)

/-! X10 amountOf (R) -/
def DX10_amountOf_251 (N : Nat) (f : HF)  (n : Nat) (v0 : Nat) (v2 : Int32) (v3 : Int32) (v4 : Int32) (v5 : Int64) (v8 : Int32) (v10 : Int32) : Option Int64 :=
  match n with
  | 0 => none
  | n + 1 =>
    if (3 : Int32) ≤ v10 then
      if v8 = 0 then
        some (9000000000000000000 : Int64)
      else
        if v3 ≤ v4 then
          (gR f v0 9 10).bind fun x7 =>
          (aI f x7 0 v2).bind fun x8 =>
          if x8 = (45 : Int32) then
            some (-v5)
          else
            some v5
        else
          some (9000000000000000000 : Int64)
    else
      DX10_amountOf_251 N f n v0 v2 v3 v4 ((10 : Int64) * v5) v8 (v10 + 1)

def DX10_amountOf_247 (N : Nat) (f : HF)  (v0 : Nat) (v2 : Int32) (v3 : Int32) (v4 : Int32) (v5 : Int64) (v8 : Int32) (v9 : Int32) : Option Int64 :=
    DX10_amountOf_251 N f N v0 v2 v3 v4 v5 v8 v9

def DX10_amountOf_245 (N : Nat) (f : HF)  (v0 : Nat) (v2 : Int32) (v3 : Int32) (v4 : Int32) (v5 : Int64) (v9 : Int32) (s0 : Int32) : Option Int64 :=
    DX10_amountOf_247 N f v0 v2 v3 v4 v5 s0 v9

def DX10_amountOf_244 (N : Nat) (f : HF)  (v0 : Nat) (v2 : Int32) (v3 : Int32) (v4 : Int32) (v5 : Int64) (v9 : Int32) : Option Int64 :=
    DX10_amountOf_245 N f v0 v2 v3 v4 v5 v9 (0 : Int32)

def DX10_amountOf_224 (N : Nat) (f : HF)  (v0 : Nat) (v2 : Int32) (v3 : Int32) (v4 : Int32) (v5 : Int64) (v8 : Int32) (v9 : Int32) : Option Int64 :=
    if v8 = 0 then
      DX10_amountOf_244 N f v0 v2 v3 v4 v5 v9
    else
      if v9 ≤ 0 then
        DX10_amountOf_244 N f v0 v2 v3 v4 v5 v9
      else
        if (4 : Int32) ≤ v9 then
          DX10_amountOf_244 N f v0 v2 v3 v4 v5 v9
        else
          DX10_amountOf_245 N f v0 v2 v3 v4 v5 v9 (1 : Int32)

def DX10_amountOf_168 (N : Nat) (f : HF)  (n : Nat) (v0 : Nat) (v2 : Int32) (v3 : Int32) (v4 : Int32) (v5 : Int64) (v8 : Int32) (v9 : Int32) : Option Int64 :=
  match n with
  | 0 => none
  | n + 1 =>
    if v3 ≤ v4 then
      DX10_amountOf_224 N f v0 v2 v3 v4 v5 v8 v9
    else
      (gR f v0 9 10).bind fun x18 =>
      (aI f x18 0 v4).bind fun x19 =>
      (DX10_isIn N (x19.toInt64) (48 : Int64) (57 : Int64) f).bind fun x20 =>
      if x20 = 0 then
        DX10_amountOf_224 N f v0 v2 v3 v4 v5 v8 v9
      else
        (gR f v0 9 10).bind fun x22 =>
        (aI f x22 0 v4).bind fun x23 =>
        DX10_amountOf_168 N f n v0 v2 v3 (v4 + 1) ((((10 : Int64) * v5) + (x23.toInt64)) - (48 : Int64)) v8 (v9 + 1)

def DX10_amountOf_142 (N : Nat) (f : HF)  (v0 : Nat) (v2 : Int32) (v3 : Int32) (v4 : Int32) (v5 : Int64) (s0 : Int32) : Option Int64 :=
    if v3 ≤ v4 then
      DX10_amountOf_247 N f v0 v2 v3 v4 v5 s0 (0 : Int32)
    else
      (gR f v0 9 10).bind fun x13 =>
      (aI f x13 0 v4).bind fun x14 =>
      if x14 = (46 : Int32) then
        DX10_amountOf_168 N f N v0 v2 v3 (v4 + 1) v5 s0 (0 : Int32)
      else
        DX10_amountOf_247 N f v0 v2 v3 v4 v5 s0 (0 : Int32)

def DX10_amountOf_141 (N : Nat) (f : HF)  (v0 : Nat) (v2 : Int32) (v3 : Int32) (v4 : Int32) (v5 : Int64) : Option Int64 :=
    DX10_amountOf_142 N f v0 v2 v3 v4 v5 (0 : Int32)

def DX10_amountOf_125 (N : Nat) (f : HF)  (v0 : Nat) (v2 : Int32) (v3 : Int32) (v4 : Int32) (v5 : Int64) (v7 : Int32) : Option Int64 :=
    if v7 ≤ 0 then
      DX10_amountOf_141 N f v0 v2 v3 v4 v5
    else
      if (10 : Int32) ≤ v7 then
        DX10_amountOf_141 N f v0 v2 v3 v4 v5
      else
        DX10_amountOf_142 N f v0 v2 v3 v4 v5 (1 : Int32)

def DX10_amountOf_69 (N : Nat) (f : HF)  (n : Nat) (v0 : Nat) (v2 : Int32) (v3 : Int32) (v4 : Int32) (v5 : Int64) (v7 : Int32) : Option Int64 :=
  match n with
  | 0 => none
  | n + 1 =>
    if v3 ≤ v4 then
      DX10_amountOf_125 N f v0 v2 v3 v4 v5 v7
    else
      (gR f v0 9 10).bind fun x30 =>
      (aI f x30 0 v4).bind fun x31 =>
      (DX10_isIn N (x31.toInt64) (48 : Int64) (57 : Int64) f).bind fun x32 =>
      if x32 = 0 then
        DX10_amountOf_125 N f v0 v2 v3 v4 v5 v7
      else
        (gR f v0 9 10).bind fun x34 =>
        (aI f x34 0 v4).bind fun x35 =>
        DX10_amountOf_69 N f n v0 v2 v3 (v4 + 1) ((((10 : Int64) * v5) + (x35.toInt64)) - (48 : Int64)) (v7 + 1)

def DX10_amountOf_61 (N : Nat) (f : HF)  (v0 : Nat) (v2 : Int32) (v3 : Int32) (s0 : Int32) : Option Int64 :=
    DX10_amountOf_69 N f N v0 v2 v3 s0 (0 : Int64) (0 : Int32)

def DX10_amountOf (N : Nat) (this : Nat) (p0 : Int32) (f : HF) : Option Int64 :=
  (ck f this 9).bind fun _ =>
  (gR f this 9 2).bind fun x1 =>
  (aI f x1 0 p0).bind fun x2 =>
  if x2 = (2 : Int32) then
    (gR f this 9 12).bind fun x40 =>
    (aI f x40 0 p0).bind fun x41 =>
    some ((1000 : Int64) * (x41.toInt64))
  else
    (gR f this 9 11).bind fun x3 =>
    (aI f x3 0 p0).bind fun x4 =>
    if ((30 : Int32) * p0) = (((30 : Int32) * p0) + x4) then
      some (0 : Int64)
    else
      (gR f this 9 10).bind fun x5 =>
      (aI f x5 0 ((30 : Int32) * p0)).bind fun x6 =>
      if x6 = (45 : Int32) then
        DX10_amountOf_61 N f this ((30 : Int32) * p0) (((30 : Int32) * p0) + x4) (((30 : Int32) * p0) + (1 : Int32))
      else
        DX10_amountOf_61 N f this ((30 : Int32) * p0) (((30 : Int32) * p0) + x4) ((30 : Int32) * p0)

set_option maxRecDepth 20000 in
theorem tX10_amountOf_251 {l : Launch} {g : GT} {sz : Option Nat} (N : Nat) (f : HF)  {r : Int64} : ∀ (n : Nat), ∀ (v0 : Nat) (v2 : Int32) (v3 : Int32) (v4 : Int32) (v5 : Int64) (v8 : Int32) (v10 : Int32), DX10_amountOf_251 N f n v0 v2 v3 v4 v5 v8 v10 = some r → V l g (fun _ => True) (RX10, cX10_amountOf, 11, (Option.some Jvm.ClassFile.FieldType.long), [], "amountOf") 1 (roL (.inl r) f sz) 251 [(0, .ref v0), (2, .int v2), (3, .int v3), (4, .int v4), (5, .long v5), (8, .int v8), (10, .int v10)] [] f sz 0 0 := by
  intro n
  induction n with
  | zero => intro v0 v2 v3 v4 v5 v8 v10 h; cases h
  | succ n ih =>
    intro v0 v2 v3 v4 v5 v8 v10 h
    rw [DX10_amountOf_251] at h
    refine v_iload dX10_amountOf_251 rfl ?_
    refine v_iconst (v := 3) dX10_amountOf_253 (by decide) ?_
    refine v_icmp_ge (tgt := 271) dX10_amountOf_254 (by decide) (fun c12 => ?_) (fun c12 => ?_)
    · replace h := ip_ c12 h
      refine v_iload dX10_amountOf_271 rfl ?_
      refine v_if_eq (tgt := 282) dX10_amountOf_273 (by decide) (fun c11 => ?_) (fun c11 => ?_)
      · replace h := ip_ c11 h
        refine v_ldc2 dX10_amountOf_282 kc_X10_178 ?_
        refine v_goto (tgt := 307) dX10_amountOf_285 (by decide) ?_
        obtain rfl := Option.some.inj h
        exact v_lret dX10_amountOf_307 rfl rfl
      · replace h := in_ c11 h
        refine v_iload dX10_amountOf_276 rfl ?_
        refine v_iload_n dX10_amountOf_278 rfl rfl ?_
        refine v_icmp_ge (tgt := 288) dX10_amountOf_279 (by decide) (fun c10 => ?_) (fun c10 => ?_)
        · replace h := ip_ c10 h
          refine v_aload_n dX10_amountOf_288 rfl rfl ?_
          obtain ⟨x7, hx7, h⟩ := ob_some h
          refine v_getR dX10_amountOf_289 fl_X10_35 hx7 ?_
          refine v_iload_n dX10_amountOf_292 rfl rfl ?_
          obtain ⟨x8, hx8, h⟩ := ob_some h
          refine v_iald dX10_amountOf_293 hx8 ?_
          refine v_bipush (v := 45) dX10_amountOf_294 (by decide) ?_
          refine v_icmp_ne (tgt := 305) dX10_amountOf_296 (by decide) (fun c9 => ?_) (fun c9 => ?_)
          · replace h := in_ c9 h
            refine v_lload dX10_amountOf_305 rfl ?_
            obtain rfl := Option.some.inj h
            exact v_lret dX10_amountOf_307 rfl rfl
          · replace h := ip_ c9 h
            refine v_lload dX10_amountOf_299 rfl ?_
            refine v_lneg dX10_amountOf_301 ?_
            refine v_goto (tgt := 307) dX10_amountOf_302 (by decide) ?_
            obtain rfl := Option.some.inj h
            exact v_lret dX10_amountOf_307 rfl rfl
        · replace h := in_ c10 h
          refine v_ldc2 dX10_amountOf_282 kc_X10_178 ?_
          refine v_goto (tgt := 307) dX10_amountOf_285 (by decide) ?_
          obtain rfl := Option.some.inj h
          exact v_lret dX10_amountOf_307 rfl rfl
    · replace h := in_ c12 h
      refine v_ldc2 dX10_amountOf_257 kc_X10_176 ?_
      refine v_lload dX10_amountOf_260 rfl ?_
      refine v_lmul dX10_amountOf_262 ?_
      refine v_lstore (ls1 := [(5, .long ((10 : Int64) * v5)), (0, .ref v0), (2, .int v2), (3, .int v3), (4, .int v4), (8, .int v8), (10, .int v10)]) dX10_amountOf_263 (by decide) rfl ?_
      refine v_iinc (v := (v10 + 1)) (ls1 := [(10, .int (v10 + 1)), (5, .long ((10 : Int64) * v5)), (0, .ref v0), (2, .int v2), (3, .int v3), (4, .int v4), (8, .int v8)]) dX10_amountOf_265 rfl rfl (by decide) rfl ?_
      refine v_goto (tgt := 251) dX10_amountOf_268 (by decide) ?_
      exact v_sub (vs_c rfl (vs_c rfl (vs_c rfl (vs_c rfl (vs_c rfl (vs_c rfl (vs_c rfl vs_n))))))) (ih v0 v2 v3 v4 ((10 : Int64) * v5) v8 (v10 + 1) h)

set_option maxRecDepth 20000 in
theorem tX10_amountOf_247 {l : Launch} {g : GT} {sz : Option Nat} (N : Nat) (f : HF)  {r : Int64} : ∀ (v0 : Nat) (v2 : Int32) (v3 : Int32) (v4 : Int32) (v5 : Int64) (v8 : Int32) (v9 : Int32), DX10_amountOf_247 N f v0 v2 v3 v4 v5 v8 v9 = some r → V l g (fun _ => True) (RX10, cX10_amountOf, 11, (Option.some Jvm.ClassFile.FieldType.long), [], "amountOf") 1 (roL (.inl r) f sz) 247 [(0, .ref v0), (2, .int v2), (3, .int v3), (4, .int v4), (5, .long v5), (8, .int v8), (9, .int v9)] [] f sz 0 0 := by
  intro v0 v2 v3 v4 v5 v8 v9 h
  unfold DX10_amountOf_247 at h
  refine v_iload dX10_amountOf_247 rfl ?_
  refine v_istore (ls1 := [(10, .int v9), (0, .ref v0), (2, .int v2), (3, .int v3), (4, .int v4), (5, .long v5), (8, .int v8), (9, .int v9)]) dX10_amountOf_249 (by decide) rfl ?_
  exact v_sub (vs_c rfl (vs_c rfl (vs_c rfl (vs_c rfl (vs_c rfl (vs_c rfl (vs_c rfl vs_n))))))) (tX10_amountOf_251 N f N v0 v2 v3 v4 v5 v8 v9 h)

set_option maxRecDepth 20000 in
theorem tX10_amountOf_245 {l : Launch} {g : GT} {sz : Option Nat} (N : Nat) (f : HF)  {r : Int64} : ∀ (v0 : Nat) (v2 : Int32) (v3 : Int32) (v4 : Int32) (v5 : Int64) (v9 : Int32) (s0 : Int32), DX10_amountOf_245 N f v0 v2 v3 v4 v5 v9 s0 = some r → V l g (fun _ => True) (RX10, cX10_amountOf, 11, (Option.some Jvm.ClassFile.FieldType.long), [], "amountOf") 1 (roL (.inl r) f sz) 245 [(0, .ref v0), (2, .int v2), (3, .int v3), (4, .int v4), (5, .long v5), (9, .int v9)] [.int s0] f sz 0 0 := by
  intro v0 v2 v3 v4 v5 v9 s0 h
  unfold DX10_amountOf_245 at h
  refine v_istore (ls1 := [(8, .int s0), (0, .ref v0), (2, .int v2), (3, .int v3), (4, .int v4), (5, .long v5), (9, .int v9)]) dX10_amountOf_245 (by decide) rfl ?_
  exact v_sub (vs_c rfl (vs_c rfl (vs_c rfl (vs_c rfl (vs_c rfl (vs_c rfl (vs_c rfl vs_n))))))) (tX10_amountOf_247 N f v0 v2 v3 v4 v5 s0 v9 h)

set_option maxRecDepth 20000 in
theorem tX10_amountOf_244 {l : Launch} {g : GT} {sz : Option Nat} (N : Nat) (f : HF)  {r : Int64} : ∀ (v0 : Nat) (v2 : Int32) (v3 : Int32) (v4 : Int32) (v5 : Int64) (v9 : Int32), DX10_amountOf_244 N f v0 v2 v3 v4 v5 v9 = some r → V l g (fun _ => True) (RX10, cX10_amountOf, 11, (Option.some Jvm.ClassFile.FieldType.long), [], "amountOf") 1 (roL (.inl r) f sz) 244 [(0, .ref v0), (2, .int v2), (3, .int v3), (4, .int v4), (5, .long v5), (9, .int v9)] [] f sz 0 0 := by
  intro v0 v2 v3 v4 v5 v9 h
  unfold DX10_amountOf_244 at h
  refine v_iconst (v := 0) dX10_amountOf_244 (by decide) ?_
  exact v_sub (vs_c rfl (vs_c rfl (vs_c rfl (vs_c rfl (vs_c rfl (vs_c rfl vs_n)))))) (tX10_amountOf_245 N f v0 v2 v3 v4 v5 v9 (0 : Int32) h)

set_option maxRecDepth 20000 in
theorem tX10_amountOf_224 {l : Launch} {g : GT} {sz : Option Nat} (N : Nat) (f : HF)  {r : Int64} : ∀ (v0 : Nat) (v2 : Int32) (v3 : Int32) (v4 : Int32) (v5 : Int64) (v8 : Int32) (v9 : Int32), DX10_amountOf_224 N f v0 v2 v3 v4 v5 v8 v9 = some r → V l g (fun _ => True) (RX10, cX10_amountOf, 11, (Option.some Jvm.ClassFile.FieldType.long), [], "amountOf") 1 (roL (.inl r) f sz) 224 [(0, .ref v0), (2, .int v2), (3, .int v3), (4, .int v4), (5, .long v5), (8, .int v8), (9, .int v9)] [] f sz 0 0 := by
  intro v0 v2 v3 v4 v5 v8 v9 h
  unfold DX10_amountOf_224 at h
  refine v_iload dX10_amountOf_224 rfl ?_
  refine v_if_eq (tgt := 244) dX10_amountOf_226 (by decide) (fun c17 => ?_) (fun c17 => ?_)
  · replace h := ip_ c17 h
    exact v_sub (vs_c rfl (vs_c rfl (vs_c rfl (vs_c rfl (vs_c rfl (vs_c rfl vs_n)))))) (tX10_amountOf_244 N f v0 v2 v3 v4 v5 v9 h)
  · replace h := in_ c17 h
    refine v_iload dX10_amountOf_229 rfl ?_
    refine v_if_le (tgt := 244) dX10_amountOf_231 (by decide) (fun c16 => ?_) (fun c16 => ?_)
    · replace h := ip_ c16 h
      exact v_sub (vs_c rfl (vs_c rfl (vs_c rfl (vs_c rfl (vs_c rfl (vs_c rfl vs_n)))))) (tX10_amountOf_244 N f v0 v2 v3 v4 v5 v9 h)
    · replace h := in_ c16 h
      refine v_iload dX10_amountOf_234 rfl ?_
      refine v_iconst (v := 4) dX10_amountOf_236 (by decide) ?_
      refine v_icmp_ge (tgt := 244) dX10_amountOf_237 (by decide) (fun c15 => ?_) (fun c15 => ?_)
      · replace h := ip_ c15 h
        exact v_sub (vs_c rfl (vs_c rfl (vs_c rfl (vs_c rfl (vs_c rfl (vs_c rfl vs_n)))))) (tX10_amountOf_244 N f v0 v2 v3 v4 v5 v9 h)
      · replace h := in_ c15 h
        refine v_iconst (v := 1) dX10_amountOf_240 (by decide) ?_
        refine v_goto (tgt := 245) dX10_amountOf_241 (by decide) ?_
        exact v_sub (vs_c rfl (vs_c rfl (vs_c rfl (vs_c rfl (vs_c rfl (vs_c rfl vs_n)))))) (tX10_amountOf_245 N f v0 v2 v3 v4 v5 v9 (1 : Int32) h)

set_option maxRecDepth 20000 in
theorem tX10_amountOf_168 {l : Launch} {g : GT} {sz : Option Nat} (N : Nat) (f : HF)  {r : Int64} : ∀ (n : Nat), ∀ (v0 : Nat) (v2 : Int32) (v3 : Int32) (v4 : Int32) (v5 : Int64) (v8 : Int32) (v9 : Int32), DX10_amountOf_168 N f n v0 v2 v3 v4 v5 v8 v9 = some r → V l g (fun _ => True) (RX10, cX10_amountOf, 11, (Option.some Jvm.ClassFile.FieldType.long), [], "amountOf") 1 (roL (.inl r) f sz) 168 [(0, .ref v0), (2, .int v2), (3, .int v3), (4, .int v4), (5, .long v5), (8, .int v8), (9, .int v9)] [] f sz 0 0 := by
  intro n
  induction n with
  | zero => intro v0 v2 v3 v4 v5 v8 v9 h; cases h
  | succ n ih =>
    intro v0 v2 v3 v4 v5 v8 v9 h
    rw [DX10_amountOf_168] at h
    refine v_iload dX10_amountOf_168 rfl ?_
    refine v_iload_n dX10_amountOf_170 rfl rfl ?_
    refine v_icmp_ge (tgt := 224) dX10_amountOf_171 (by decide) (fun c25 => ?_) (fun c25 => ?_)
    · replace h := ip_ c25 h
      exact v_sub (vs_c rfl (vs_c rfl (vs_c rfl (vs_c rfl (vs_c rfl (vs_c rfl (vs_c rfl vs_n))))))) (tX10_amountOf_224 N f v0 v2 v3 v4 v5 v8 v9 h)
    · replace h := in_ c25 h
      refine v_aload_n dX10_amountOf_174 rfl rfl ?_
      obtain ⟨x18, hx18, h⟩ := ob_some h
      refine v_getR dX10_amountOf_175 fl_X10_35 hx18 ?_
      refine v_iload dX10_amountOf_178 rfl ?_
      obtain ⟨x19, hx19, h⟩ := ob_some h
      refine v_iald dX10_amountOf_180 hx19 ?_
      refine v_i2l dX10_amountOf_181 ?_
      refine v_ldc2 dX10_amountOf_182 kc_X10_172 ?_
      refine v_ldc2 dX10_amountOf_185 kc_X10_174 ?_
      obtain ⟨x20, hx21, h⟩ := ob_some h
      have ehx21 := tX10_isIn (l := l) (g := g) (sz := sz) N (x19.toInt64) (48 : Int64) (57 : Int64) f hx21
      refine v_cSI dX10_amountOf_188 ml_X10_115 ok_X10_isIn ehx21 (by decide) rfl (rest := []) rfl (Nat.le_of_ble_eq_true rfl) ?_
      refine v_if_eq (tgt := 224) dX10_amountOf_191 (by decide) (fun c24 => ?_) (fun c24 => ?_)
      · replace h := ip_ c24 h
        exact v_sub (vs_c rfl (vs_c rfl (vs_c rfl (vs_c rfl (vs_c rfl (vs_c rfl (vs_c rfl vs_n))))))) (tX10_amountOf_224 N f v0 v2 v3 v4 v5 v8 v9 h)
      · replace h := in_ c24 h
        refine v_ldc2 dX10_amountOf_194 kc_X10_176 ?_
        refine v_lload dX10_amountOf_197 rfl ?_
        refine v_lmul dX10_amountOf_199 ?_
        refine v_aload_n dX10_amountOf_200 rfl rfl ?_
        obtain ⟨x22, hx22, h⟩ := ob_some h
        refine v_getR dX10_amountOf_201 fl_X10_35 hx22 ?_
        refine v_iload dX10_amountOf_204 rfl ?_
        obtain ⟨x23, hx23, h⟩ := ob_some h
        refine v_iald dX10_amountOf_206 hx23 ?_
        refine v_i2l dX10_amountOf_207 ?_
        refine v_ladd dX10_amountOf_208 ?_
        refine v_ldc2 dX10_amountOf_209 kc_X10_172 ?_
        refine v_lsub dX10_amountOf_212 ?_
        refine v_lstore (ls1 := [(5, .long ((((10 : Int64) * v5) + (x23.toInt64)) - (48 : Int64))), (0, .ref v0), (2, .int v2), (3, .int v3), (4, .int v4), (8, .int v8), (9, .int v9)]) dX10_amountOf_213 (by decide) rfl ?_
        refine v_iinc (v := (v9 + 1)) (ls1 := [(9, .int (v9 + 1)), (5, .long ((((10 : Int64) * v5) + (x23.toInt64)) - (48 : Int64))), (0, .ref v0), (2, .int v2), (3, .int v3), (4, .int v4), (8, .int v8)]) dX10_amountOf_215 rfl rfl (by decide) rfl ?_
        refine v_iinc (v := (v4 + 1)) (ls1 := [(4, .int (v4 + 1)), (9, .int (v9 + 1)), (5, .long ((((10 : Int64) * v5) + (x23.toInt64)) - (48 : Int64))), (0, .ref v0), (2, .int v2), (3, .int v3), (8, .int v8)]) dX10_amountOf_218 rfl rfl (by decide) rfl ?_
        refine v_goto (tgt := 168) dX10_amountOf_221 (by decide) ?_
        exact v_sub (vs_c rfl (vs_c rfl (vs_c rfl (vs_c rfl (vs_c rfl (vs_c rfl (vs_c rfl vs_n))))))) (ih v0 v2 v3 (v4 + 1) ((((10 : Int64) * v5) + (x23.toInt64)) - (48 : Int64)) v8 (v9 + 1) h)

set_option maxRecDepth 20000 in
theorem tX10_amountOf_142 {l : Launch} {g : GT} {sz : Option Nat} (N : Nat) (f : HF)  {r : Int64} : ∀ (v0 : Nat) (v2 : Int32) (v3 : Int32) (v4 : Int32) (v5 : Int64) (s0 : Int32), DX10_amountOf_142 N f v0 v2 v3 v4 v5 s0 = some r → V l g (fun _ => True) (RX10, cX10_amountOf, 11, (Option.some Jvm.ClassFile.FieldType.long), [], "amountOf") 1 (roL (.inl r) f sz) 142 [(0, .ref v0), (2, .int v2), (3, .int v3), (4, .int v4), (5, .long v5)] [.int s0] f sz 0 0 := by
  intro v0 v2 v3 v4 v5 s0 h
  unfold DX10_amountOf_142 at h
  refine v_istore (ls1 := [(8, .int s0), (0, .ref v0), (2, .int v2), (3, .int v3), (4, .int v4), (5, .long v5)]) dX10_amountOf_142 (by decide) rfl ?_
  refine v_iconst (v := 0) dX10_amountOf_144 (by decide) ?_
  refine v_istore (ls1 := [(9, .int (0 : Int32)), (8, .int s0), (0, .ref v0), (2, .int v2), (3, .int v3), (4, .int v4), (5, .long v5)]) dX10_amountOf_145 (by decide) rfl ?_
  refine v_iload dX10_amountOf_147 rfl ?_
  refine v_iload_n dX10_amountOf_149 rfl rfl ?_
  refine v_icmp_ge (tgt := 247) dX10_amountOf_150 (by decide) (fun c27 => ?_) (fun c27 => ?_)
  · replace h := ip_ c27 h
    exact v_sub (vs_c rfl (vs_c rfl (vs_c rfl (vs_c rfl (vs_c rfl (vs_c rfl (vs_c rfl vs_n))))))) (tX10_amountOf_247 N f v0 v2 v3 v4 v5 s0 (0 : Int32) h)
  · replace h := in_ c27 h
    refine v_aload_n dX10_amountOf_153 rfl rfl ?_
    obtain ⟨x13, hx13, h⟩ := ob_some h
    refine v_getR dX10_amountOf_154 fl_X10_35 hx13 ?_
    refine v_iload dX10_amountOf_157 rfl ?_
    obtain ⟨x14, hx14, h⟩ := ob_some h
    refine v_iald dX10_amountOf_159 hx14 ?_
    refine v_bipush (v := 46) dX10_amountOf_160 (by decide) ?_
    refine v_icmp_ne (tgt := 247) dX10_amountOf_162 (by decide) (fun c26 => ?_) (fun c26 => ?_)
    · replace h := in_ c26 h
      exact v_sub (vs_c rfl (vs_c rfl (vs_c rfl (vs_c rfl (vs_c rfl (vs_c rfl (vs_c rfl vs_n))))))) (tX10_amountOf_247 N f v0 v2 v3 v4 v5 s0 (0 : Int32) h)
    · replace h := ip_ c26 h
      refine v_iinc (v := (v4 + 1)) (ls1 := [(4, .int (v4 + 1)), (9, .int (0 : Int32)), (8, .int s0), (0, .ref v0), (2, .int v2), (3, .int v3), (5, .long v5)]) dX10_amountOf_165 rfl rfl (by decide) rfl ?_
      exact v_sub (vs_c rfl (vs_c rfl (vs_c rfl (vs_c rfl (vs_c rfl (vs_c rfl (vs_c rfl vs_n))))))) (tX10_amountOf_168 N f N v0 v2 v3 (v4 + 1) v5 s0 (0 : Int32) h)

set_option maxRecDepth 20000 in
theorem tX10_amountOf_141 {l : Launch} {g : GT} {sz : Option Nat} (N : Nat) (f : HF)  {r : Int64} : ∀ (v0 : Nat) (v2 : Int32) (v3 : Int32) (v4 : Int32) (v5 : Int64), DX10_amountOf_141 N f v0 v2 v3 v4 v5 = some r → V l g (fun _ => True) (RX10, cX10_amountOf, 11, (Option.some Jvm.ClassFile.FieldType.long), [], "amountOf") 1 (roL (.inl r) f sz) 141 [(0, .ref v0), (2, .int v2), (3, .int v3), (4, .int v4), (5, .long v5)] [] f sz 0 0 := by
  intro v0 v2 v3 v4 v5 h
  unfold DX10_amountOf_141 at h
  refine v_iconst (v := 0) dX10_amountOf_141 (by decide) ?_
  exact v_sub (vs_c rfl (vs_c rfl (vs_c rfl (vs_c rfl (vs_c rfl vs_n))))) (tX10_amountOf_142 N f v0 v2 v3 v4 v5 (0 : Int32) h)

set_option maxRecDepth 20000 in
theorem tX10_amountOf_125 {l : Launch} {g : GT} {sz : Option Nat} (N : Nat) (f : HF)  {r : Int64} : ∀ (v0 : Nat) (v2 : Int32) (v3 : Int32) (v4 : Int32) (v5 : Int64) (v7 : Int32), DX10_amountOf_125 N f v0 v2 v3 v4 v5 v7 = some r → V l g (fun _ => True) (RX10, cX10_amountOf, 11, (Option.some Jvm.ClassFile.FieldType.long), [], "amountOf") 1 (roL (.inl r) f sz) 125 [(0, .ref v0), (2, .int v2), (3, .int v3), (4, .int v4), (5, .long v5), (7, .int v7)] [] f sz 0 0 := by
  intro v0 v2 v3 v4 v5 v7 h
  unfold DX10_amountOf_125 at h
  refine v_iload dX10_amountOf_125 rfl ?_
  refine v_if_le (tgt := 141) dX10_amountOf_127 (by decide) (fun c29 => ?_) (fun c29 => ?_)
  · replace h := ip_ c29 h
    exact v_sub (vs_c rfl (vs_c rfl (vs_c rfl (vs_c rfl (vs_c rfl vs_n))))) (tX10_amountOf_141 N f v0 v2 v3 v4 v5 h)
  · replace h := in_ c29 h
    refine v_iload dX10_amountOf_130 rfl ?_
    refine v_bipush (v := 10) dX10_amountOf_132 (by decide) ?_
    refine v_icmp_ge (tgt := 141) dX10_amountOf_134 (by decide) (fun c28 => ?_) (fun c28 => ?_)
    · replace h := ip_ c28 h
      exact v_sub (vs_c rfl (vs_c rfl (vs_c rfl (vs_c rfl (vs_c rfl vs_n))))) (tX10_amountOf_141 N f v0 v2 v3 v4 v5 h)
    · replace h := in_ c28 h
      refine v_iconst (v := 1) dX10_amountOf_137 (by decide) ?_
      refine v_goto (tgt := 142) dX10_amountOf_138 (by decide) ?_
      exact v_sub (vs_c rfl (vs_c rfl (vs_c rfl (vs_c rfl (vs_c rfl vs_n))))) (tX10_amountOf_142 N f v0 v2 v3 v4 v5 (1 : Int32) h)

set_option maxRecDepth 20000 in
theorem tX10_amountOf_69 {l : Launch} {g : GT} {sz : Option Nat} (N : Nat) (f : HF)  {r : Int64} : ∀ (n : Nat), ∀ (v0 : Nat) (v2 : Int32) (v3 : Int32) (v4 : Int32) (v5 : Int64) (v7 : Int32), DX10_amountOf_69 N f n v0 v2 v3 v4 v5 v7 = some r → V l g (fun _ => True) (RX10, cX10_amountOf, 11, (Option.some Jvm.ClassFile.FieldType.long), [], "amountOf") 1 (roL (.inl r) f sz) 69 [(0, .ref v0), (2, .int v2), (3, .int v3), (4, .int v4), (5, .long v5), (7, .int v7)] [] f sz 0 0 := by
  intro n
  induction n with
  | zero => intro v0 v2 v3 v4 v5 v7 h; cases h
  | succ n ih =>
    intro v0 v2 v3 v4 v5 v7 h
    rw [DX10_amountOf_69] at h
    refine v_iload dX10_amountOf_69 rfl ?_
    refine v_iload_n dX10_amountOf_71 rfl rfl ?_
    refine v_icmp_ge (tgt := 125) dX10_amountOf_72 (by decide) (fun c37 => ?_) (fun c37 => ?_)
    · replace h := ip_ c37 h
      exact v_sub (vs_c rfl (vs_c rfl (vs_c rfl (vs_c rfl (vs_c rfl (vs_c rfl vs_n)))))) (tX10_amountOf_125 N f v0 v2 v3 v4 v5 v7 h)
    · replace h := in_ c37 h
      refine v_aload_n dX10_amountOf_75 rfl rfl ?_
      obtain ⟨x30, hx30, h⟩ := ob_some h
      refine v_getR dX10_amountOf_76 fl_X10_35 hx30 ?_
      refine v_iload dX10_amountOf_79 rfl ?_
      obtain ⟨x31, hx31, h⟩ := ob_some h
      refine v_iald dX10_amountOf_81 hx31 ?_
      refine v_i2l dX10_amountOf_82 ?_
      refine v_ldc2 dX10_amountOf_83 kc_X10_172 ?_
      refine v_ldc2 dX10_amountOf_86 kc_X10_174 ?_
      obtain ⟨x32, hx33, h⟩ := ob_some h
      have ehx33 := tX10_isIn (l := l) (g := g) (sz := sz) N (x31.toInt64) (48 : Int64) (57 : Int64) f hx33
      refine v_cSI dX10_amountOf_89 ml_X10_115 ok_X10_isIn ehx33 (by decide) rfl (rest := []) rfl (Nat.le_of_ble_eq_true rfl) ?_
      refine v_if_eq (tgt := 125) dX10_amountOf_92 (by decide) (fun c36 => ?_) (fun c36 => ?_)
      · replace h := ip_ c36 h
        exact v_sub (vs_c rfl (vs_c rfl (vs_c rfl (vs_c rfl (vs_c rfl (vs_c rfl vs_n)))))) (tX10_amountOf_125 N f v0 v2 v3 v4 v5 v7 h)
      · replace h := in_ c36 h
        refine v_ldc2 dX10_amountOf_95 kc_X10_176 ?_
        refine v_lload dX10_amountOf_98 rfl ?_
        refine v_lmul dX10_amountOf_100 ?_
        refine v_aload_n dX10_amountOf_101 rfl rfl ?_
        obtain ⟨x34, hx34, h⟩ := ob_some h
        refine v_getR dX10_amountOf_102 fl_X10_35 hx34 ?_
        refine v_iload dX10_amountOf_105 rfl ?_
        obtain ⟨x35, hx35, h⟩ := ob_some h
        refine v_iald dX10_amountOf_107 hx35 ?_
        refine v_i2l dX10_amountOf_108 ?_
        refine v_ladd dX10_amountOf_109 ?_
        refine v_ldc2 dX10_amountOf_110 kc_X10_172 ?_
        refine v_lsub dX10_amountOf_113 ?_
        refine v_lstore (ls1 := [(5, .long ((((10 : Int64) * v5) + (x35.toInt64)) - (48 : Int64))), (0, .ref v0), (2, .int v2), (3, .int v3), (4, .int v4), (7, .int v7)]) dX10_amountOf_114 (by decide) rfl ?_
        refine v_iinc (v := (v7 + 1)) (ls1 := [(7, .int (v7 + 1)), (5, .long ((((10 : Int64) * v5) + (x35.toInt64)) - (48 : Int64))), (0, .ref v0), (2, .int v2), (3, .int v3), (4, .int v4)]) dX10_amountOf_116 rfl rfl (by decide) rfl ?_
        refine v_iinc (v := (v4 + 1)) (ls1 := [(4, .int (v4 + 1)), (7, .int (v7 + 1)), (5, .long ((((10 : Int64) * v5) + (x35.toInt64)) - (48 : Int64))), (0, .ref v0), (2, .int v2), (3, .int v3)]) dX10_amountOf_119 rfl rfl (by decide) rfl ?_
        refine v_goto (tgt := 69) dX10_amountOf_122 (by decide) ?_
        exact v_sub (vs_c rfl (vs_c rfl (vs_c rfl (vs_c rfl (vs_c rfl (vs_c rfl vs_n)))))) (ih v0 v2 v3 (v4 + 1) ((((10 : Int64) * v5) + (x35.toInt64)) - (48 : Int64)) (v7 + 1) h)

set_option maxRecDepth 20000 in
theorem tX10_amountOf_61 {l : Launch} {g : GT} {sz : Option Nat} (N : Nat) (f : HF)  {r : Int64} : ∀ (v0 : Nat) (v2 : Int32) (v3 : Int32) (s0 : Int32), DX10_amountOf_61 N f v0 v2 v3 s0 = some r → V l g (fun _ => True) (RX10, cX10_amountOf, 11, (Option.some Jvm.ClassFile.FieldType.long), [], "amountOf") 1 (roL (.inl r) f sz) 61 [(0, .ref v0), (2, .int v2), (3, .int v3)] [.int s0] f sz 0 0 := by
  intro v0 v2 v3 s0 h
  unfold DX10_amountOf_61 at h
  refine v_istore (ls1 := [(4, .int s0), (0, .ref v0), (2, .int v2), (3, .int v3)]) dX10_amountOf_61 (by decide) rfl ?_
  refine v_lconst (v := 0) dX10_amountOf_63 (by decide) ?_
  refine v_lstore (ls1 := [(5, .long (0 : Int64)), (4, .int s0), (0, .ref v0), (2, .int v2), (3, .int v3)]) dX10_amountOf_64 (by decide) rfl ?_
  refine v_iconst (v := 0) dX10_amountOf_66 (by decide) ?_
  refine v_istore (ls1 := [(7, .int (0 : Int32)), (5, .long (0 : Int64)), (4, .int s0), (0, .ref v0), (2, .int v2), (3, .int v3)]) dX10_amountOf_67 (by decide) rfl ?_
  exact v_sub (vs_c rfl (vs_c rfl (vs_c rfl (vs_c rfl (vs_c rfl (vs_c rfl vs_n)))))) (tX10_amountOf_69 N f N v0 v2 v3 s0 (0 : Int64) (0 : Int32) h)

set_option maxRecDepth 20000 in
theorem kX10_amountOf (N : Nat) (this : Nat) (p0 : Int32) (f : HF) {r : Int64} (h : DX10_amountOf N this p0 f = some r) : ck f this 9 = some () := by
  unfold DX10_amountOf at h
  obtain ⟨_, hck, _⟩ := ob_some h
  exact hck

set_option maxRecDepth 20000 in
theorem tX10_amountOf {l : Launch} {g : GT} {sz : Option Nat} (N : Nat) (this : Nat) (p0 : Int32) (f : HF) {r : Int64} (h : DX10_amountOf N this p0 f = some r) : Mt l g yX10_amountOf cX10_amountOf 11 (Option.some Jvm.ClassFile.FieldType.long) 1 [.ref this, .int p0] f sz (roL (.inl r) f sz) := by
  unfold DX10_amountOf at h
  obtain ⟨_, hck, h⟩ := ob_some h
  refine mt_of (by decide) (Nat.le_of_ble_eq_true rfl) (?_ : V l g (fun _ => True) (RX10, cX10_amountOf, 11, (Option.some Jvm.ClassFile.FieldType.long), [], "amountOf") 1 (roL (.inl r) f sz) 0 [(0, .ref this), (1, .int p0)] [] f sz 0 0)
  refine v_aload_n dX10_amountOf_0 rfl rfl ?_
  obtain ⟨x1, hx1, h⟩ := ob_some h
  refine v_getR dX10_amountOf_1 fl_X10_7 hx1 ?_
  refine v_iload_n dX10_amountOf_4 rfl rfl ?_
  obtain ⟨x2, hx2, h⟩ := ob_some h
  refine v_iald dX10_amountOf_5 hx2 ?_
  refine v_iconst (v := 2) dX10_amountOf_6 (by decide) ?_
  refine v_icmp_ne (tgt := 22) dX10_amountOf_7 (by decide) (fun c42 => ?_) (fun c42 => ?_)
  · replace h := in_ c42 h
    refine v_bipush (v := 30) dX10_amountOf_22 (by decide) ?_
    refine v_iload_n dX10_amountOf_24 rfl rfl ?_
    refine v_imul dX10_amountOf_25 ?_
    refine v_istore_n (ls1 := [(2, .int ((30 : Int32) * p0)), (0, .ref this), (1, .int p0)]) dX10_amountOf_26 rfl (by decide) rfl ?_
    refine v_iload_n dX10_amountOf_27 rfl rfl ?_
    refine v_aload_n dX10_amountOf_28 rfl rfl ?_
    obtain ⟨x3, hx3, h⟩ := ob_some h
    refine v_getR dX10_amountOf_29 fl_X10_38 hx3 ?_
    refine v_iload_n dX10_amountOf_32 rfl rfl ?_
    obtain ⟨x4, hx4, h⟩ := ob_some h
    refine v_iald dX10_amountOf_33 hx4 ?_
    refine v_iadd dX10_amountOf_34 ?_
    refine v_istore_n (ls1 := [(3, .int (((30 : Int32) * p0) + x4)), (2, .int ((30 : Int32) * p0)), (0, .ref this), (1, .int p0)]) dX10_amountOf_35 rfl (by decide) rfl ?_
    refine v_iload_n dX10_amountOf_36 rfl rfl ?_
    refine v_iload_n dX10_amountOf_37 rfl rfl ?_
    refine v_icmp_ne (tgt := 43) dX10_amountOf_38 (by decide) (fun c39 => ?_) (fun c39 => ?_)
    · replace h := in_ c39 h
      refine v_aload_n dX10_amountOf_43 rfl rfl ?_
      obtain ⟨x5, hx5, h⟩ := ob_some h
      refine v_getR dX10_amountOf_44 fl_X10_35 hx5 ?_
      refine v_iload_n dX10_amountOf_47 rfl rfl ?_
      obtain ⟨x6, hx6, h⟩ := ob_some h
      refine v_iald dX10_amountOf_48 hx6 ?_
      refine v_bipush (v := 45) dX10_amountOf_49 (by decide) ?_
      refine v_icmp_ne (tgt := 60) dX10_amountOf_51 (by decide) (fun c38 => ?_) (fun c38 => ?_)
      · replace h := in_ c38 h
        refine v_iload_n dX10_amountOf_60 rfl rfl ?_
        exact v_sub (vs_c rfl (vs_c rfl (vs_c rfl vs_n))) (tX10_amountOf_61 N f this ((30 : Int32) * p0) (((30 : Int32) * p0) + x4) ((30 : Int32) * p0) h)
      · replace h := ip_ c38 h
        refine v_iload_n dX10_amountOf_54 rfl rfl ?_
        refine v_iconst (v := 1) dX10_amountOf_55 (by decide) ?_
        refine v_iadd dX10_amountOf_56 ?_
        refine v_goto (tgt := 61) dX10_amountOf_57 (by decide) ?_
        exact v_sub (vs_c rfl (vs_c rfl (vs_c rfl vs_n))) (tX10_amountOf_61 N f this ((30 : Int32) * p0) (((30 : Int32) * p0) + x4) (((30 : Int32) * p0) + (1 : Int32)) h)
    · replace h := ip_ c39 h
      refine v_lconst (v := 0) dX10_amountOf_41 (by decide) ?_
      obtain rfl := Option.some.inj h
      exact v_lret dX10_amountOf_42 rfl rfl
  · replace h := ip_ c42 h
    refine v_ldc2 dX10_amountOf_10 kc_X10_170 ?_
    refine v_aload_n dX10_amountOf_13 rfl rfl ?_
    obtain ⟨x40, hx40, h⟩ := ob_some h
    refine v_getR dX10_amountOf_14 fl_X10_41 hx40 ?_
    refine v_iload_n dX10_amountOf_17 rfl rfl ?_
    obtain ⟨x41, hx41, h⟩ := ob_some h
    refine v_iald dX10_amountOf_18 hx41 ?_
    refine v_i2l dX10_amountOf_19 ?_
    refine v_lmul dX10_amountOf_20 ?_
    obtain rfl := Option.some.inj h
    exact v_lret dX10_amountOf_21 rfl rfl

/-! X10 put (W) -/
def DX10_put (N : Nat) (this : Nat) (p0 : Int32) (f : HF) : Option (Unit × HF) :=
  (ck f this 9).bind fun _ =>
  (gR f this 9 27).bind fun x1 =>
  (gI f this 9 28).bind fun x2 =>
  (sI f x1 0 x2 p0).bind fun f3 =>
  (gI f3 this 9 28).bind fun x4 =>
  (pV f3 this 9 28 (.int (x4 + (1 : Int32)))).bind fun f5 =>
  some ((), f5)

set_option maxRecDepth 20000 in
theorem kX10_put (N : Nat) (this : Nat) (p0 : Int32) (f : HF) {r : (Unit × HF)} (h : DX10_put N this p0 f = some r) : ck f this 9 = some () := by
  unfold DX10_put at h
  obtain ⟨_, hck, _⟩ := ob_some h
  exact hck

set_option maxRecDepth 20000 in
theorem tX10_put {l : Launch} {g : GT} {sz : Option Nat} (N : Nat) (this : Nat) (p0 : Int32) (f : HF) {r : (Unit × HF)} (h : DX10_put N this p0 f = some r) : Mt l g yX10_put cX10_put 2 (Option.none : Option Jvm.ClassFile.FieldType) 0 [.ref this, .int p0] f sz (roU (.inl r.1) r.2 sz) := by
  unfold DX10_put at h
  obtain ⟨_, hck, h⟩ := ob_some h
  refine mt_of (by decide) (Nat.le_of_ble_eq_true rfl) (?_ : V l g (fun _ => True) (RX10, cX10_put, 2, (Option.none : Option Jvm.ClassFile.FieldType), [], "put") 0 (roU (.inl r.1) r.2 sz) 0 [(0, .ref this), (1, .int p0)] [] f sz 0 0)
  refine v_aload_n dX10_put_0 rfl rfl ?_
  obtain ⟨x1, hx1, h⟩ := ob_some h
  refine v_getR dX10_put_1 fl_X10_84 hx1 ?_
  refine v_aload_n dX10_put_4 rfl rfl ?_
  obtain ⟨x2, hx2, h⟩ := ob_some h
  refine v_getI dX10_put_5 fl_X10_180 hx2 ?_
  refine v_iload_n dX10_put_8 rfl rfl ?_
  obtain ⟨f3, hf3, h⟩ := ob_some h
  refine v_iast dX10_put_9 hf3 ?_
  refine v_aload_n dX10_put_10 rfl rfl ?_
  refine v_dup dX10_put_11 rfl ?_
  obtain ⟨x4, hx4, h⟩ := ob_some h
  refine v_getI dX10_put_12 fl_X10_180 hx4 ?_
  refine v_iconst (v := 1) dX10_put_15 (by decide) ?_
  refine v_iadd dX10_put_16 ?_
  obtain ⟨f5, hf5, h⟩ := ob_some h
  refine v_pI dX10_put_17 fp_X10_180 hf5 ?_
  obtain rfl := Option.some.inj h
  exact v_vret dX10_put_20 rfl rfl

/-! X10 putNumber (W) -/
def DX10_putNumber_89 (N : Nat) (k35 : Nat → Int64 → Int32 → Int64 → Int32 → HF → Option (Unit × HF)) (v0 : Nat) (v1 : Int64) (v3 : Int32) (v4 : Int64) (v7 : Int32) (f : HF) : Option (Unit × HF) :=
    k35 v0 v1 v3 v4 (v7 + (-1)) f

def DX10_putNumber_35 (N : Nat)  (n : Nat) (v0 : Nat) (v1 : Int64) (v3 : Int32) (v4 : Int64) (v7 : Int32) (f : HF) : Option (Unit × HF) :=
  match n with
  | 0 => none
  | n + 1 =>
    if v7 ≤ 0 then
      some ((), f)
    else
      if ¬ v4 = 0 then
      bW (DX10_put N v0 ((((48 : Int64) + ((v1 / v4) - (v1 / v4) / (10 : Int64) * (10 : Int64)))).toInt32) f) fun x1 f3 =>
      if v3 = 0 then
        DX10_putNumber_89 N (DX10_putNumber_35 N n) v0 v1 v3 (v4 / (10 : Int64)) v7 f3
      else
        if v7 ≤ (1 : Int32) then
          DX10_putNumber_89 N (DX10_putNumber_35 N n) v0 v1 v3 (v4 / (10 : Int64)) v7 f3
        else
          if (v7 - v7 / (3 : Int32) * (3 : Int32)) = (1 : Int32) then
            bW (DX10_put N v0 (44 : Int32) f3) fun x4 f6 =>
            DX10_putNumber_89 N (DX10_putNumber_35 N n) v0 v1 v3 (v4 / (10 : Int64)) v7 f6
          else
            DX10_putNumber_89 N (DX10_putNumber_35 N n) v0 v1 v3 (v4 / (10 : Int64)) v7 f3
      else none

def DX10_putNumber_6 (N : Nat)  (n : Nat) (v0 : Nat) (v1 : Int64) (v3 : Int32) (v4 : Int64) (v6 : Int32) (f : HF) : Option (Unit × HF) :=
  match n with
  | 0 => none
  | n + 1 =>
    if ¬ v4 = 0 then
    if (v1 / v4) < (10 : Int64) then
      DX10_putNumber_35 N N v0 v1 v3 v4 v6 f
    else
      DX10_putNumber_6 N n v0 v1 v3 ((10 : Int64) * v4) (v6 + 1) f
    else none

def DX10_putNumber (N : Nat) (this : Nat) (p0 : Int64) (p1 : Int32) (f : HF) : Option (Unit × HF) :=
  (ck f this 9).bind fun _ =>
  DX10_putNumber_6 N N this p0 p1 (1 : Int64) (1 : Int32) f

set_option maxRecDepth 20000 in
theorem tX10_putNumber_89 {l : Launch} {g : GT} {sz : Option Nat} (N : Nat) (k35 : Nat → Int64 → Int32 → Int64 → Int32 → HF → Option (Unit × HF)) {r : (Unit × HF)} (hk35 : ∀ (w0 : Nat) (w1 : Int64) (w3 : Int32) (w4 : Int64) (w7 : Int32) (f : HF), k35 w0 w1 w3 w4 w7 f = some r → V l g (fun _ => True) (RX10, cX10_putNumber, 8, (Option.none : Option Jvm.ClassFile.FieldType), [], "putNumber") 1 (roU (.inl r.1) r.2 sz) 35 [(0, .ref w0), (1, .long w1), (3, .int w3), (4, .long w4), (7, .int w7)] [] f sz 0 0) : ∀ (v0 : Nat) (v1 : Int64) (v3 : Int32) (v4 : Int64) (v7 : Int32) (f : HF), DX10_putNumber_89 N k35 v0 v1 v3 v4 v7 f = some r → V l g (fun _ => True) (RX10, cX10_putNumber, 8, (Option.none : Option Jvm.ClassFile.FieldType), [], "putNumber") 1 (roU (.inl r.1) r.2 sz) 89 [(0, .ref v0), (1, .long v1), (3, .int v3), (4, .long v4), (7, .int v7)] [] f sz 0 0 := by
  intro v0 v1 v3 v4 v7 f h
  unfold DX10_putNumber_89 at h
  refine v_iinc (v := (v7 + (-1))) (ls1 := [(7, .int (v7 + (-1))), (0, .ref v0), (1, .long v1), (3, .int v3), (4, .long v4)]) dX10_putNumber_89 rfl rfl (by decide) rfl ?_
  refine v_goto (tgt := 35) dX10_putNumber_92 (by decide) ?_
  exact v_sub (vs_c rfl (vs_c rfl (vs_c rfl (vs_c rfl (vs_c rfl vs_n))))) (hk35 v0 v1 v3 v4 (v7 + (-1)) f h)

set_option maxRecDepth 20000 in
theorem tX10_putNumber_35 {l : Launch} {g : GT} {sz : Option Nat} (N : Nat)  {r : (Unit × HF)} : ∀ (n : Nat), ∀ (v0 : Nat) (v1 : Int64) (v3 : Int32) (v4 : Int64) (v7 : Int32) (f : HF), DX10_putNumber_35 N n v0 v1 v3 v4 v7 f = some r → V l g (fun _ => True) (RX10, cX10_putNumber, 8, (Option.none : Option Jvm.ClassFile.FieldType), [], "putNumber") 1 (roU (.inl r.1) r.2 sz) 35 [(0, .ref v0), (1, .long v1), (3, .int v3), (4, .long v4), (7, .int v7)] [] f sz 0 0 := by
  intro n
  induction n with
  | zero => intro v0 v1 v3 v4 v7 f h; cases h
  | succ n ih =>
    intro v0 v1 v3 v4 v7 f h
    rw [DX10_putNumber_35] at h
    refine v_iload dX10_putNumber_35 rfl ?_
    refine v_if_le (tgt := 95) dX10_putNumber_37 (by decide) (fun c10 => ?_) (fun c10 => ?_)
    · replace h := ip_ c10 h
      obtain rfl := Option.some.inj h
      exact v_vret dX10_putNumber_95 rfl rfl
    · replace h := in_ c10 h
      refine v_aload_n dX10_putNumber_40 rfl rfl ?_
      refine v_ldc2 dX10_putNumber_41 kc_X10_172 ?_
      refine v_lload_n dX10_putNumber_44 rfl rfl ?_
      refine v_lload dX10_putNumber_45 rfl ?_
      obtain ⟨hz, h⟩ := if_some h
      refine v_ldiv dX10_putNumber_47 hz ?_
      refine v_ldc2 dX10_putNumber_48 kc_X10_176 ?_
      refine v_lrem dX10_putNumber_51 (by decide) ?_
      refine v_ladd dX10_putNumber_52 ?_
      refine v_l2i dX10_putNumber_53 ?_
      obtain ⟨x1, f3, hx2, h⟩ := bW_some h
      have ehx2 := tX10_put (l := l) (g := g) (sz := sz) N v0 ((((48 : Int64) + ((v1 / v4) - (v1 / v4) / (10 : Int64) * (10 : Int64)))).toInt32) f hx2
      refine v_cVU dX10_putNumber_54 ml_X10_183 ok_X10_put ehx2 (kX10_put N v0 ((((48 : Int64) + ((v1 / v4) - (v1 / v4) / (10 : Int64) * (10 : Int64)))).toInt32) f hx2) rfl (by decide) rfl (rest := []) rfl (Nat.le_of_ble_eq_true rfl) ?_
      refine v_lload dX10_putNumber_57 rfl ?_
      refine v_ldc2 dX10_putNumber_59 kc_X10_176 ?_
      refine v_ldiv dX10_putNumber_62 (by decide) ?_
      refine v_lstore (ls1 := [(4, .long (v4 / (10 : Int64))), (0, .ref v0), (1, .long v1), (3, .int v3), (7, .int v7)]) dX10_putNumber_63 (by decide) rfl ?_
      refine v_iload_n dX10_putNumber_65 rfl rfl ?_
      refine v_if_eq (tgt := 89) dX10_putNumber_66 (by decide) (fun c9 => ?_) (fun c9 => ?_)
      · replace h := ip_ c9 h
        exact v_sub (vs_c rfl (vs_c rfl (vs_c rfl (vs_c rfl (vs_c rfl vs_n))))) (tX10_putNumber_89 N (DX10_putNumber_35 N n) ih v0 v1 v3 (v4 / (10 : Int64)) v7 f3 h)
      · replace h := in_ c9 h
        refine v_iload dX10_putNumber_69 rfl ?_
        refine v_iconst (v := 1) dX10_putNumber_71 (by decide) ?_
        refine v_icmp_le (tgt := 89) dX10_putNumber_72 (by decide) (fun c8 => ?_) (fun c8 => ?_)
        · replace h := ip_ c8 h
          exact v_sub (vs_c rfl (vs_c rfl (vs_c rfl (vs_c rfl (vs_c rfl vs_n))))) (tX10_putNumber_89 N (DX10_putNumber_35 N n) ih v0 v1 v3 (v4 / (10 : Int64)) v7 f3 h)
        · replace h := in_ c8 h
          refine v_iload dX10_putNumber_75 rfl ?_
          refine v_iconst (v := 3) dX10_putNumber_77 (by decide) ?_
          refine v_irem dX10_putNumber_78 (by decide) ?_
          refine v_iconst (v := 1) dX10_putNumber_79 (by decide) ?_
          refine v_icmp_ne (tgt := 89) dX10_putNumber_80 (by decide) (fun c7 => ?_) (fun c7 => ?_)
          · replace h := in_ c7 h
            exact v_sub (vs_c rfl (vs_c rfl (vs_c rfl (vs_c rfl (vs_c rfl vs_n))))) (tX10_putNumber_89 N (DX10_putNumber_35 N n) ih v0 v1 v3 (v4 / (10 : Int64)) v7 f3 h)
          · replace h := ip_ c7 h
            refine v_aload_n dX10_putNumber_83 rfl rfl ?_
            refine v_bipush (v := 44) dX10_putNumber_84 (by decide) ?_
            obtain ⟨x4, f6, hx5, h⟩ := bW_some h
            have ehx5 := tX10_put (l := l) (g := g) (sz := sz) N v0 (44 : Int32) f3 hx5
            refine v_cVU dX10_putNumber_86 ml_X10_183 ok_X10_put ehx5 (kX10_put N v0 (44 : Int32) f3 hx5) rfl (by decide) rfl (rest := []) rfl (Nat.le_of_ble_eq_true rfl) ?_
            exact v_sub (vs_c rfl (vs_c rfl (vs_c rfl (vs_c rfl (vs_c rfl vs_n))))) (tX10_putNumber_89 N (DX10_putNumber_35 N n) ih v0 v1 v3 (v4 / (10 : Int64)) v7 f6 h)

set_option maxRecDepth 20000 in
theorem tX10_putNumber_6 {l : Launch} {g : GT} {sz : Option Nat} (N : Nat)  {r : (Unit × HF)} : ∀ (n : Nat), ∀ (v0 : Nat) (v1 : Int64) (v3 : Int32) (v4 : Int64) (v6 : Int32) (f : HF), DX10_putNumber_6 N n v0 v1 v3 v4 v6 f = some r → V l g (fun _ => True) (RX10, cX10_putNumber, 8, (Option.none : Option Jvm.ClassFile.FieldType), [], "putNumber") 1 (roU (.inl r.1) r.2 sz) 6 [(0, .ref v0), (1, .long v1), (3, .int v3), (4, .long v4), (6, .int v6)] [] f sz 0 0 := by
  intro n
  induction n with
  | zero => intro v0 v1 v3 v4 v6 f h; cases h
  | succ n ih =>
    intro v0 v1 v3 v4 v6 f h
    rw [DX10_putNumber_6] at h
    refine v_lload_n dX10_putNumber_6 rfl rfl ?_
    refine v_lload dX10_putNumber_7 rfl ?_
    obtain ⟨hz, h⟩ := if_some h
    refine v_ldiv dX10_putNumber_9 hz ?_
    refine v_ldc2 dX10_putNumber_10 kc_X10_176 ?_
    refine v_lcmp_lt (tgt := 31) dX10_putNumber_13 dX10_putNumber_14 (by decide) (fun c11 => ?_) (fun c11 => ?_)
    · replace h := ip_ c11 h
      refine v_iload dX10_putNumber_31 rfl ?_
      refine v_istore (ls1 := [(7, .int v6), (0, .ref v0), (1, .long v1), (3, .int v3), (4, .long v4), (6, .int v6)]) dX10_putNumber_33 (by decide) rfl ?_
      exact v_sub (vs_c rfl (vs_c rfl (vs_c rfl (vs_c rfl (vs_c rfl vs_n))))) (tX10_putNumber_35 N N v0 v1 v3 v4 v6 f h)
    · replace h := in_ c11 h
      refine v_ldc2 dX10_putNumber_17 kc_X10_176 ?_
      refine v_lload dX10_putNumber_20 rfl ?_
      refine v_lmul dX10_putNumber_22 ?_
      refine v_lstore (ls1 := [(4, .long ((10 : Int64) * v4)), (0, .ref v0), (1, .long v1), (3, .int v3), (6, .int v6)]) dX10_putNumber_23 (by decide) rfl ?_
      refine v_iinc (v := (v6 + 1)) (ls1 := [(6, .int (v6 + 1)), (4, .long ((10 : Int64) * v4)), (0, .ref v0), (1, .long v1), (3, .int v3)]) dX10_putNumber_25 rfl rfl (by decide) rfl ?_
      refine v_goto (tgt := 6) dX10_putNumber_28 (by decide) ?_
      exact v_sub (vs_c rfl (vs_c rfl (vs_c rfl (vs_c rfl (vs_c rfl vs_n))))) (ih v0 v1 v3 ((10 : Int64) * v4) (v6 + 1) f h)

set_option maxRecDepth 20000 in
theorem kX10_putNumber (N : Nat) (this : Nat) (p0 : Int64) (p1 : Int32) (f : HF) {r : (Unit × HF)} (h : DX10_putNumber N this p0 p1 f = some r) : ck f this 9 = some () := by
  unfold DX10_putNumber at h
  obtain ⟨_, hck, _⟩ := ob_some h
  exact hck

set_option maxRecDepth 20000 in
theorem tX10_putNumber {l : Launch} {g : GT} {sz : Option Nat} (N : Nat) (this : Nat) (p0 : Int64) (p1 : Int32) (f : HF) {r : (Unit × HF)} (h : DX10_putNumber N this p0 p1 f = some r) : Mt l g yX10_putNumber cX10_putNumber 8 (Option.none : Option Jvm.ClassFile.FieldType) 1 [.ref this, .long p0, .int p1] f sz (roU (.inl r.1) r.2 sz) := by
  unfold DX10_putNumber at h
  obtain ⟨_, hck, h⟩ := ob_some h
  refine mt_of (by decide) (Nat.le_of_ble_eq_true rfl) (?_ : V l g (fun _ => True) (RX10, cX10_putNumber, 8, (Option.none : Option Jvm.ClassFile.FieldType), [], "putNumber") 1 (roU (.inl r.1) r.2 sz) 0 [(0, .ref this), (1, .long p0), (3, .int p1)] [] f sz 0 0)
  refine v_lconst (v := 1) dX10_putNumber_0 (by decide) ?_
  refine v_lstore (ls1 := [(4, .long (1 : Int64)), (0, .ref this), (1, .long p0), (3, .int p1)]) dX10_putNumber_1 (by decide) rfl ?_
  refine v_iconst (v := 1) dX10_putNumber_3 (by decide) ?_
  refine v_istore (ls1 := [(6, .int (1 : Int32)), (4, .long (1 : Int64)), (0, .ref this), (1, .long p0), (3, .int p1)]) dX10_putNumber_4 (by decide) rfl ?_
  exact v_sub (vs_c rfl (vs_c rfl (vs_c rfl (vs_c rfl (vs_c rfl vs_n))))) (tX10_putNumber_6 N N this p0 p1 (1 : Int64) (1 : Int32) f h)

