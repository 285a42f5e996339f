/-! X10 ring (W) -/
def DX10_ring_108 (N : Nat)  (n : Nat) (v0 : Nat) (v1 : Int32) (f : HF) : Option (Int32 × HF) :=
  match n with
  | 0 => none
  | n + 1 =>
    (gI f v0 9 1).bind fun x2 =>
    if x2 ≤ v1 then
      some ((-1 : Int32), f)
    else
      (gR f v0 9 23).bind fun x3 =>
      (aI f x3 2 ((41 : Int32) * v1)).bind fun x4 =>
      if x4 = 0 then
        DX10_ring_108 N n v0 (v1 + 1) f
      else
        some (v1, f)

def DX10_ring_94 (N : Nat) (k2 : Nat → Int32 → HF → Option (Int32 × HF)) (k12 : Nat → Int32 → Int32 → HF → Option (Int32 × HF)) (v0 : Nat) (v1 : Int32) (v2 : Int32) (f : HF) : Option (Int32 × HF) :=
    k12 v0 v1 (v2 + 1) f

def DX10_ring_87 (N : Nat) (k2 : Nat → Int32 → HF → Option (Int32 × HF)) (k12 : Nat → Int32 → Int32 → HF → Option (Int32 × HF)) (k22 : Nat → Int32 → Int32 → Int32 → HF → Option (Int32 × HF)) (v0 : Nat) (v1 : Int32) (v2 : Int32) (v3 : Int32) (s0 : Nat) (s1 : Int32) (s2 : Int32) (f : HF) : Option (Int32 × HF) :=
    if s2 = 0 ∨ s2 = 1 then
    (sI f s0 2 s1 s2).bind fun f14 =>
    k22 v0 v1 v2 (v3 + 1) f14
    else none

def DX10_ring_82 (N : Nat) (k2 : Nat → Int32 → HF → Option (Int32 × HF)) (k12 : Nat → Int32 → Int32 → HF → Option (Int32 × HF)) (k22 : Nat → Int32 → Int32 → Int32 → HF → Option (Int32 × HF)) (v0 : Nat) (v1 : Int32) (v2 : Int32) (v3 : Int32) (s0 : Nat) (s1 : Int32) (f : HF) : Option (Int32 × HF) :=
    DX10_ring_87 N k2 k12 k22 v0 v1 v2 v3 s0 s1 (1 : Int32) f

def DX10_ring_22 (N : Nat) (k2 : Nat → Int32 → HF → Option (Int32 × HF)) (k12 : Nat → Int32 → Int32 → HF → Option (Int32 × HF)) (n : Nat) (v0 : Nat) (v1 : Int32) (v2 : Int32) (v3 : Int32) (f : HF) : Option (Int32 × HF) :=
  match n with
  | 0 => none
  | n + 1 =>
    (gI f v0 9 1).bind fun x8 =>
    if x8 ≤ v3 then
      DX10_ring_94 N k2 k12 v0 v1 v2 f
    else
      (gR f v0 9 23).bind fun x9 =>
      (aI f x9 2 (((40 : Int32) * v2) + v1)).bind fun x10 =>
      if x10 = 0 then
        DX10_ring_94 N k2 k12 v0 v1 v2 f
      else
        (gR f v0 9 23).bind fun x11 =>
        (gR f v0 9 23).bind fun x12 =>
        (aI f x12 2 (((40 : Int32) * v2) + v3)).bind fun x13 =>
        if x13 = 0 then
          (gR f v0 9 23).bind fun x15 =>
          (aI f x15 2 (((40 : Int32) * v1) + v3)).bind fun x16 =>
          if x16 = 0 then
            DX10_ring_87 N k2 k12 (DX10_ring_22 N k2 k12 n) v0 v1 v2 v3 x11 (((40 : Int32) * v2) + v3) (0 : Int32) f
          else
            DX10_ring_82 N k2 k12 (DX10_ring_22 N k2 k12 n) v0 v1 v2 v3 x11 (((40 : Int32) * v2) + v3) f
        else
          DX10_ring_82 N k2 k12 (DX10_ring_22 N k2 k12 n) v0 v1 v2 v3 x11 (((40 : Int32) * v2) + v3) f

def DX10_ring_12 (N : Nat) (k2 : Nat → Int32 → HF → Option (Int32 × HF)) (n : Nat) (v0 : Nat) (v1 : Int32) (v2 : Int32) (f : HF) : Option (Int32 × HF) :=
  match n with
  | 0 => none
  | n + 1 =>
    (gI f v0 9 1).bind fun x7 =>
    if x7 ≤ v2 then
      k2 v0 (v1 + 1) f
    else
      DX10_ring_22 N k2 (DX10_ring_12 N k2 n) N v0 v1 v2 (0 : Int32) f

def DX10_ring_2 (N : Nat)  (n : Nat) (v0 : Nat) (v1 : Int32) (f : HF) : Option (Int32 × HF) :=
  match n with
  | 0 => none
  | n + 1 =>
    (gI f v0 9 1).bind fun x1 =>
    if x1 ≤ v1 then
      DX10_ring_108 N N v0 (0 : Int32) f
    else
      DX10_ring_12 N (DX10_ring_2 N n) N v0 v1 (0 : Int32) f

def DX10_ring (N : Nat) (this : Nat) (f : HF) : Option (Int32 × HF) :=
  (ck f this 9).bind fun _ =>
  DX10_ring_2 N N this (0 : Int32) f

set_option maxRecDepth 20000 in
theorem tX10_ring_108 {l : Launch} {g : GT} {sz : Option Nat} (N : Nat)  {r : (Int32 × HF)} : ∀ (n : Nat), ∀ (v0 : Nat) (v1 : Int32) (f : HF), DX10_ring_108 N n v0 v1 f = some r → V l g (fun _ => True) (RX10, cX10_ring, 4, (Option.some Jvm.ClassFile.FieldType.int), [], "ring") 0 (roI (.inl r.1) r.2 sz) 108 [(0, .ref v0), (1, .int v1)] [] f sz 0 0 := by
  intro n
  induction n with
  | zero => intro v0 v1 f h; cases h
  | succ n ih =>
    intro v0 v1 f h
    rw [DX10_ring_108] at h
    refine v_iload_n dX10_ring_108 rfl rfl ?_
    refine v_aload_n dX10_ring_109 rfl rfl ?_
    obtain ⟨x2, hx2, h⟩ := ob_some h
    refine v_getI dX10_ring_110 fl_X10_106 hx2 ?_
    refine v_icmp_ge (tgt := 136) dX10_ring_113 (by decide) (fun c6 => ?_) (fun c6 => ?_)
    · replace h := ip_ c6 h
      refine v_iconst (v := -1) dX10_ring_136 (by decide) ?_
      obtain rfl := Option.some.inj h
      exact v_iret dX10_ring_137 rfl rfl
    · replace h := in_ c6 h
      refine v_aload_n dX10_ring_116 rfl rfl ?_
      obtain ⟨x3, hx3, h⟩ := ob_some h
      refine v_getR dX10_ring_117 fl_X10_75 hx3 ?_
      refine v_bipush (v := 41) dX10_ring_120 (by decide) ?_
      refine v_iload_n dX10_ring_122 rfl rfl ?_
      refine v_imul dX10_ring_123 ?_
      obtain ⟨x4, hx4, h⟩ := ob_some h
      refine v_zald dX10_ring_124 hx4 ?_
      refine v_if_eq (tgt := 130) dX10_ring_125 (by decide) (fun c5 => ?_) (fun c5 => ?_)
      · replace h := ip_ c5 h
        refine v_iinc (v := (v1 + 1)) (ls1 := [(1, .int (v1 + 1)), (0, .ref v0)]) dX10_ring_130 rfl rfl (by decide) rfl ?_
        refine v_goto (tgt := 108) dX10_ring_133 (by decide) ?_
        exact v_sub (vs_c rfl (vs_c rfl vs_n)) (ih v0 (v1 + 1) f h)
      · replace h := in_ c5 h
        refine v_iload_n dX10_ring_128 rfl rfl ?_
        obtain rfl := Option.some.inj h
        exact v_iret dX10_ring_129 rfl rfl

set_option maxRecDepth 20000 in
theorem tX10_ring_94 {l : Launch} {g : GT} {sz : Option Nat} (N : Nat) (k2 : Nat → Int32 → HF → Option (Int32 × HF)) (k12 : Nat → Int32 → Int32 → HF → Option (Int32 × HF)) {r : (Int32 × HF)} (hk2 : ∀ (w0 : Nat) (w1 : Int32) (f : HF), k2 w0 w1 f = some r → V l g (fun _ => True) (RX10, cX10_ring, 4, (Option.some Jvm.ClassFile.FieldType.int), [], "ring") 0 (roI (.inl r.1) r.2 sz) 2 [(0, .ref w0), (1, .int w1)] [] f sz 0 0) (hk12 : ∀ (w0 : Nat) (w1 : Int32) (w2 : Int32) (f : HF), k12 w0 w1 w2 f = some r → V l g (fun _ => True) (RX10, cX10_ring, 4, (Option.some Jvm.ClassFile.FieldType.int), [], "ring") 0 (roI (.inl r.1) r.2 sz) 12 [(0, .ref w0), (1, .int w1), (2, .int w2)] [] f sz 0 0) : ∀ (v0 : Nat) (v1 : Int32) (v2 : Int32) (f : HF), DX10_ring_94 N k2 k12 v0 v1 v2 f = some r → V l g (fun _ => True) (RX10, cX10_ring, 4, (Option.some Jvm.ClassFile.FieldType.int), [], "ring") 0 (roI (.inl r.1) r.2 sz) 94 [(0, .ref v0), (1, .int v1), (2, .int v2)] [] f sz 0 0 := by
  intro v0 v1 v2 f h
  unfold DX10_ring_94 at h
  refine v_iinc (v := (v2 + 1)) (ls1 := [(2, .int (v2 + 1)), (0, .ref v0), (1, .int v1)]) dX10_ring_94 rfl rfl (by decide) rfl ?_
  refine v_goto (tgt := 12) dX10_ring_97 (by decide) ?_
  exact v_sub (vs_c rfl (vs_c rfl (vs_c rfl vs_n))) (hk12 v0 v1 (v2 + 1) f h)

set_option maxRecDepth 20000 in
theorem tX10_ring_87 {l : Launch} {g : GT} {sz : Option Nat} (N : Nat) (k2 : Nat → Int32 → HF → Option (Int32 × HF)) (k12 : Nat → Int32 → Int32 → HF → Option (Int32 × HF)) (k22 : Nat → Int32 → Int32 → Int32 → HF → Option (Int32 × HF)) {r : (Int32 × HF)} (hk2 : ∀ (w0 : Nat) (w1 : Int32) (f : HF), k2 w0 w1 f = some r → V l g (fun _ => True) (RX10, cX10_ring, 4, (Option.some Jvm.ClassFile.FieldType.int), [], "ring") 0 (roI (.inl r.1) r.2 sz) 2 [(0, .ref w0), (1, .int w1)] [] f sz 0 0) (hk12 : ∀ (w0 : Nat) (w1 : Int32) (w2 : Int32) (f : HF), k12 w0 w1 w2 f = some r → V l g (fun _ => True) (RX10, cX10_ring, 4, (Option.some Jvm.ClassFile.FieldType.int), [], "ring") 0 (roI (.inl r.1) r.2 sz) 12 [(0, .ref w0), (1, .int w1), (2, .int w2)] [] f sz 0 0) (hk22 : ∀ (w0 : Nat) (w1 : Int32) (w2 : Int32) (w3 : Int32) (f : HF), k22 w0 w1 w2 w3 f = some r → V l g (fun _ => True) (RX10, cX10_ring, 4, (Option.some Jvm.ClassFile.FieldType.int), [], "ring") 0 (roI (.inl r.1) r.2 sz) 22 [(0, .ref w0), (1, .int w1), (2, .int w2), (3, .int w3)] [] f sz 0 0) : ∀ (v0 : Nat) (v1 : Int32) (v2 : Int32) (v3 : Int32) (s0 : Nat) (s1 : Int32) (s2 : Int32) (f : HF), DX10_ring_87 N k2 k12 k22 v0 v1 v2 v3 s0 s1 s2 f = some r → V l g (fun _ => True) (RX10, cX10_ring, 4, (Option.some Jvm.ClassFile.FieldType.int), [], "ring") 0 (roI (.inl r.1) r.2 sz) 87 [(0, .ref v0), (1, .int v1), (2, .int v2), (3, .int v3)] [.int s2, .int s1, .ref s0] f sz 0 0 := by
  intro v0 v1 v2 v3 s0 s1 s2 f h
  unfold DX10_ring_87 at h
  obtain ⟨hB, h⟩ := if_some h
  obtain ⟨f14, hf14, h⟩ := ob_some h
  refine v_zast dX10_ring_87 hB hf14 ?_
  refine v_iinc (v := (v3 + 1)) (ls1 := [(3, .int (v3 + 1)), (0, .ref v0), (1, .int v1), (2, .int v2)]) dX10_ring_88 rfl rfl (by decide) rfl ?_
  refine v_goto (tgt := 22) dX10_ring_91 (by decide) ?_
  exact v_sub (vs_c rfl (vs_c rfl (vs_c rfl (vs_c rfl vs_n)))) (hk22 v0 v1 v2 (v3 + 1) f14 h)

set_option maxRecDepth 20000 in
theorem tX10_ring_82 {l : Launch} {g : GT} {sz : Option Nat} (N : Nat) (k2 : Nat → Int32 → HF → Option (Int32 × HF)) (k12 : Nat → Int32 → Int32 → HF → Option (Int32 × HF)) (k22 : Nat → Int32 → Int32 → Int32 → HF → Option (Int32 × HF)) {r : (Int32 × HF)} (hk2 : ∀ (w0 : Nat) (w1 : Int32) (f : HF), k2 w0 w1 f = some r → V l g (fun _ => True) (RX10, cX10_ring, 4, (Option.some Jvm.ClassFile.FieldType.int), [], "ring") 0 (roI (.inl r.1) r.2 sz) 2 [(0, .ref w0), (1, .int w1)] [] f sz 0 0) (hk12 : ∀ (w0 : Nat) (w1 : Int32) (w2 : Int32) (f : HF), k12 w0 w1 w2 f = some r → V l g (fun _ => True) (RX10, cX10_ring, 4, (Option.some Jvm.ClassFile.FieldType.int), [], "ring") 0 (roI (.inl r.1) r.2 sz) 12 [(0, .ref w0), (1, .int w1), (2, .int w2)] [] f sz 0 0) (hk22 : ∀ (w0 : Nat) (w1 : Int32) (w2 : Int32) (w3 : Int32) (f : HF), k22 w0 w1 w2 w3 f = some r → V l g (fun _ => True) (RX10, cX10_ring, 4, (Option.some Jvm.ClassFile.FieldType.int), [], "ring") 0 (roI (.inl r.1) r.2 sz) 22 [(0, .ref w0), (1, .int w1), (2, .int w2), (3, .int w3)] [] f sz 0 0) : ∀ (v0 : Nat) (v1 : Int32) (v2 : Int32) (v3 : Int32) (s0 : Nat) (s1 : Int32) (f : HF), DX10_ring_82 N k2 k12 k22 v0 v1 v2 v3 s0 s1 f = some r → V l g (fun _ => True) (RX10, cX10_ring, 4, (Option.some Jvm.ClassFile.FieldType.int), [], "ring") 0 (roI (.inl r.1) r.2 sz) 82 [(0, .ref v0), (1, .int v1), (2, .int v2), (3, .int v3)] [.int s1, .ref s0] f sz 0 0 := by
  intro v0 v1 v2 v3 s0 s1 f h
  unfold DX10_ring_82 at h
  refine v_iconst (v := 1) dX10_ring_82 (by decide) ?_
  refine v_goto (tgt := 87) dX10_ring_83 (by decide) ?_
  exact v_sub (vs_c rfl (vs_c rfl (vs_c rfl (vs_c rfl vs_n)))) (tX10_ring_87 N k2 k12 k22 hk2 hk12 hk22 v0 v1 v2 v3 s0 s1 (1 : Int32) f h)

set_option maxRecDepth 20000 in
theorem tX10_ring_22 {l : Launch} {g : GT} {sz : Option Nat} (N : Nat) (k2 : Nat → Int32 → HF → Option (Int32 × HF)) (k12 : Nat → Int32 → Int32 → HF → Option (Int32 × HF)) {r : (Int32 × HF)} (hk2 : ∀ (w0 : Nat) (w1 : Int32) (f : HF), k2 w0 w1 f = some r → V l g (fun _ => True) (RX10, cX10_ring, 4, (Option.some Jvm.ClassFile.FieldType.int), [], "ring") 0 (roI (.inl r.1) r.2 sz) 2 [(0, .ref w0), (1, .int w1)] [] f sz 0 0) (hk12 : ∀ (w0 : Nat) (w1 : Int32) (w2 : Int32) (f : HF), k12 w0 w1 w2 f = some r → V l g (fun _ => True) (RX10, cX10_ring, 4, (Option.some Jvm.ClassFile.FieldType.int), [], "ring") 0 (roI (.inl r.1) r.2 sz) 12 [(0, .ref w0), (1, .int w1), (2, .int w2)] [] f sz 0 0) : ∀ (n : Nat), ∀ (v0 : Nat) (v1 : Int32) (v2 : Int32) (v3 : Int32) (f : HF), DX10_ring_22 N k2 k12 n v0 v1 v2 v3 f = some r → V l g (fun _ => True) (RX10, cX10_ring, 4, (Option.some Jvm.ClassFile.FieldType.int), [], "ring") 0 (roI (.inl r.1) r.2 sz) 22 [(0, .ref v0), (1, .int v1), (2, .int v2), (3, .int v3)] [] f sz 0 0 := by
  intro n
  induction n with
  | zero => intro v0 v1 v2 v3 f h; cases h
  | succ n ih =>
    intro v0 v1 v2 v3 f h
    rw [DX10_ring_22] at h
    refine v_iload_n dX10_ring_22 rfl rfl ?_
    refine v_aload_n dX10_ring_23 rfl rfl ?_
    obtain ⟨x8, hx8, h⟩ := ob_some h
    refine v_getI dX10_ring_24 fl_X10_106 hx8 ?_
    refine v_icmp_ge (tgt := 94) dX10_ring_27 (by decide) (fun c20 => ?_) (fun c20 => ?_)
    · replace h := ip_ c20 h
      exact v_sub (vs_c rfl (vs_c rfl (vs_c rfl vs_n))) (tX10_ring_94 N k2 k12 hk2 hk12 v0 v1 v2 f h)
    · replace h := in_ c20 h
      refine v_aload_n dX10_ring_30 rfl rfl ?_
      obtain ⟨x9, hx9, h⟩ := ob_some h
      refine v_getR dX10_ring_31 fl_X10_75 hx9 ?_
      refine v_bipush (v := 40) dX10_ring_34 (by decide) ?_
      refine v_iload_n dX10_ring_36 rfl rfl ?_
      refine v_imul dX10_ring_37 ?_
      refine v_iload_n dX10_ring_38 rfl rfl ?_
      refine v_iadd dX10_ring_39 ?_
      obtain ⟨x10, hx10, h⟩ := ob_some h
      refine v_zald dX10_ring_40 hx10 ?_
      refine v_if_eq (tgt := 94) dX10_ring_41 (by decide) (fun c19 => ?_) (fun c19 => ?_)
      · replace h := ip_ c19 h
        exact v_sub (vs_c rfl (vs_c rfl (vs_c rfl vs_n))) (tX10_ring_94 N k2 k12 hk2 hk12 v0 v1 v2 f h)
      · replace h := in_ c19 h
        refine v_aload_n dX10_ring_44 rfl rfl ?_
        obtain ⟨x11, hx11, h⟩ := ob_some h
        refine v_getR dX10_ring_45 fl_X10_75 hx11 ?_
        refine v_bipush (v := 40) dX10_ring_48 (by decide) ?_
        refine v_iload_n dX10_ring_50 rfl rfl ?_
        refine v_imul dX10_ring_51 ?_
        refine v_iload_n dX10_ring_52 rfl rfl ?_
        refine v_iadd dX10_ring_53 ?_
        refine v_aload_n dX10_ring_54 rfl rfl ?_
        obtain ⟨x12, hx12, h⟩ := ob_some h
        refine v_getR dX10_ring_55 fl_X10_75 hx12 ?_
        refine v_bipush (v := 40) dX10_ring_58 (by decide) ?_
        refine v_iload_n dX10_ring_60 rfl rfl ?_
        refine v_imul dX10_ring_61 ?_
        refine v_iload_n dX10_ring_62 rfl rfl ?_
        refine v_iadd dX10_ring_63 ?_
        obtain ⟨x13, hx13, h⟩ := ob_some h
        refine v_zald dX10_ring_64 hx13 ?_
        refine v_if_ne (tgt := 82) dX10_ring_65 (by decide) (fun c18 => ?_) (fun c18 => ?_)
        · replace h := in_ c18 h
          exact v_sub (vs_c rfl (vs_c rfl (vs_c rfl (vs_c rfl vs_n)))) (tX10_ring_82 N k2 k12 (DX10_ring_22 N k2 k12 n) hk2 hk12 ih v0 v1 v2 v3 x11 (((40 : Int32) * v2) + v3) f h)
        · replace h := ip_ c18 h
          refine v_aload_n dX10_ring_68 rfl rfl ?_
          obtain ⟨x15, hx15, h⟩ := ob_some h
          refine v_getR dX10_ring_69 fl_X10_75 hx15 ?_
          refine v_bipush (v := 40) dX10_ring_72 (by decide) ?_
          refine v_iload_n dX10_ring_74 rfl rfl ?_
          refine v_imul dX10_ring_75 ?_
          refine v_iload_n dX10_ring_76 rfl rfl ?_
          refine v_iadd dX10_ring_77 ?_
          obtain ⟨x16, hx16, h⟩ := ob_some h
          refine v_zald dX10_ring_78 hx16 ?_
          refine v_if_eq (tgt := 86) dX10_ring_79 (by decide) (fun c17 => ?_) (fun c17 => ?_)
          · replace h := ip_ c17 h
            refine v_iconst (v := 0) dX10_ring_86 (by decide) ?_
            exact v_sub (vs_c rfl (vs_c rfl (vs_c rfl (vs_c rfl vs_n)))) (tX10_ring_87 N k2 k12 (DX10_ring_22 N k2 k12 n) hk2 hk12 ih v0 v1 v2 v3 x11 (((40 : Int32) * v2) + v3) (0 : Int32) f h)
          · replace h := in_ c17 h
            exact v_sub (vs_c rfl (vs_c rfl (vs_c rfl (vs_c rfl vs_n)))) (tX10_ring_82 N k2 k12 (DX10_ring_22 N k2 k12 n) hk2 hk12 ih v0 v1 v2 v3 x11 (((40 : Int32) * v2) + v3) f h)

set_option maxRecDepth 20000 in
theorem tX10_ring_12 {l : Launch} {g : GT} {sz : Option Nat} (N : Nat) (k2 : Nat → Int32 → HF → Option (Int32 × HF)) {r : (Int32 × HF)} (hk2 : ∀ (w0 : Nat) (w1 : Int32) (f : HF), k2 w0 w1 f = some r → V l g (fun _ => True) (RX10, cX10_ring, 4, (Option.some Jvm.ClassFile.FieldType.int), [], "ring") 0 (roI (.inl r.1) r.2 sz) 2 [(0, .ref w0), (1, .int w1)] [] f sz 0 0) : ∀ (n : Nat), ∀ (v0 : Nat) (v1 : Int32) (v2 : Int32) (f : HF), DX10_ring_12 N k2 n v0 v1 v2 f = some r → V l g (fun _ => True) (RX10, cX10_ring, 4, (Option.some Jvm.ClassFile.FieldType.int), [], "ring") 0 (roI (.inl r.1) r.2 sz) 12 [(0, .ref v0), (1, .int v1), (2, .int v2)] [] f sz 0 0 := by
  intro n
  induction n with
  | zero => intro v0 v1 v2 f h; cases h
  | succ n ih =>
    intro v0 v1 v2 f h
    rw [DX10_ring_12] at h
    refine v_iload_n dX10_ring_12 rfl rfl ?_
    refine v_aload_n dX10_ring_13 rfl rfl ?_
    obtain ⟨x7, hx7, h⟩ := ob_some h
    refine v_getI dX10_ring_14 fl_X10_106 hx7 ?_
    refine v_icmp_ge (tgt := 100) dX10_ring_17 (by decide) (fun c21 => ?_) (fun c21 => ?_)
    · replace h := ip_ c21 h
      refine v_iinc (v := (v1 + 1)) (ls1 := [(1, .int (v1 + 1)), (0, .ref v0), (2, .int v2)]) dX10_ring_100 rfl rfl (by decide) rfl ?_
      refine v_goto (tgt := 2) dX10_ring_103 (by decide) ?_
      exact v_sub (vs_c rfl (vs_c rfl vs_n)) (hk2 v0 (v1 + 1) f h)
    · replace h := in_ c21 h
      refine v_iconst (v := 0) dX10_ring_20 (by decide) ?_
      refine v_istore_n (ls1 := [(3, .int (0 : Int32)), (0, .ref v0), (1, .int v1), (2, .int v2)]) dX10_ring_21 rfl (by decide) rfl ?_
      exact v_sub (vs_c rfl (vs_c rfl (vs_c rfl (vs_c rfl vs_n)))) (tX10_ring_22 N k2 (DX10_ring_12 N k2 n) hk2 ih N v0 v1 v2 (0 : Int32) f h)

set_option maxRecDepth 20000 in
theorem tX10_ring_2 {l : Launch} {g : GT} {sz : Option Nat} (N : Nat)  {r : (Int32 × HF)} : ∀ (n : Nat), ∀ (v0 : Nat) (v1 : Int32) (f : HF), DX10_ring_2 N n v0 v1 f = some r → V l g (fun _ => True) (RX10, cX10_ring, 4, (Option.some Jvm.ClassFile.FieldType.int), [], "ring") 0 (roI (.inl r.1) r.2 sz) 2 [(0, .ref v0), (1, .int v1)] [] f sz 0 0 := by
  intro n
  induction n with
  | zero => intro v0 v1 f h; cases h
  | succ n ih =>
    intro v0 v1 f h
    rw [DX10_ring_2] at h
    refine v_iload_n dX10_ring_2 rfl rfl ?_
    refine v_aload_n dX10_ring_3 rfl rfl ?_
    obtain ⟨x1, hx1, h⟩ := ob_some h
    refine v_getI dX10_ring_4 fl_X10_106 hx1 ?_
    refine v_icmp_ge (tgt := 106) dX10_ring_7 (by decide) (fun c22 => ?_) (fun c22 => ?_)
    · replace h := ip_ c22 h
      refine v_iconst (v := 0) dX10_ring_106 (by decide) ?_
      refine v_istore_n (ls1 := [(1, .int (0 : Int32)), (0, .ref v0)]) dX10_ring_107 rfl (by decide) rfl ?_
      exact v_sub (vs_c rfl (vs_c rfl vs_n)) (tX10_ring_108 N N v0 (0 : Int32) f h)
    · replace h := in_ c22 h
      refine v_iconst (v := 0) dX10_ring_10 (by decide) ?_
      refine v_istore_n (ls1 := [(2, .int (0 : Int32)), (0, .ref v0), (1, .int v1)]) dX10_ring_11 rfl (by decide) rfl ?_
      exact v_sub (vs_c rfl (vs_c rfl (vs_c rfl vs_n))) (tX10_ring_12 N (DX10_ring_2 N n) ih N v0 v1 (0 : Int32) f h)

set_option maxRecDepth 20000 in
theorem kX10_ring (N : Nat) (this : Nat) (f : HF) {r : (Int32 × HF)} (h : DX10_ring N this f = some r) : ck f this 9 = some () := by
  unfold DX10_ring at h
  obtain ⟨_, hck, _⟩ := ob_some h
  exact hck

set_option maxRecDepth 20000 in
theorem tX10_ring {l : Launch} {g : GT} {sz : Option Nat} (N : Nat) (this : Nat) (f : HF) {r : (Int32 × HF)} (h : DX10_ring N this f = some r) : Mt l g yX10_ring cX10_ring 4 (Option.some Jvm.ClassFile.FieldType.int) 0 [.ref this] f sz (roI (.inl r.1) r.2 sz) := by
  unfold DX10_ring at h
  obtain ⟨_, hck, h⟩ := ob_some h
  refine mt_of (by decide) (Nat.le_of_ble_eq_true rfl) (?_ : V l g (fun _ => True) (RX10, cX10_ring, 4, (Option.some Jvm.ClassFile.FieldType.int), [], "ring") 0 (roI (.inl r.1) r.2 sz) 0 [(0, .ref this)] [] f sz 0 0)
  refine v_iconst (v := 0) dX10_ring_0 (by decide) ?_
  refine v_istore_n (ls1 := [(1, .int (0 : Int32)), (0, .ref this)]) dX10_ring_1 rfl (by decide) rfl ?_
  exact v_sub (vs_c rfl (vs_c rfl vs_n)) (tX10_ring_2 N N this (0 : Int32) f h)

/-! X10 group (R) -/
def DX10_group_83 (N : Nat) (f : HF) (k5 : Nat → Int32 → Int64 → Int32 → Option Int64) (v0 : Nat) (v1 : Int32) (v2 : Int64) (v4 : Int32) : Option Int64 :=
    k5 v0 v1 v2 (v4 + 1)

def DX10_group_82 (N : Nat) (f : HF) (k5 : Nat → Int32 → Int64 → Int32 → Option Int64) (v0 : Nat) (v1 : Int32) (v4 : Int32) (s0 : Int64) : Option Int64 :=
    DX10_group_83 N f k5 v0 v1 s0 v4

def DX10_group_72 (N : Nat) (f : HF) (k5 : Nat → Int32 → Int64 → Int32 → Option Int64) (v0 : Nat) (v1 : Int32) (v4 : Int32) : Option Int64 :=
    DX10_group_82 N f k5 v0 v1 v4 (9000000000000000000 : Int64)

def DX10_group_5 (N : Nat) (f : HF)  (n : Nat) (v0 : Nat) (v1 : Int32) (v2 : Int64) (v4 : Int32) : Option Int64 :=
  match n with
  | 0 => none
  | n + 1 =>
    (gI f v0 9 1).bind fun x1 =>
    if x1 ≤ v4 then
      some v2
    else
      (gR f v0 9 5).bind fun x2 =>
      (aI f x2 0 v4).bind fun x3 =>
      if x3 = v4 then
        (gR f v0 9 2).bind fun x4 =>
        (aI f x4 0 v4).bind fun x5 =>
        if x5 = (5 : Int32) then
          (DX10_has N v0 v1 v4 f).bind fun x6 =>
          if x6 = 0 then
            DX10_group_83 N f (DX10_group_5 N f n) v0 v1 v2 v4
          else
            (DX10_amountOf N v0 v4 f).bind fun x8 =>
            if x8 = (9000000000000000000 : Int64) then
              DX10_group_72 N f (DX10_group_5 N f n) v0 v1 v4
            else
              if v2 = (9000000000000000000 : Int64) then
                DX10_group_72 N f (DX10_group_5 N f n) v0 v1 v4
              else
                DX10_group_82 N f (DX10_group_5 N f n) v0 v1 v4 (v2 + x8)
        else
          DX10_group_83 N f (DX10_group_5 N f n) v0 v1 v2 v4
      else
        DX10_group_83 N f (DX10_group_5 N f n) v0 v1 v2 v4

def DX10_group (N : Nat) (this : Nat) (p0 : Int32) (f : HF) : Option Int64 :=
  (ck f this 9).bind fun _ =>
  DX10_group_5 N f N this p0 (0 : Int64) (0 : Int32)

set_option maxRecDepth 20000 in
theorem tX10_group_83 {l : Launch} {g : GT} {sz : Option Nat} (N : Nat) (f : HF) (k5 : Nat → Int32 → Int64 → Int32 → Option Int64) {r : Int64} (hk5 : ∀ (w0 : Nat) (w1 : Int32) (w2 : Int64) (w4 : Int32), k5 w0 w1 w2 w4 = some r → V l g (fun _ => True) (RX10, cX10_group, 7, (Option.some Jvm.ClassFile.FieldType.long), [], "group") 2 (roL (.inl r) f sz) 5 [(0, .ref w0), (1, .int w1), (2, .long w2), (4, .int w4)] [] f sz 0 0) : ∀ (v0 : Nat) (v1 : Int32) (v2 : Int64) (v4 : Int32), DX10_group_83 N f k5 v0 v1 v2 v4 = some r → V l g (fun _ => True) (RX10, cX10_group, 7, (Option.some Jvm.ClassFile.FieldType.long), [], "group") 2 (roL (.inl r) f sz) 83 [(0, .ref v0), (1, .int v1), (2, .long v2), (4, .int v4)] [] f sz 0 0 := by
  intro v0 v1 v2 v4 h
  unfold DX10_group_83 at h
  refine v_iinc (v := (v4 + 1)) (ls1 := [(4, .int (v4 + 1)), (0, .ref v0), (1, .int v1), (2, .long v2)]) dX10_group_83 rfl rfl (by decide) rfl ?_
  refine v_goto (tgt := 5) dX10_group_86 (by decide) ?_
  exact v_sub (vs_c rfl (vs_c rfl (vs_c rfl (vs_c rfl vs_n)))) (hk5 v0 v1 v2 (v4 + 1) h)

set_option maxRecDepth 20000 in
theorem tX10_group_82 {l : Launch} {g : GT} {sz : Option Nat} (N : Nat) (f : HF) (k5 : Nat → Int32 → Int64 → Int32 → Option Int64) {r : Int64} (hk5 : ∀ (w0 : Nat) (w1 : Int32) (w2 : Int64) (w4 : Int32), k5 w0 w1 w2 w4 = some r → V l g (fun _ => True) (RX10, cX10_group, 7, (Option.some Jvm.ClassFile.FieldType.long), [], "group") 2 (roL (.inl r) f sz) 5 [(0, .ref w0), (1, .int w1), (2, .long w2), (4, .int w4)] [] f sz 0 0) : ∀ (v0 : Nat) (v1 : Int32) (v4 : Int32) (s0 : Int64), DX10_group_82 N f k5 v0 v1 v4 s0 = some r → V l g (fun _ => True) (RX10, cX10_group, 7, (Option.some Jvm.ClassFile.FieldType.long), [], "group") 2 (roL (.inl r) f sz) 82 [(0, .ref v0), (1, .int v1), (4, .int v4)] [.long s0] f sz 0 0 := by
  intro v0 v1 v4 s0 h
  unfold DX10_group_82 at h
  refine v_lstore_n (ls1 := [(2, .long s0), (0, .ref v0), (1, .int v1), (4, .int v4)]) dX10_group_82 rfl (by decide) rfl ?_
  exact v_sub (vs_c rfl (vs_c rfl (vs_c rfl (vs_c rfl vs_n)))) (tX10_group_83 N f k5 hk5 v0 v1 s0 v4 h)

set_option maxRecDepth 20000 in
theorem tX10_group_72 {l : Launch} {g : GT} {sz : Option Nat} (N : Nat) (f : HF) (k5 : Nat → Int32 → Int64 → Int32 → Option Int64) {r : Int64} (hk5 : ∀ (w0 : Nat) (w1 : Int32) (w2 : Int64) (w4 : Int32), k5 w0 w1 w2 w4 = some r → V l g (fun _ => True) (RX10, cX10_group, 7, (Option.some Jvm.ClassFile.FieldType.long), [], "group") 2 (roL (.inl r) f sz) 5 [(0, .ref w0), (1, .int w1), (2, .long w2), (4, .int w4)] [] f sz 0 0) : ∀ (v0 : Nat) (v1 : Int32) (v4 : Int32), DX10_group_72 N f k5 v0 v1 v4 = some r → V l g (fun _ => True) (RX10, cX10_group, 7, (Option.some Jvm.ClassFile.FieldType.long), [], "group") 2 (roL (.inl r) f sz) 72 [(0, .ref v0), (1, .int v1), (4, .int v4)] [] f sz 0 0 := by
  intro v0 v1 v4 h
  unfold DX10_group_72 at h
  refine v_ldc2 dX10_group_72 kc_X10_178 ?_
  refine v_goto (tgt := 82) dX10_group_75 (by decide) ?_
  exact v_sub (vs_c rfl (vs_c rfl (vs_c rfl vs_n))) (tX10_group_82 N f k5 hk5 v0 v1 v4 (9000000000000000000 : Int64) h)

set_option maxRecDepth 20000 in
theorem tX10_group_5 {l : Launch} {g : GT} {sz : Option Nat} (N : Nat) (f : HF)  {r : Int64} : ∀ (n : Nat), ∀ (v0 : Nat) (v1 : Int32) (v2 : Int64) (v4 : Int32), DX10_group_5 N f n v0 v1 v2 v4 = some r → V l g (fun _ => True) (RX10, cX10_group, 7, (Option.some Jvm.ClassFile.FieldType.long), [], "group") 2 (roL (.inl r) f sz) 5 [(0, .ref v0), (1, .int v1), (2, .long v2), (4, .int v4)] [] f sz 0 0 := by
  intro n
  induction n with
  | zero => intro v0 v1 v2 v4 h; cases h
  | succ n ih =>
    intro v0 v1 v2 v4 h
    rw [DX10_group_5] at h
    refine v_iload dX10_group_5 rfl ?_
    refine v_aload_n dX10_group_7 rfl rfl ?_
    obtain ⟨x1, hx1, h⟩ := ob_some h
    refine v_getI dX10_group_8 fl_X10_106 hx1 ?_
    refine v_icmp_ge (tgt := 89) dX10_group_11 (by decide) (fun c15 => ?_) (fun c15 => ?_)
    · replace h := ip_ c15 h
      refine v_lload_n dX10_group_89 rfl rfl ?_
      obtain rfl := Option.some.inj h
      exact v_lret dX10_group_90 rfl rfl
    · replace h := in_ c15 h
      refine v_aload_n dX10_group_14 rfl rfl ?_
      obtain ⟨x2, hx2, h⟩ := ob_some h
      refine v_getR dX10_group_15 fl_X10_19 hx2 ?_
      refine v_iload dX10_group_18 rfl ?_
      obtain ⟨x3, hx3, h⟩ := ob_some h
      refine v_iald dX10_group_20 hx3 ?_
      refine v_iload dX10_group_21 rfl ?_
      refine v_icmp_ne (tgt := 83) dX10_group_23 (by decide) (fun c14 => ?_) (fun c14 => ?_)
      · replace h := in_ c14 h
        exact v_sub (vs_c rfl (vs_c rfl (vs_c rfl (vs_c rfl vs_n)))) (tX10_group_83 N f (DX10_group_5 N f n) ih v0 v1 v2 v4 h)
      · replace h := ip_ c14 h
        refine v_aload_n dX10_group_26 rfl rfl ?_
        obtain ⟨x4, hx4, h⟩ := ob_some h
        refine v_getR dX10_group_27 fl_X10_7 hx4 ?_
        refine v_iload dX10_group_30 rfl ?_
        obtain ⟨x5, hx5, h⟩ := ob_some h
        refine v_iald dX10_group_32 hx5 ?_
        refine v_iconst (v := 5) dX10_group_33 (by decide) ?_
        refine v_icmp_ne (tgt := 83) dX10_group_34 (by decide) (fun c13 => ?_) (fun c13 => ?_)
        · replace h := in_ c13 h
          exact v_sub (vs_c rfl (vs_c rfl (vs_c rfl (vs_c rfl vs_n)))) (tX10_group_83 N f (DX10_group_5 N f n) ih v0 v1 v2 v4 h)
        · replace h := ip_ c13 h
          refine v_aload_n dX10_group_37 rfl rfl ?_
          refine v_iload_n dX10_group_38 rfl rfl ?_
          refine v_iload dX10_group_39 rfl ?_
          obtain ⟨x6, hx7, h⟩ := ob_some h
          have ehx7 := tX10_has (l := l) (g := g) (sz := sz) N v0 v1 v4 f hx7
          refine v_cVI dX10_group_41 ml_X10_206 ok_X10_has ehx7 (kX10_has N v0 v1 v4 f hx7) rfl (by decide) rfl (rest := []) rfl (Nat.le_of_ble_eq_true rfl) ?_
          refine v_if_eq (tgt := 83) dX10_group_44 (by decide) (fun c12 => ?_) (fun c12 => ?_)
          · replace h := ip_ c12 h
            exact v_sub (vs_c rfl (vs_c rfl (vs_c rfl (vs_c rfl vs_n)))) (tX10_group_83 N f (DX10_group_5 N f n) ih v0 v1 v2 v4 h)
          · replace h := in_ c12 h
            refine v_aload_n dX10_group_47 rfl rfl ?_
            refine v_iload dX10_group_48 rfl ?_
            obtain ⟨x8, hx9, h⟩ := ob_some h
            have ehx9 := tX10_amountOf (l := l) (g := g) (sz := sz) N v0 v4 f hx9
            refine v_cVL dX10_group_50 ml_X10_209 ok_X10_amountOf ehx9 (kX10_amountOf N v0 v4 f hx9) rfl (by decide) rfl (rest := []) rfl (Nat.le_of_ble_eq_true rfl) ?_
            refine v_lstore (ls1 := [(5, .long x8), (0, .ref v0), (1, .int v1), (2, .long v2), (4, .int v4)]) dX10_group_53 (by decide) rfl ?_
            refine v_lload dX10_group_55 rfl ?_
            refine v_ldc2 dX10_group_57 kc_X10_178 ?_
            refine v_lcmp_eq (tgt := 72) dX10_group_60 dX10_group_61 (by decide) (fun c11 => ?_) (fun c11 => ?_)
            · replace h := ip_ c11 h
              exact v_sub (vs_c rfl (vs_c rfl (vs_c rfl vs_n))) (tX10_group_72 N f (DX10_group_5 N f n) ih v0 v1 v4 h)
            · replace h := in_ c11 h
              refine v_lload_n dX10_group_64 rfl rfl ?_
              refine v_ldc2 dX10_group_65 kc_X10_178 ?_
              refine v_lcmp_ne (tgt := 78) dX10_group_68 dX10_group_69 (by decide) (fun c10 => ?_) (fun c10 => ?_)
              · replace h := in_ c10 h
                refine v_lload_n dX10_group_78 rfl rfl ?_
                refine v_lload dX10_group_79 rfl ?_
                refine v_ladd dX10_group_81 ?_
                exact v_sub (vs_c rfl (vs_c rfl (vs_c rfl vs_n))) (tX10_group_82 N f (DX10_group_5 N f n) ih v0 v1 v4 (v2 + x8) h)
              · replace h := ip_ c10 h
                exact v_sub (vs_c rfl (vs_c rfl (vs_c rfl vs_n))) (tX10_group_72 N f (DX10_group_5 N f n) ih v0 v1 v4 h)

set_option maxRecDepth 20000 in
theorem kX10_group (N : Nat) (this : Nat) (p0 : Int32) (f : HF) {r : Int64} (h : DX10_group N this p0 f = some r) : ck f this 9 = some () := by
  unfold DX10_group at h
  obtain ⟨_, hck, _⟩ := ob_some h
  exact hck

set_option maxRecDepth 20000 in
theorem tX10_group {l : Launch} {g : GT} {sz : Option Nat} (N : Nat) (this : Nat) (p0 : Int32) (f : HF) {r : Int64} (h : DX10_group N this p0 f = some r) : Mt l g yX10_group cX10_group 7 (Option.some Jvm.ClassFile.FieldType.long) 2 [.ref this, .int p0] f sz (roL (.inl r) f sz) := by
  unfold DX10_group at h
  obtain ⟨_, hck, h⟩ := ob_some h
  refine mt_of (by decide) (Nat.le_of_ble_eq_true rfl) (?_ : V l g (fun _ => True) (RX10, cX10_group, 7, (Option.some Jvm.ClassFile.FieldType.long), [], "group") 2 (roL (.inl r) f sz) 0 [(0, .ref this), (1, .int p0)] [] f sz 0 0)
  refine v_lconst (v := 0) dX10_group_0 (by decide) ?_
  refine v_lstore_n (ls1 := [(2, .long (0 : Int64)), (0, .ref this), (1, .int p0)]) dX10_group_1 rfl (by decide) rfl ?_
  refine v_iconst (v := 0) dX10_group_2 (by decide) ?_
  refine v_istore (ls1 := [(4, .int (0 : Int32)), (2, .long (0 : Int64)), (0, .ref this), (1, .int p0)]) dX10_group_3 (by decide) rfl ?_
  exact v_sub (vs_c rfl (vs_c rfl (vs_c rfl (vs_c rfl vs_n)))) (tX10_group_5 N f N this p0 (0 : Int64) (0 : Int32) h)

/-! X10 abs (R) -/
def DX10_abs (N : Nat) (p0 : Int64) (f : HF) : Option Int64 :=
  if (0 : Int64) ≤ p0 then
    some p0
  else
    some (-p0)

set_option maxRecDepth 20000 in
theorem tX10_abs {l : Launch} {g : GT} {sz : Option Nat} (N : Nat) (p0 : Int64) (f : HF) {r : Int64} (h : DX10_abs N p0 f = some r) : Mt l g yX10_abs cX10_abs 2 (Option.some Jvm.ClassFile.FieldType.long) 0 [.long p0] f sz (roL (.inl r) f sz) := by
  unfold DX10_abs at h
  refine mt_of (by decide) (Nat.le_of_ble_eq_true rfl) (?_ : V l g (fun _ => True) (RX10, cX10_abs, 2, (Option.some Jvm.ClassFile.FieldType.long), [], "abs") 0 (roL (.inl r) f sz) 0 [(0, .long p0)] [] f sz 0 0)
  refine v_lload_n dX10_abs_0 rfl rfl ?_
  refine v_lconst (v := 0) dX10_abs_1 (by decide) ?_
  refine v_lcmp_ge (tgt := 11) dX10_abs_2 dX10_abs_3 (by decide) (fun c1 => ?_) (fun c1 => ?_)
  · replace h := ip_ c1 h
    refine v_lload_n dX10_abs_11 rfl rfl ?_
    obtain rfl := Option.some.inj h
    exact v_lret dX10_abs_12 rfl rfl
  · replace h := in_ c1 h
    refine v_lload_n dX10_abs_6 rfl rfl ?_
    refine v_lneg dX10_abs_7 ?_
    refine v_goto (tgt := 12) dX10_abs_8 (by decide) ?_
    obtain rfl := Option.some.inj h
    exact v_lret dX10_abs_12 rfl rfl

/-! X10 product (R) -/
def DX10_product_26 (N : Nat) (f : HF)  (v1 : Int64) (v3 : Int64) : Option Int64 :=
    some ((v1 * v3) / (1000 : Int64))

def DX10_product (N : Nat) (this : Nat) (p0 : Int64) (p1 : Int64) (f : HF) : Option Int64 :=
  (ck f this 9).bind fun _ =>
  if p0 = (0 : Int64) then
    DX10_product_26 N f p0 p1
  else
    (DX10_abs N p1 f).bind fun x1 =>
    (DX10_abs N p0 f).bind fun x3 =>
    if ¬ x3 = 0 then
    if x1 ≤ ((1000000000000000 : Int64) / x3) then
      DX10_product_26 N f p0 p1
    else
      some (9000000000000000000 : Int64)
    else none

set_option maxRecDepth 20000 in
theorem tX10_product_26 {l : Launch} {g : GT} {sz : Option Nat} (N : Nat) (f : HF)  {r : Int64} : ∀ (v1 : Int64) (v3 : Int64), DX10_product_26 N f v1 v3 = some r → V l g (fun _ => True) (RX10, cX10_product, 5, (Option.some Jvm.ClassFile.FieldType.long), [], "product") 1 (roL (.inl r) f sz) 26 [(1, .long v1), (3, .long v3)] [] f sz 0 0 := by
  intro v1 v3 h
  unfold DX10_product_26 at h
  refine v_lload_n dX10_product_26 rfl rfl ?_
  refine v_lload_n dX10_product_27 rfl rfl ?_
  refine v_lmul dX10_product_28 ?_
  refine v_ldc2 dX10_product_29 kc_X10_170 ?_
  refine v_ldiv dX10_product_32 (by decide) ?_
  obtain rfl := Option.some.inj h
  exact v_lret dX10_product_33 rfl rfl

set_option maxRecDepth 20000 in
theorem kX10_product (N : Nat) (this : Nat) (p0 : Int64) (p1 : Int64) (f : HF) {r : Int64} (h : DX10_product N this p0 p1 f = some r) : ck f this 9 = some () := by
  unfold DX10_product at h
  obtain ⟨_, hck, _⟩ := ob_some h
  exact hck

set_option maxRecDepth 20000 in
theorem tX10_product {l : Launch} {g : GT} {sz : Option Nat} (N : Nat) (this : Nat) (p0 : Int64) (p1 : Int64) (f : HF) {r : Int64} (h : DX10_product N this p0 p1 f = some r) : Mt l g yX10_product cX10_product 5 (Option.some Jvm.ClassFile.FieldType.long) 1 [.ref this, .long p0, .long p1] f sz (roL (.inl r) f sz) := by
  unfold DX10_product at h
  obtain ⟨_, hck, h⟩ := ob_some h
  refine mt_of (by decide) (Nat.le_of_ble_eq_true rfl) (?_ : V l g (fun _ => True) (RX10, cX10_product, 5, (Option.some Jvm.ClassFile.FieldType.long), [], "product") 1 (roL (.inl r) f sz) 0 [(0, .ref this), (1, .long p0), (3, .long p1)] [] f sz 0 0)
  refine v_lload_n dX10_product_0 rfl rfl ?_
  refine v_lconst (v := 0) dX10_product_1 (by decide) ?_
  refine v_lcmp_eq (tgt := 26) dX10_product_2 dX10_product_3 (by decide) (fun c6 => ?_) (fun c6 => ?_)
  · replace h := ip_ c6 h
    exact v_sub (vs_c rfl (vs_c rfl vs_n)) (tX10_product_26 N f p0 p1 h)
  · replace h := in_ c6 h
    refine v_lload_n dX10_product_6 rfl rfl ?_
    obtain ⟨x1, hx2, h⟩ := ob_some h
    have ehx2 := tX10_abs (l := l) (g := g) (sz := sz) N p1 f hx2
    refine v_cSL dX10_product_7 ml_X10_213 ok_X10_abs ehx2 (by decide) rfl (rest := []) rfl (Nat.le_of_ble_eq_true rfl) ?_
    refine v_ldc2 dX10_product_10 kc_X10_217 ?_
    refine v_lload_n dX10_product_13 rfl rfl ?_
    obtain ⟨x3, hx4, h⟩ := ob_some h
    have ehx4 := tX10_abs (l := l) (g := g) (sz := sz) N p0 f hx4
    refine v_cSL dX10_product_14 ml_X10_213 ok_X10_abs ehx4 (by decide) rfl (rest := [.long (1000000000000000 : Int64), .long x1]) rfl (Nat.le_of_ble_eq_true rfl) ?_
    obtain ⟨hz, h⟩ := if_some h
    refine v_ldiv dX10_product_17 hz ?_
    refine v_lcmp_le (tgt := 26) dX10_product_18 dX10_product_19 (by decide) (fun c5 => ?_) (fun c5 => ?_)
    · replace h := ip_ c5 h
      exact v_sub (vs_c rfl (vs_c rfl vs_n)) (tX10_product_26 N f p0 p1 h)
    · replace h := in_ c5 h
      refine v_ldc2 dX10_product_22 kc_X10_178 ?_
      obtain rfl := Option.some.inj h
      exact v_lret dX10_product_25 rfl rfl

/-! X10 result (R) -/
def DX10_result_107 (N : Nat) (f : HF)  (v0 : Nat) (v2 : Int32) (v3 : Int64) (v5 : Int64) : Option Int64 :=
    if v2 = 0 then
      some (v3 + v5)
    else
    if v2 = 1 then
      some (v3 - v5)
    else
    if v2 = 2 then
      (DX10_product N v0 v3 v5 f).bind fun x16 =>
      some x16
    else
    if v2 = 3 then
      if ¬ v5 = 0 then
      some ((v3 * (1000 : Int64)) / v5)
      else none
    else
    if v2 = 4 then
      if v5 ≤ v3 then
        some v5
      else
        some v3
    else
    if v3 ≤ v5 then
      some v5
    else
      some v3

def DX10_result (N : Nat) (this : Nat) (p0 : Int32) (f : HF) : Option Int64 :=
  (ck f this 9).bind fun _ =>
  (gR f this 9 18).bind fun x1 =>
  (aI f x1 0 p0).bind fun x2 =>
  (gR f this 9 21).bind fun x3 =>
  (aI f x3 2 p0).bind fun x4 =>
  if x4 = 0 then
    if x2 = (7 : Int32) then
      (gR f this 9 19).bind fun x31 =>
      (aI f x31 0 p0).bind fun x32 =>
      some (x32.toInt64)
    else
      if x2 = (6 : Int32) then
        (gR f this 9 19).bind fun x26 =>
        (aI f x26 0 p0).bind fun x27 =>
        (DX10_group N this x27 f).bind fun x28 =>
        some x28
      else
        (gR f this 9 19).bind fun x5 =>
        (aI f x5 0 p0).bind fun x6 =>
        (DX10_amountOf N this x6 f).bind fun x7 =>
        (gR f this 9 20).bind fun x9 =>
        (aI f x9 0 p0).bind fun x10 =>
        (DX10_amountOf N this x10 f).bind fun x11 =>
        if x7 = (9000000000000000000 : Int64) then
          some (9000000000000000000 : Int64)
        else
          if x11 = (9000000000000000000 : Int64) then
            some (9000000000000000000 : Int64)
          else
            if x2 = (3 : Int32) then
              if x11 = (0 : Int64) then
                some (9000000000000000000 : Int64)
              else
                DX10_result_107 N f this x2 x7 x11
            else
              DX10_result_107 N f this x2 x7 x11
  else
    some (9000000000000000000 : Int64)

set_option maxRecDepth 20000 in
theorem tX10_result_107 {l : Launch} {g : GT} {sz : Option Nat} (N : Nat) (f : HF)  {r : Int64} : ∀ (v0 : Nat) (v2 : Int32) (v3 : Int64) (v5 : Int64), DX10_result_107 N f v0 v2 v3 v5 = some r → V l g (fun _ => True) (RX10, cX10_result, 7, (Option.some Jvm.ClassFile.FieldType.long), [], "result") 3 (roL (.inl r) f sz) 107 [(0, .ref v0), (2, .int v2), (3, .long v3), (5, .long v5)] [] f sz 0 0 := by
  intro v0 v2 v3 v5 h
  unfold DX10_result_107 at h
  refine v_iload_n dX10_result_107 rfl rfl ?_
  by_cases c13 : v2 = 0
  · replace h := ip_ c13 h
    refine v_tableIn (tgt := 144) (off := 36) dX10_result_108 (by rw [c13] <;> decide) (by rw [c13] <;> decide) (by rw [c13] <;> rfl) (by decide) ?_
    refine v_lload_n dX10_result_144 rfl rfl ?_
    refine v_lload dX10_result_145 rfl ?_
    refine v_ladd dX10_result_147 ?_
    obtain rfl := Option.some.inj h
    exact v_lret dX10_result_148 rfl rfl
  replace h := in_ c13 h
  by_cases c14 : v2 = 1
  · replace h := ip_ c14 h
    refine v_tableIn (tgt := 149) (off := 41) dX10_result_108 (by rw [c14] <;> decide) (by rw [c14] <;> decide) (by rw [c14] <;> rfl) (by decide) ?_
    refine v_lload_n dX10_result_149 rfl rfl ?_
    refine v_lload dX10_result_150 rfl ?_
    refine v_lsub dX10_result_152 ?_
    obtain rfl := Option.some.inj h
    exact v_lret dX10_result_153 rfl rfl
  replace h := in_ c14 h
  by_cases c15 : v2 = 2
  · replace h := ip_ c15 h
    refine v_tableIn (tgt := 154) (off := 46) dX10_result_108 (by rw [c15] <;> decide) (by rw [c15] <;> decide) (by rw [c15] <;> rfl) (by decide) ?_
    refine v_aload_n dX10_result_154 rfl rfl ?_
    refine v_lload_n dX10_result_155 rfl rfl ?_
    refine v_lload dX10_result_156 rfl ?_
    obtain ⟨x16, hx17, h⟩ := ob_some h
    have ehx17 := tX10_product (l := l) (g := g) (sz := sz) N v0 v3 v5 f hx17
    refine v_cVL dX10_result_158 ml_X10_222 ok_X10_product ehx17 (kX10_product N v0 v3 v5 f hx17) rfl (by decide) rfl (rest := []) rfl (Nat.le_of_ble_eq_true rfl) ?_
    obtain rfl := Option.some.inj h
    exact v_lret dX10_result_161 rfl rfl
  replace h := in_ c15 h
  by_cases c18 : v2 = 3
  · replace h := ip_ c18 h
    refine v_tableIn (tgt := 162) (off := 54) dX10_result_108 (by rw [c18] <;> decide) (by rw [c18] <;> decide) (by rw [c18] <;> rfl) (by decide) ?_
    refine v_lload_n dX10_result_162 rfl rfl ?_
    refine v_ldc2 dX10_result_163 kc_X10_170 ?_
    refine v_lmul dX10_result_166 ?_
    refine v_lload dX10_result_167 rfl ?_
    obtain ⟨hz, h⟩ := if_some h
    refine v_ldiv dX10_result_169 hz ?_
    obtain rfl := Option.some.inj h
    exact v_lret dX10_result_170 rfl rfl
  replace h := in_ c18 h
  by_cases c19 : v2 = 4
  · replace h := ip_ c19 h
    refine v_tableIn (tgt := 171) (off := 63) dX10_result_108 (by rw [c19] <;> decide) (by rw [c19] <;> decide) (by rw [c19] <;> rfl) (by decide) ?_
    refine v_lload_n dX10_result_171 rfl rfl ?_
    refine v_lload dX10_result_172 rfl ?_
    refine v_lcmp_ge (tgt := 182) dX10_result_174 dX10_result_175 (by decide) (fun c20 => ?_) (fun c20 => ?_)
    · replace h := ip_ c20 h
      refine v_lload dX10_result_182 rfl ?_
      obtain rfl := Option.some.inj h
      exact v_lret dX10_result_184 rfl rfl
    · replace h := in_ c20 h
      refine v_lload_n dX10_result_178 rfl rfl ?_
      refine v_goto (tgt := 184) dX10_result_179 (by decide) ?_
      obtain rfl := Option.some.inj h
      exact v_lret dX10_result_184 rfl rfl
  replace h := in_ c19 h
  refine v_tableOut (tgt := 185) dX10_result_108 (tsw_out v2 0 4 (fun z z1 z2 => by
    rcases (show z = 0 ∨ z = 1 ∨ z = 2 ∨ z = 3 ∨ z = 4 by omega) with rfl | rfl | rfl | rfl | rfl
    · exact c13
    · exact c14
    · exact c15
    · exact c18
    · exact c19
    )) (by decide) ?_
  refine v_lload_n dX10_result_185 rfl rfl ?_
  refine v_lload dX10_result_186 rfl ?_
  refine v_lcmp_le (tgt := 196) dX10_result_188 dX10_result_189 (by decide) (fun c21 => ?_) (fun c21 => ?_)
  · replace h := ip_ c21 h
    refine v_lload dX10_result_196 rfl ?_
    obtain rfl := Option.some.inj h
    exact v_lret dX10_result_198 rfl rfl
  · replace h := in_ c21 h
    refine v_lload_n dX10_result_192 rfl rfl ?_
    refine v_goto (tgt := 198) dX10_result_193 (by decide) ?_
    obtain rfl := Option.some.inj h
    exact v_lret dX10_result_198 rfl rfl

set_option maxRecDepth 20000 in
theorem kX10_result (N : Nat) (this : Nat) (p0 : Int32) (f : HF) {r : Int64} (h : DX10_result N this p0 f = some r) : ck f this 9 = some () := by
  unfold DX10_result at h
  obtain ⟨_, hck, _⟩ := ob_some h
  exact hck

set_option maxRecDepth 20000 in
theorem tX10_result {l : Launch} {g : GT} {sz : Option Nat} (N : Nat) (this : Nat) (p0 : Int32) (f : HF) {r : Int64} (h : DX10_result N this p0 f = some r) : Mt l g yX10_result cX10_result 7 (Option.some Jvm.ClassFile.FieldType.long) 3 [.ref this, .int p0] f sz (roL (.inl r) f sz) := by
  unfold DX10_result at h
  obtain ⟨_, hck, h⟩ := ob_some h
  refine mt_of (by decide) (Nat.le_of_ble_eq_true rfl) (?_ : V l g (fun _ => True) (RX10, cX10_result, 7, (Option.some Jvm.ClassFile.FieldType.long), [], "result") 3 (roL (.inl r) f sz) 0 [(0, .ref this), (1, .int p0)] [] f sz 0 0)
  refine v_aload_n dX10_result_0 rfl rfl ?_
  obtain ⟨x1, hx1, h⟩ := ob_some h
  refine v_getR dX10_result_1 fl_X10_60 hx1 ?_
  refine v_iload_n dX10_result_4 rfl rfl ?_
  obtain ⟨x2, hx2, h⟩ := ob_some h
  refine v_iald dX10_result_5 hx2 ?_
  refine v_istore_n (ls1 := [(2, .int x2), (0, .ref this), (1, .int p0)]) dX10_result_6 rfl (by decide) rfl ?_
  refine v_aload_n dX10_result_7 rfl rfl ?_
  obtain ⟨x3, hx3, h⟩ := ob_some h
  refine v_getR dX10_result_8 fl_X10_69 hx3 ?_
  refine v_iload_n dX10_result_11 rfl rfl ?_
  obtain ⟨x4, hx4, h⟩ := ob_some h
  refine v_zald dX10_result_12 hx4 ?_
  refine v_if_eq (tgt := 20) dX10_result_13 (by decide) (fun c34 => ?_) (fun c34 => ?_)
  · replace h := ip_ c34 h
    refine v_iload_n dX10_result_20 rfl rfl ?_
    refine v_bipush (v := 7) dX10_result_21 (by decide) ?_
    refine v_icmp_ne (tgt := 34) dX10_result_23 (by decide) (fun c33 => ?_) (fun c33 => ?_)
    · replace h := in_ c33 h
      refine v_iload_n dX10_result_34 rfl rfl ?_
      refine v_bipush (v := 6) dX10_result_35 (by decide) ?_
      refine v_icmp_ne (tgt := 51) dX10_result_37 (by decide) (fun c30 => ?_) (fun c30 => ?_)
      · replace h := in_ c30 h
        refine v_aload_n dX10_result_51 rfl rfl ?_
        refine v_aload_n dX10_result_52 rfl rfl ?_
        obtain ⟨x5, hx5, h⟩ := ob_some h
        refine v_getR dX10_result_53 fl_X10_63 hx5 ?_
        refine v_iload_n dX10_result_56 rfl rfl ?_
        obtain ⟨x6, hx6, h⟩ := ob_some h
        refine v_iald dX10_result_57 hx6 ?_
        obtain ⟨x7, hx8, h⟩ := ob_some h
        have ehx8 := tX10_amountOf (l := l) (g := g) (sz := sz) N this x6 f hx8
        refine v_cVL dX10_result_58 ml_X10_209 ok_X10_amountOf ehx8 (kX10_amountOf N this x6 f hx8) rfl (by decide) rfl (rest := []) rfl (Nat.le_of_ble_eq_true rfl) ?_
        refine v_lstore_n (ls1 := [(3, .long x7), (2, .int x2), (0, .ref this), (1, .int p0)]) dX10_result_61 rfl (by decide) rfl ?_
        refine v_aload_n dX10_result_62 rfl rfl ?_
        refine v_aload_n dX10_result_63 rfl rfl ?_
        obtain ⟨x9, hx9, h⟩ := ob_some h
        refine v_getR dX10_result_64 fl_X10_66 hx9 ?_
        refine v_iload_n dX10_result_67 rfl rfl ?_
        obtain ⟨x10, hx10, h⟩ := ob_some h
        refine v_iald dX10_result_68 hx10 ?_
        obtain ⟨x11, hx12, h⟩ := ob_some h
        have ehx12 := tX10_amountOf (l := l) (g := g) (sz := sz) N this x10 f hx12
        refine v_cVL dX10_result_69 ml_X10_209 ok_X10_amountOf ehx12 (kX10_amountOf N this x10 f hx12) rfl (by decide) rfl (rest := []) rfl (Nat.le_of_ble_eq_true rfl) ?_
        refine v_lstore (ls1 := [(5, .long x11), (3, .long x7), (2, .int x2), (0, .ref this), (1, .int p0)]) dX10_result_72 (by decide) rfl ?_
        refine v_lload_n dX10_result_74 rfl rfl ?_
        refine v_ldc2 dX10_result_75 kc_X10_178 ?_
        refine v_lcmp_eq (tgt := 103) dX10_result_78 dX10_result_79 (by decide) (fun c25 => ?_) (fun c25 => ?_)
        · replace h := ip_ c25 h
          refine v_ldc2 dX10_result_103 kc_X10_178 ?_
          obtain rfl := Option.some.inj h
          exact v_lret dX10_result_106 rfl rfl
        · replace h := in_ c25 h
          refine v_lload dX10_result_82 rfl ?_
          refine v_ldc2 dX10_result_84 kc_X10_178 ?_
          refine v_lcmp_eq (tgt := 103) dX10_result_87 dX10_result_88 (by decide) (fun c24 => ?_) (fun c24 => ?_)
          · replace h := ip_ c24 h
            refine v_ldc2 dX10_result_103 kc_X10_178 ?_
            obtain rfl := Option.some.inj h
            exact v_lret dX10_result_106 rfl rfl
          · replace h := in_ c24 h
            refine v_iload_n dX10_result_91 rfl rfl ?_
            refine v_iconst (v := 3) dX10_result_92 (by decide) ?_
            refine v_icmp_ne (tgt := 107) dX10_result_93 (by decide) (fun c23 => ?_) (fun c23 => ?_)
            · replace h := in_ c23 h
              exact v_sub (vs_c rfl (vs_c rfl (vs_c rfl (vs_c rfl vs_n)))) (tX10_result_107 N f this x2 x7 x11 h)
            · replace h := ip_ c23 h
              refine v_lload dX10_result_96 rfl ?_
              refine v_lconst (v := 0) dX10_result_98 (by decide) ?_
              refine v_lcmp_ne (tgt := 107) dX10_result_99 dX10_result_100 (by decide) (fun c22 => ?_) (fun c22 => ?_)
              · replace h := in_ c22 h
                exact v_sub (vs_c rfl (vs_c rfl (vs_c rfl (vs_c rfl vs_n)))) (tX10_result_107 N f this x2 x7 x11 h)
              · replace h := ip_ c22 h
                refine v_ldc2 dX10_result_103 kc_X10_178 ?_
                obtain rfl := Option.some.inj h
                exact v_lret dX10_result_106 rfl rfl
      · replace h := ip_ c30 h
        refine v_aload_n dX10_result_40 rfl rfl ?_
        refine v_aload_n dX10_result_41 rfl rfl ?_
        obtain ⟨x26, hx26, h⟩ := ob_some h
        refine v_getR dX10_result_42 fl_X10_63 hx26 ?_
        refine v_iload_n dX10_result_45 rfl rfl ?_
        obtain ⟨x27, hx27, h⟩ := ob_some h
        refine v_iald dX10_result_46 hx27 ?_
        obtain ⟨x28, hx29, h⟩ := ob_some h
        have ehx29 := tX10_group (l := l) (g := g) (sz := sz) N this x27 f hx29
        refine v_cVL dX10_result_47 ml_X10_219 ok_X10_group ehx29 (kX10_group N this x27 f hx29) rfl (by decide) rfl (rest := []) rfl (Nat.le_of_ble_eq_true rfl) ?_
        obtain rfl := Option.some.inj h
        exact v_lret dX10_result_50 rfl rfl
    · replace h := ip_ c33 h
      refine v_aload_n dX10_result_26 rfl rfl ?_
      obtain ⟨x31, hx31, h⟩ := ob_some h
      refine v_getR dX10_result_27 fl_X10_63 hx31 ?_
      refine v_iload_n dX10_result_30 rfl rfl ?_
      obtain ⟨x32, hx32, h⟩ := ob_some h
      refine v_iald dX10_result_31 hx32 ?_
      refine v_i2l dX10_result_32 ?_
      obtain rfl := Option.some.inj h
      exact v_lret dX10_result_33 rfl rfl
  · replace h := in_ c34 h
    refine v_ldc2 dX10_result_16 kc_X10_178 ?_
    obtain rfl := Option.some.inj h
    exact v_lret dX10_result_19 rfl rfl

/-! X10 work (W) -/
def DX10_work_25 (N : Nat)  (v0 : Nat) (v1 : Int32) (f : HF) : Option (Int32 × HF) :=
    (gR f v0 9 25).bind fun x3 =>
    (gI f v0 9 26).bind fun x4 =>
    (sI f x3 0 x4 v1).bind fun f5 =>
    (gI f5 v0 9 26).bind fun x6 =>
    (pV f5 v0 9 26 (.int (x6 + (1 : Int32)))).bind fun f7 =>
    some ((0 : Int32), f7)

def DX10_work_121 (N : Nat) (k80 : Nat → Int32 → Int32 → Int32 → HF → Option (Int32 × HF)) (v0 : Nat) (v1 : Int32) (v5 : Int32) (s0 : Int32) (f : HF) : Option (Int32 × HF) :=
    (gR f v0 9 10).bind fun x21 =>
    (gR f v0 9 27).bind fun x22 =>
    (aI f x22 0 v5).bind fun x23 =>
    (sI f x21 0 (((30 : Int32) * v1) + v5) x23).bind fun f24 =>
    k80 v0 v1 s0 (v5 + 1) f24

def DX10_work_116 (N : Nat) (k80 : Nat → Int32 → Int32 → Int32 → HF → Option (Int32 × HF)) (v0 : Nat) (v1 : Int32) (v5 : Int32) (f : HF) : Option (Int32 × HF) :=
    DX10_work_121 N k80 v0 v1 v5 (1 : Int32) f

def DX10_work_80 (N : Nat)  (n : Nat) (v0 : Nat) (v1 : Int32) (v4 : Int32) (v5 : Int32) (f : HF) : Option (Int32 × HF) :=
  match n with
  | 0 => none
  | n + 1 =>
    (gI f v0 9 28).bind fun x17 =>
    if x17 ≤ v5 then
      (gR f v0 9 11).bind fun x18 =>
      (gI f v0 9 28).bind fun x19 =>
      (sI f x18 0 v1 x19).bind fun f20 =>
      if v4 = 0 ∨ v4 = 1 then some (v4, f20) else none
    else
      if v4 = 0 then
        (gR f v0 9 10).bind fun x25 =>
        (aI f x25 0 (((30 : Int32) * v1) + v5)).bind fun x26 =>
        (gR f v0 9 27).bind fun x27 =>
        (aI f x27 0 v5).bind fun x28 =>
        if x26 = x28 then
          DX10_work_121 N (DX10_work_80 N n) v0 v1 v5 (0 : Int32) f
        else
          DX10_work_116 N (DX10_work_80 N n) v0 v1 v5 f
      else
        DX10_work_116 N (DX10_work_80 N n) v0 v1 v5 f

def DX10_work_75 (N : Nat)  (v0 : Nat) (v1 : Int32) (s0 : Int32) (f : HF) : Option (Int32 × HF) :=
    DX10_work_80 N N v0 v1 s0 (0 : Int32) f

def DX10_work (N : Nat) (this : Nat) (p0 : Int32) (f : HF) : Option (Int32 × HF) :=
  (ck f this 9).bind fun _ =>
  (DX10_result N this p0 f).bind fun x1 =>
  if x1 = (9000000000000000000 : Int64) then
    DX10_work_25 N this p0 f
  else
    (DX10_abs N x1 f).bind fun x8 =>
    if x8 ≤ (999999999999 : Int64) then
      (pV f this 9 28 (.int (0 : Int32))).bind fun f10 =>
      bW (DX10_putAmount N this x1 f10) fun x11 f13 =>
      (gR f13 this 9 11).bind fun x14 =>
      (aI f13 x14 0 p0).bind fun x15 =>
      (gI f13 this 9 28).bind fun x16 =>
      if x15 = x16 then
        DX10_work_75 N this p0 (0 : Int32) f13
      else
        DX10_work_75 N this p0 (1 : Int32) f13
    else
      DX10_work_25 N this p0 f

set_option maxRecDepth 20000 in
theorem tX10_work_25 {l : Launch} {g : GT} {sz : Option Nat} (N : Nat)  {r : (Int32 × HF)} : ∀ (v0 : Nat) (v1 : Int32) (f : HF), DX10_work_25 N v0 v1 f = some r → V l g (fun _ => True) (RX10, cX10_work, 6, (Option.some Jvm.ClassFile.FieldType.boolean), [], "work") 4 (roI (.inl r.1) r.2 sz) 25 [(0, .ref v0), (1, .int v1)] [] f sz 0 0 := by
  intro v0 v1 f h
  unfold DX10_work_25 at h
  refine v_aload_n dX10_work_25 rfl rfl ?_
  obtain ⟨x3, hx3, h⟩ := ob_some h
  refine v_getR dX10_work_26 fl_X10_81 hx3 ?_
  refine v_aload_n dX10_work_29 rfl rfl ?_
  obtain ⟨x4, hx4, h⟩ := ob_some h
  refine v_getI dX10_work_30 fl_X10_229 hx4 ?_
  refine v_iload_n dX10_work_33 rfl rfl ?_
  obtain ⟨f5, hf5, h⟩ := ob_some h
  refine v_iast dX10_work_34 hf5 ?_
  refine v_aload_n dX10_work_35 rfl rfl ?_
  refine v_dup dX10_work_36 rfl ?_
  obtain ⟨x6, hx6, h⟩ := ob_some h
  refine v_getI dX10_work_37 fl_X10_229 hx6 ?_
  refine v_iconst (v := 1) dX10_work_40 (by decide) ?_
  refine v_iadd dX10_work_41 ?_
  obtain ⟨f7, hf7, h⟩ := ob_some h
  refine v_pI dX10_work_42 fp_X10_229 hf7 ?_
  refine v_iconst (v := 0) dX10_work_45 (by decide) ?_
  obtain rfl := Option.some.inj h
  exact v_zret dX10_work_46 rfl (Or.inl rfl) rfl

set_option maxRecDepth 20000 in
theorem tX10_work_121 {l : Launch} {g : GT} {sz : Option Nat} (N : Nat) (k80 : Nat → Int32 → Int32 → Int32 → HF → Option (Int32 × HF)) {r : (Int32 × HF)} (hk80 : ∀ (w0 : Nat) (w1 : Int32) (w4 : Int32) (w5 : Int32) (f : HF), k80 w0 w1 w4 w5 f = some r → V l g (fun _ => True) (RX10, cX10_work, 6, (Option.some Jvm.ClassFile.FieldType.boolean), [], "work") 4 (roI (.inl r.1) r.2 sz) 80 [(0, .ref w0), (1, .int w1), (4, .int w4), (5, .int w5)] [] f sz 0 0) : ∀ (v0 : Nat) (v1 : Int32) (v5 : Int32) (s0 : Int32) (f : HF), DX10_work_121 N k80 v0 v1 v5 s0 f = some r → V l g (fun _ => True) (RX10, cX10_work, 6, (Option.some Jvm.ClassFile.FieldType.boolean), [], "work") 4 (roI (.inl r.1) r.2 sz) 121 [(0, .ref v0), (1, .int v1), (5, .int v5)] [.int s0] f sz 0 0 := by
  intro v0 v1 v5 s0 f h
  unfold DX10_work_121 at h
  refine v_istore (ls1 := [(4, .int s0), (0, .ref v0), (1, .int v1), (5, .int v5)]) dX10_work_121 (by decide) rfl ?_
  refine v_aload_n dX10_work_123 rfl rfl ?_
  obtain ⟨x21, hx21, h⟩ := ob_some h
  refine v_getR dX10_work_124 fl_X10_35 hx21 ?_
  refine v_bipush (v := 30) dX10_work_127 (by decide) ?_
  refine v_iload_n dX10_work_129 rfl rfl ?_
  refine v_imul dX10_work_130 ?_
  refine v_iload dX10_work_131 rfl ?_
  refine v_iadd dX10_work_133 ?_
  refine v_aload_n dX10_work_134 rfl rfl ?_
  obtain ⟨x22, hx22, h⟩ := ob_some h
  refine v_getR dX10_work_135 fl_X10_84 hx22 ?_
  refine v_iload dX10_work_138 rfl ?_
  obtain ⟨x23, hx23, h⟩ := ob_some h
  refine v_iald dX10_work_140 hx23 ?_
  obtain ⟨f24, hf24, h⟩ := ob_some h
  refine v_iast dX10_work_141 hf24 ?_
  refine v_iinc (v := (v5 + 1)) (ls1 := [(5, .int (v5 + 1)), (4, .int s0), (0, .ref v0), (1, .int v1)]) dX10_work_142 rfl rfl (by decide) rfl ?_
  refine v_goto (tgt := 80) dX10_work_145 (by decide) ?_
  exact v_sub (vs_c rfl (vs_c rfl (vs_c rfl (vs_c rfl vs_n)))) (hk80 v0 v1 s0 (v5 + 1) f24 h)

set_option maxRecDepth 20000 in
theorem tX10_work_116 {l : Launch} {g : GT} {sz : Option Nat} (N : Nat) (k80 : Nat → Int32 → Int32 → Int32 → HF → Option (Int32 × HF)) {r : (Int32 × HF)} (hk80 : ∀ (w0 : Nat) (w1 : Int32) (w4 : Int32) (w5 : Int32) (f : HF), k80 w0 w1 w4 w5 f = some r → V l g (fun _ => True) (RX10, cX10_work, 6, (Option.some Jvm.ClassFile.FieldType.boolean), [], "work") 4 (roI (.inl r.1) r.2 sz) 80 [(0, .ref w0), (1, .int w1), (4, .int w4), (5, .int w5)] [] f sz 0 0) : ∀ (v0 : Nat) (v1 : Int32) (v5 : Int32) (f : HF), DX10_work_116 N k80 v0 v1 v5 f = some r → V l g (fun _ => True) (RX10, cX10_work, 6, (Option.some Jvm.ClassFile.FieldType.boolean), [], "work") 4 (roI (.inl r.1) r.2 sz) 116 [(0, .ref v0), (1, .int v1), (5, .int v5)] [] f sz 0 0 := by
  intro v0 v1 v5 f h
  unfold DX10_work_116 at h
  refine v_iconst (v := 1) dX10_work_116 (by decide) ?_
  refine v_goto (tgt := 121) dX10_work_117 (by decide) ?_
  exact v_sub (vs_c rfl (vs_c rfl (vs_c rfl vs_n))) (tX10_work_121 N k80 hk80 v0 v1 v5 (1 : Int32) f h)

set_option maxRecDepth 20000 in
theorem tX10_work_80 {l : Launch} {g : GT} {sz : Option Nat} (N : Nat)  {r : (Int32 × HF)} : ∀ (n : Nat), ∀ (v0 : Nat) (v1 : Int32) (v4 : Int32) (v5 : Int32) (f : HF), DX10_work_80 N n v0 v1 v4 v5 f = some r → V l g (fun _ => True) (RX10, cX10_work, 6, (Option.some Jvm.ClassFile.FieldType.boolean), [], "work") 4 (roI (.inl r.1) r.2 sz) 80 [(0, .ref v0), (1, .int v1), (4, .int v4), (5, .int v5)] [] f sz 0 0 := by
  intro n
  induction n with
  | zero => intro v0 v1 v4 v5 f h; cases h
  | succ n ih =>
    intro v0 v1 v4 v5 f h
    rw [DX10_work_80] at h
    refine v_iload dX10_work_80 rfl ?_
    refine v_aload_n dX10_work_82 rfl rfl ?_
    obtain ⟨x17, hx17, h⟩ := ob_some h
    refine v_getI dX10_work_83 fl_X10_180 hx17 ?_
    refine v_icmp_ge (tgt := 148) dX10_work_86 (by decide) (fun c31 => ?_) (fun c31 => ?_)
    · replace h := ip_ c31 h
      refine v_aload_n dX10_work_148 rfl rfl ?_
      obtain ⟨x18, hx18, h⟩ := ob_some h
      refine v_getR dX10_work_149 fl_X10_38 hx18 ?_
      refine v_iload_n dX10_work_152 rfl rfl ?_
      refine v_aload_n dX10_work_153 rfl rfl ?_
      obtain ⟨x19, hx19, h⟩ := ob_some h
      refine v_getI dX10_work_154 fl_X10_180 hx19 ?_
      obtain ⟨f20, hf20, h⟩ := ob_some h
      refine v_iast dX10_work_157 hf20 ?_
      refine v_iload dX10_work_158 rfl ?_
      obtain ⟨hB, h⟩ := if_some h
      obtain rfl := Option.some.inj h
      exact v_zret dX10_work_160 rfl hB rfl
    · replace h := in_ c31 h
      refine v_iload dX10_work_89 rfl ?_
      refine v_if_ne (tgt := 116) dX10_work_91 (by decide) (fun c30 => ?_) (fun c30 => ?_)
      · replace h := in_ c30 h
        exact v_sub (vs_c rfl (vs_c rfl (vs_c rfl vs_n))) (tX10_work_116 N (DX10_work_80 N n) ih v0 v1 v5 f h)
      · replace h := ip_ c30 h
        refine v_aload_n dX10_work_94 rfl rfl ?_
        obtain ⟨x25, hx25, h⟩ := ob_some h
        refine v_getR dX10_work_95 fl_X10_35 hx25 ?_
        refine v_bipush (v := 30) dX10_work_98 (by decide) ?_
        refine v_iload_n dX10_work_100 rfl rfl ?_
        refine v_imul dX10_work_101 ?_
        refine v_iload dX10_work_102 rfl ?_
        refine v_iadd dX10_work_104 ?_
        obtain ⟨x26, hx26, h⟩ := ob_some h
        refine v_iald dX10_work_105 hx26 ?_
        refine v_aload_n dX10_work_106 rfl rfl ?_
        obtain ⟨x27, hx27, h⟩ := ob_some h
        refine v_getR dX10_work_107 fl_X10_84 hx27 ?_
        refine v_iload dX10_work_110 rfl ?_
        obtain ⟨x28, hx28, h⟩ := ob_some h
        refine v_iald dX10_work_112 hx28 ?_
        refine v_icmp_eq (tgt := 120) dX10_work_113 (by decide) (fun c29 => ?_) (fun c29 => ?_)
        · replace h := ip_ c29 h
          refine v_iconst (v := 0) dX10_work_120 (by decide) ?_
          exact v_sub (vs_c rfl (vs_c rfl (vs_c rfl vs_n))) (tX10_work_121 N (DX10_work_80 N n) ih v0 v1 v5 (0 : Int32) f h)
        · replace h := in_ c29 h
          exact v_sub (vs_c rfl (vs_c rfl (vs_c rfl vs_n))) (tX10_work_116 N (DX10_work_80 N n) ih v0 v1 v5 f h)

set_option maxRecDepth 20000 in
theorem tX10_work_75 {l : Launch} {g : GT} {sz : Option Nat} (N : Nat)  {r : (Int32 × HF)} : ∀ (v0 : Nat) (v1 : Int32) (s0 : Int32) (f : HF), DX10_work_75 N v0 v1 s0 f = some r → V l g (fun _ => True) (RX10, cX10_work, 6, (Option.some Jvm.ClassFile.FieldType.boolean), [], "work") 4 (roI (.inl r.1) r.2 sz) 75 [(0, .ref v0), (1, .int v1)] [.int s0] f sz 0 0 := by
  intro v0 v1 s0 f h
  unfold DX10_work_75 at h
  refine v_istore (ls1 := [(4, .int s0), (0, .ref v0), (1, .int v1)]) dX10_work_75 (by decide) rfl ?_
  refine v_iconst (v := 0) dX10_work_77 (by decide) ?_
  refine v_istore (ls1 := [(5, .int (0 : Int32)), (4, .int s0), (0, .ref v0), (1, .int v1)]) dX10_work_78 (by decide) rfl ?_
  exact v_sub (vs_c rfl (vs_c rfl (vs_c rfl (vs_c rfl vs_n)))) (tX10_work_80 N N v0 v1 s0 (0 : Int32) f h)

set_option maxRecDepth 20000 in
theorem kX10_work (N : Nat) (this : Nat) (p0 : Int32) (f : HF) {r : (Int32 × HF)} (h : DX10_work N this p0 f = some r) : ck f this 9 = some () := by
  unfold DX10_work at h
  obtain ⟨_, hck, _⟩ := ob_some h
  exact hck

set_option maxRecDepth 20000 in
theorem tX10_work {l : Launch} {g : GT} {sz : Option Nat} (N : Nat) (this : Nat) (p0 : Int32) (f : HF) {r : (Int32 × HF)} (h : DX10_work N this p0 f = some r) : Mt l g yX10_work cX10_work 6 (Option.some Jvm.ClassFile.FieldType.boolean) 4 [.ref this, .int p0] f sz (roI (.inl r.1) r.2 sz) := by
  unfold DX10_work at h
  obtain ⟨_, hck, h⟩ := ob_some h
  refine mt_of (by decide) (Nat.le_of_ble_eq_true rfl) (?_ : V l g (fun _ => True) (RX10, cX10_work, 6, (Option.some Jvm.ClassFile.FieldType.boolean), [], "work") 4 (roI (.inl r.1) r.2 sz) 0 [(0, .ref this), (1, .int p0)] [] f sz 0 0)
  refine v_aload_n dX10_work_0 rfl rfl ?_
  refine v_iload_n dX10_work_1 rfl rfl ?_
  obtain ⟨x1, hx2, h⟩ := ob_some h
  have ehx2 := tX10_result (l := l) (g := g) (sz := sz) N this p0 f hx2
  refine v_cVL dX10_work_2 ml_X10_226 ok_X10_result ehx2 (kX10_result N this p0 f hx2) rfl (by decide) rfl (rest := []) rfl (Nat.le_of_ble_eq_true rfl) ?_
  refine v_lstore_n (ls1 := [(2, .long x1), (0, .ref this), (1, .int p0)]) dX10_work_5 rfl (by decide) rfl ?_
  refine v_lload_n dX10_work_6 rfl rfl ?_
  refine v_ldc2 dX10_work_7 kc_X10_178 ?_
  refine v_lcmp_eq (tgt := 25) dX10_work_10 dX10_work_11 (by decide) (fun c34 => ?_) (fun c34 => ?_)
  · replace h := ip_ c34 h
    exact v_sub (vs_c rfl (vs_c rfl vs_n)) (tX10_work_25 N this p0 f h)
  · replace h := in_ c34 h
    refine v_lload_n dX10_work_14 rfl rfl ?_
    obtain ⟨x8, hx9, h⟩ := ob_some h
    have ehx9 := tX10_abs (l := l) (g := g) (sz := sz) N x1 f hx9
    refine v_cSL dX10_work_15 ml_X10_213 ok_X10_abs ehx9 (by decide) rfl (rest := []) rfl (Nat.le_of_ble_eq_true rfl) ?_
    refine v_ldc2 dX10_work_18 kc_X10_127 ?_
    refine v_lcmp_le (tgt := 47) dX10_work_21 dX10_work_22 (by decide) (fun c33 => ?_) (fun c33 => ?_)
    · replace h := ip_ c33 h
      refine v_aload_n dX10_work_47 rfl rfl ?_
      refine v_iconst (v := 0) dX10_work_48 (by decide) ?_
      obtain ⟨f10, hf10, h⟩ := ob_some h
      refine v_pI dX10_work_49 fp_X10_180 hf10 ?_
      refine v_aload_n dX10_work_52 rfl rfl ?_
      refine v_lload_n dX10_work_53 rfl rfl ?_
      obtain ⟨x11, f13, hx12, h⟩ := bW_some h
      have ehx12 := tX10_putAmount (l := l) (g := g) (sz := sz) N this x1 f10 hx12
      refine v_cVU dX10_work_54 ml_X10_232 ok_X10_putAmount ehx12 (kX10_putAmount N this x1 f10 hx12) rfl (by decide) rfl (rest := []) rfl (Nat.le_of_ble_eq_true rfl) ?_
      refine v_aload_n dX10_work_57 rfl rfl ?_
      obtain ⟨x14, hx14, h⟩ := ob_some h
      refine v_getR dX10_work_58 fl_X10_38 hx14 ?_
      refine v_iload_n dX10_work_61 rfl rfl ?_
      obtain ⟨x15, hx15, h⟩ := ob_some h
      refine v_iald dX10_work_62 hx15 ?_
      refine v_aload_n dX10_work_63 rfl rfl ?_
      obtain ⟨x16, hx16, h⟩ := ob_some h
      refine v_getI dX10_work_64 fl_X10_180 hx16 ?_
      refine v_icmp_eq (tgt := 74) dX10_work_67 (by decide) (fun c32 => ?_) (fun c32 => ?_)
      · replace h := ip_ c32 h
        refine v_iconst (v := 0) dX10_work_74 (by decide) ?_
        exact v_sub (vs_c rfl (vs_c rfl vs_n)) (tX10_work_75 N this p0 (0 : Int32) f13 h)
      · replace h := in_ c32 h
        refine v_iconst (v := 1) dX10_work_70 (by decide) ?_
        refine v_goto (tgt := 75) dX10_work_71 (by decide) ?_
        exact v_sub (vs_c rfl (vs_c rfl vs_n)) (tX10_work_75 N this p0 (1 : Int32) f13 h)
    · replace h := in_ c33 h
      exact v_sub (vs_c rfl (vs_c rfl vs_n)) (tX10_work_25 N this p0 f h)

