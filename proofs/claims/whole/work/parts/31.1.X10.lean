/-! X10 mayPick (R) -/
def DX10_mayPick (N : Nat) (this : Nat) (p0 : Int32) (p1 : Int32) (f : HF) : Option Int32 :=
  (ck f this 9).bind fun _ =>
  if p1 = (-1 : Int32) then
    (gR f this 9 2).bind fun x5 =>
    (aI f x5 0 p0).bind fun x6 =>
    if x6 = (4 : Int32) then
      some (1 : Int32)
    else
      (gR f this 9 15).bind fun x7 =>
      (aI f x7 0 (((5 : Int32) * p0) + (2 : Int32))).bind fun x8 =>
      if x8 = (1 : Int32) then
        some (1 : Int32)
      else
        (gR f this 9 12).bind fun x9 =>
        (aI f x9 0 p0).bind fun x10 =>
        if x10 = (-1 : Int32) then
          some (1 : Int32)
        else
          some (0 : Int32)
  else
    (gR f this 9 14).bind fun x1 =>
    (aI f x1 0 p0).bind fun x2 =>
    (DX10_isIn N (p1.toInt64) (0 : Int64) ((x2.toInt64) - (1 : Int64)) f).bind fun x3 =>
    if x3 = 0 ∨ x3 = 1 then some x3 else none

set_option maxRecDepth 20000 in
theorem kX10_mayPick (N : Nat) (this : Nat) (p0 : Int32) (p1 : Int32) (f : HF) {r : Int32} (h : DX10_mayPick N this p0 p1 f = some r) : ck f this 9 = some () := by
  unfold DX10_mayPick at h
  obtain ⟨_, hck, _⟩ := ob_some h
  exact hck

set_option maxRecDepth 20000 in
theorem tX10_mayPick {l : Launch} {g : GT} {sz : Option Nat} (N : Nat) (this : Nat) (p0 : Int32) (p1 : Int32) (f : HF) {r : Int32} (h : DX10_mayPick N this p0 p1 f = some r) : Mt l g yX10_mayPick cX10_mayPick 3 (Option.some Jvm.ClassFile.FieldType.boolean) 1 [.ref this, .int p0, .int p1] f sz (roI (.inl r) f sz) := by
  unfold DX10_mayPick at h
  obtain ⟨_, hck, h⟩ := ob_some h
  refine mt_of (by decide) (Nat.le_of_ble_eq_true rfl) (?_ : V l g (fun _ => True) (RX10, cX10_mayPick, 3, (Option.some Jvm.ClassFile.FieldType.boolean), [], "mayPick") 1 (roI (.inl r) f sz) 0 [(0, .ref this), (1, .int p0), (2, .int p1)] [] f sz 0 0)
  refine v_iload_n dX10_mayPick_0 rfl rfl ?_
  refine v_iconst (v := -1) dX10_mayPick_1 (by decide) ?_
  refine v_icmp_ne (tgt := 47) dX10_mayPick_2 (by decide) (fun c14 => ?_) (fun c14 => ?_)
  · replace h := in_ c14 h
    refine v_iload_n dX10_mayPick_47 rfl rfl ?_
    refine v_i2l dX10_mayPick_48 ?_
    refine v_lconst (v := 0) dX10_mayPick_49 (by decide) ?_
    refine v_aload_n dX10_mayPick_50 rfl rfl ?_
    obtain ⟨x1, hx1, h⟩ := ob_some h
    refine v_getR dX10_mayPick_51 fl_X10_47 hx1 ?_
    refine v_iload_n dX10_mayPick_54 rfl rfl ?_
    obtain ⟨x2, hx2, h⟩ := ob_some h
    refine v_iald dX10_mayPick_55 hx2 ?_
    refine v_i2l dX10_mayPick_56 ?_
    refine v_lconst (v := 1) dX10_mayPick_57 (by decide) ?_
    refine v_lsub dX10_mayPick_58 ?_
    obtain ⟨x3, hx4, h⟩ := ob_some h
    have ehx4 := tX10_isIn (l := l) (g := g) (sz := sz) N (p1.toInt64) (0 : Int64) ((x2.toInt64) - (1 : Int64)) f hx4
    refine v_cSI dX10_mayPick_59 ml_X10_115 ok_X10_isIn ehx4 (by decide) rfl (rest := []) rfl (Nat.le_of_ble_eq_true rfl) ?_
    obtain ⟨hB, h⟩ := if_some h
    obtain rfl := Option.some.inj h
    exact v_zret dX10_mayPick_62 rfl hB rfl
  · replace h := ip_ c14 h
    refine v_aload_n dX10_mayPick_5 rfl rfl ?_
    obtain ⟨x5, hx5, h⟩ := ob_some h
    refine v_getR dX10_mayPick_6 fl_X10_7 hx5 ?_
    refine v_iload_n dX10_mayPick_9 rfl rfl ?_
    obtain ⟨x6, hx6, h⟩ := ob_some h
    refine v_iald dX10_mayPick_10 hx6 ?_
    refine v_iconst (v := 4) dX10_mayPick_11 (by decide) ?_
    refine v_icmp_eq (tgt := 39) dX10_mayPick_12 (by decide) (fun c13 => ?_) (fun c13 => ?_)
    · replace h := ip_ c13 h
      refine v_iconst (v := 1) dX10_mayPick_39 (by decide) ?_
      refine v_goto (tgt := 62) dX10_mayPick_40 (by decide) ?_
      obtain rfl := Option.some.inj h
      exact v_zret dX10_mayPick_62 rfl (Or.inr rfl) rfl
    · replace h := in_ c13 h
      refine v_aload_n dX10_mayPick_15 rfl rfl ?_
      obtain ⟨x7, hx7, h⟩ := ob_some h
      refine v_getR dX10_mayPick_16 fl_X10_50 hx7 ?_
      refine v_iconst (v := 5) dX10_mayPick_19 (by decide) ?_
      refine v_iload_n dX10_mayPick_20 rfl rfl ?_
      refine v_imul dX10_mayPick_21 ?_
      refine v_iconst (v := 2) dX10_mayPick_22 (by decide) ?_
      refine v_iadd dX10_mayPick_23 ?_
      obtain ⟨x8, hx8, h⟩ := ob_some h
      refine v_iald dX10_mayPick_24 hx8 ?_
      refine v_iconst (v := 1) dX10_mayPick_25 (by decide) ?_
      refine v_icmp_eq (tgt := 39) dX10_mayPick_26 (by decide) (fun c12 => ?_) (fun c12 => ?_)
      · replace h := ip_ c12 h
        refine v_iconst (v := 1) dX10_mayPick_39 (by decide) ?_
        refine v_goto (tgt := 62) dX10_mayPick_40 (by decide) ?_
        obtain rfl := Option.some.inj h
        exact v_zret dX10_mayPick_62 rfl (Or.inr rfl) rfl
      · replace h := in_ c12 h
        refine v_aload_n dX10_mayPick_29 rfl rfl ?_
        obtain ⟨x9, hx9, h⟩ := ob_some h
        refine v_getR dX10_mayPick_30 fl_X10_41 hx9 ?_
        refine v_iload_n dX10_mayPick_33 rfl rfl ?_
        obtain ⟨x10, hx10, h⟩ := ob_some h
        refine v_iald dX10_mayPick_34 hx10 ?_
        refine v_iconst (v := -1) dX10_mayPick_35 (by decide) ?_
        refine v_icmp_ne (tgt := 43) dX10_mayPick_36 (by decide) (fun c11 => ?_) (fun c11 => ?_)
        · replace h := in_ c11 h
          refine v_iconst (v := 0) dX10_mayPick_43 (by decide) ?_
          refine v_goto (tgt := 62) dX10_mayPick_44 (by decide) ?_
          obtain rfl := Option.some.inj h
          exact v_zret dX10_mayPick_62 rfl (Or.inl rfl) rfl
        · replace h := ip_ c11 h
          refine v_iconst (v := 1) dX10_mayPick_39 (by decide) ?_
          refine v_goto (tgt := 62) dX10_mayPick_40 (by decide) ?_
          obtain rfl := Option.some.inj h
          exact v_zret dX10_mayPick_62 rfl (Or.inr rfl) rfl

/-! X10 value (W) -/
def DX10_value_247 (N : Nat)  (v0 : Nat) (v3 : Int32) (f : HF) : Option (Int32 × HF) :=
    (gR f v0 9 11).bind fun x26 =>
    (aI f x26 0 v3).bind fun x27 =>
    some (x27, f)

def DX10_value_177 (N : Nat)  (v0 : Nat) (v2 : Int32) (v3 : Int32) (s0 : Nat) (s1 : Int32) (f : HF) : Option (Int32 × HF) :=
    (pV f s0 9 0 (.int s1)).bind fun f15 =>
    (gI f15 v0 9 0).bind fun x16 =>
    if x16 ≤ 0 then
      (DX10_isSigned N v0 v3 f15).bind fun x17 =>
      if x17 = 0 then
        (gR f15 v0 9 12).bind fun x31 =>
        (sI f15 x31 0 v3 v2).bind fun f32 =>
        some (v2, f32)
      else
        if 0 ≤ v2 then
          (gR f15 v0 9 10).bind fun x19 =>
          (gR f15 v0 9 11).bind fun x20 =>
          (aI f15 x20 0 v3).bind fun x21 =>
          (sI f15 x19 0 (((30 : Int32) * v3) + x21) v2).bind fun f22 =>
          (gR f22 v0 9 11).bind fun x23 =>
          (aI f22 x23 0 v3).bind fun x24 =>
          (sI f22 x23 0 v3 (x24 + (1 : Int32))).bind fun f25 =>
          DX10_value_247 N v0 v3 f25
        else
          (gR f15 v0 9 11).bind fun x28 =>
          (sI f15 x28 0 v3 (0 : Int32)).bind fun f29 =>
          DX10_value_247 N v0 v3 f29
    else
      some ((0 : Int32), f15)

def DX10_value_142 (N : Nat)  (v0 : Nat) (v2 : Int32) (v3 : Int32) (s0 : Nat) (f : HF) : Option (Int32 × HF) :=
    DX10_value_177 N v0 v2 v3 s0 (3 : Int32) f

def DX10_value_176 (N : Nat)  (v0 : Nat) (v2 : Int32) (v3 : Int32) (s0 : Nat) (f : HF) : Option (Int32 × HF) :=
    DX10_value_177 N v0 v2 v3 s0 (0 : Int32) f

def DX10_value_112 (N : Nat)  (v0 : Nat) (v1 : Int32) (v2 : Int32) (v3 : Int32) (s0 : Int32) (f : HF) : Option (Int32 × HF) :=
    if s0 = 0 then
      DX10_value_177 N v0 v2 v3 v0 (2 : Int32) f
    else
      (gR f v0 9 22).bind fun x13 =>
      (aI f x13 2 v3).bind fun x14 =>
      if x14 = 0 then
        (gR f v0 9 9).bind fun x35 =>
        (aI f x35 2 v1).bind fun x36 =>
        if x36 = 0 then
          (DX10_isSigned N v0 v3 f).bind fun x37 =>
          if x37 = 0 then
            DX10_value_176 N v0 v2 v3 v0 f
          else
            if v2 < 0 then
              DX10_value_176 N v0 v2 v3 v0 f
            else
              (gR f v0 9 11).bind fun x39 =>
              (aI f x39 0 v3).bind fun x40 =>
              (DX10_most N v0 v3 f).bind fun x41 =>
              if x40 < x41 then
                DX10_value_176 N v0 v2 v3 v0 f
              else
                DX10_value_177 N v0 v2 v3 v0 (4 : Int32) f
        else
          DX10_value_142 N v0 v2 v3 v0 f
      else
        DX10_value_142 N v0 v2 v3 v0 f

def DX10_value_111 (N : Nat)  (v0 : Nat) (v1 : Int32) (v2 : Int32) (v3 : Int32) (f : HF) : Option (Int32 × HF) :=
    DX10_value_112 N v0 v1 v2 v3 (0 : Int32) f

def DX10_value_82 (N : Nat)  (v0 : Nat) (v1 : Int32) (v2 : Int32) (v3 : Int32) (f : HF) : Option (Int32 × HF) :=
    DX10_value_112 N v0 v1 v2 v3 (1 : Int32) f

def DX10_value_55 (N : Nat)  (v0 : Nat) (v1 : Int32) (v2 : Int32) (v3 : Int32) (f : HF) : Option (Int32 × HF) :=
    DX10_value_112 N v0 v1 v2 v3 (1 : Int32) f

def DX10_value_14 (N : Nat)  (v0 : Nat) (v1 : Int32) (v2 : Int32) (s0 : Nat) (s1 : Int32) (f : HF) : Option (Int32 × HF) :=
    (pV f s0 9 0 (.int s1)).bind fun f3 =>
    (gI f3 v0 9 0).bind fun x4 =>
    if x4 ≤ 0 then
      (gR f3 v0 9 5).bind fun x5 =>
      (aI f3 x5 0 v1).bind fun x6 =>
      (DX10_isSigned N v0 x6 f3).bind fun x7 =>
      if x7 = 0 then
        (gR f3 v0 9 2).bind fun x9 =>
        (aI f3 x9 0 x6).bind fun x10 =>
        if x10 = (2 : Int32) then
          if v2 = 0 then
            DX10_value_82 N v0 v1 v2 x6 f3
          else
            if v2 = (1 : Int32) then
              DX10_value_82 N v0 v1 v2 x6 f3
            else
              DX10_value_112 N v0 v1 v2 x6 (0 : Int32) f3
        else
          (DX10_isPicked N v0 x6 f3).bind fun x11 =>
          if x11 = 0 then
            DX10_value_111 N v0 v1 v2 x6 f3
          else
            (DX10_mayPick N v0 x6 v2 f3).bind fun x49 =>
            if x49 = 0 then
              DX10_value_111 N v0 v1 v2 x6 f3
            else
              DX10_value_112 N v0 v1 v2 x6 (1 : Int32) f3
      else
        if v2 = (-1 : Int32) then
          DX10_value_55 N v0 v1 v2 x6 f3
        else
          (DX10_isSign N v0 x6 v2 f3).bind fun x56 =>
          if x56 = 0 then
            DX10_value_112 N v0 v1 v2 x6 (0 : Int32) f3
          else
            DX10_value_55 N v0 v1 v2 x6 f3
    else
      some ((0 : Int32), f3)

def DX10_value (N : Nat) (this : Nat) (p0 : Int32) (p1 : Int32) (f : HF) : Option (Int32 × HF) :=
  (ck f this 9).bind fun _ =>
  (DX10_no N this p0 f).bind fun x1 =>
  if x1 = 0 then
    DX10_value_14 N this p0 p1 this (0 : Int32) f
  else
    DX10_value_14 N this p0 p1 this (1 : Int32) f

set_option maxRecDepth 20000 in
theorem tX10_value_247 {l : Launch} {g : GT} {sz : Option Nat} (N : Nat)  {r : (Int32 × HF)} : ∀ (v0 : Nat) (v3 : Int32) (f : HF), DX10_value_247 N v0 v3 f = some r → V l g (fun _ => True) (RX10, cX10_value, 5, (Option.some Jvm.ClassFile.FieldType.int), [], "value") 2 (roI (.inl r.1) r.2 sz) 247 [(0, .ref v0), (3, .int v3)] [] f sz 0 0 := by
  intro v0 v3 f h
  unfold DX10_value_247 at h
  refine v_aload_n dX10_value_247 rfl rfl ?_
  obtain ⟨x26, hx26, h⟩ := ob_some h
  refine v_getR dX10_value_248 fl_X10_38 hx26 ?_
  refine v_iload_n dX10_value_251 rfl rfl ?_
  obtain ⟨x27, hx27, h⟩ := ob_some h
  refine v_iald dX10_value_252 hx27 ?_
  obtain rfl := Option.some.inj h
  exact v_iret dX10_value_253 rfl rfl

set_option maxRecDepth 20000 in
theorem tX10_value_177 {l : Launch} {g : GT} {sz : Option Nat} (N : Nat)  {r : (Int32 × HF)} : ∀ (v0 : Nat) (v2 : Int32) (v3 : Int32) (s0 : Nat) (s1 : Int32) (f : HF), DX10_value_177 N v0 v2 v3 s0 s1 f = some r → V l g (fun _ => True) (RX10, cX10_value, 5, (Option.some Jvm.ClassFile.FieldType.int), [], "value") 2 (roI (.inl r.1) r.2 sz) 177 [(0, .ref v0), (2, .int v2), (3, .int v3)] [.int s1, .ref s0] f sz 0 0 := by
  intro v0 v2 v3 s0 s1 f h
  unfold DX10_value_177 at h
  obtain ⟨f15, hf15, h⟩ := ob_some h
  refine v_pI dX10_value_177 fp_X10_102 hf15 ?_
  refine v_aload_n dX10_value_180 rfl rfl ?_
  obtain ⟨x16, hx16, h⟩ := ob_some h
  refine v_getI dX10_value_181 fl_X10_102 hx16 ?_
  refine v_if_le (tgt := 189) dX10_value_184 (by decide) (fun c34 => ?_) (fun c34 => ?_)
  · replace h := ip_ c34 h
    refine v_aload_n dX10_value_189 rfl rfl ?_
    refine v_iload_n dX10_value_190 rfl rfl ?_
    obtain ⟨x17, hx18, h⟩ := ob_some h
    have ehx18 := tX10_isSigned (l := l) (g := g) (sz := sz) N v0 v3 f15 hx18
    refine v_cVI dX10_value_191 ml_X10_140 ok_X10_isSigned ehx18 (kX10_isSigned N v0 v3 f15 hx18) rfl (by decide) rfl (rest := []) rfl (Nat.le_of_ble_eq_true rfl) ?_
    refine v_if_ne (tgt := 206) dX10_value_194 (by decide) (fun c33 => ?_) (fun c33 => ?_)
    · replace h := in_ c33 h
      refine v_iload_n dX10_value_206 rfl rfl ?_
      refine v_if_ge (tgt := 220) dX10_value_207 (by decide) (fun c30 => ?_) (fun c30 => ?_)
      · replace h := ip_ c30 h
        refine v_aload_n dX10_value_220 rfl rfl ?_
        obtain ⟨x19, hx19, h⟩ := ob_some h
        refine v_getR dX10_value_221 fl_X10_35 hx19 ?_
        refine v_bipush (v := 30) dX10_value_224 (by decide) ?_
        refine v_iload_n dX10_value_226 rfl rfl ?_
        refine v_imul dX10_value_227 ?_
        refine v_aload_n dX10_value_228 rfl rfl ?_
        obtain ⟨x20, hx20, h⟩ := ob_some h
        refine v_getR dX10_value_229 fl_X10_38 hx20 ?_
        refine v_iload_n dX10_value_232 rfl rfl ?_
        obtain ⟨x21, hx21, h⟩ := ob_some h
        refine v_iald dX10_value_233 hx21 ?_
        refine v_iadd dX10_value_234 ?_
        refine v_iload_n dX10_value_235 rfl rfl ?_
        obtain ⟨f22, hf22, h⟩ := ob_some h
        refine v_iast dX10_value_236 hf22 ?_
        refine v_aload_n dX10_value_237 rfl rfl ?_
        obtain ⟨x23, hx23, h⟩ := ob_some h
        refine v_getR dX10_value_238 fl_X10_38 hx23 ?_
        refine v_iload_n dX10_value_241 rfl rfl ?_
        refine v_dup2_11 dX10_value_242 rfl rfl ?_
        obtain ⟨x24, hx24, h⟩ := ob_some h
        refine v_iald dX10_value_243 hx24 ?_
        refine v_iconst (v := 1) dX10_value_244 (by decide) ?_
        refine v_iadd dX10_value_245 ?_
        obtain ⟨f25, hf25, h⟩ := ob_some h
        refine v_iast dX10_value_246 hf25 ?_
        exact v_sub (vs_c rfl (vs_c rfl vs_n)) (tX10_value_247 N v0 v3 f25 h)
      · replace h := in_ c30 h
        refine v_aload_n dX10_value_210 rfl rfl ?_
        obtain ⟨x28, hx28, h⟩ := ob_some h
        refine v_getR dX10_value_211 fl_X10_38 hx28 ?_
        refine v_iload_n dX10_value_214 rfl rfl ?_
        refine v_iconst (v := 0) dX10_value_215 (by decide) ?_
        obtain ⟨f29, hf29, h⟩ := ob_some h
        refine v_iast dX10_value_216 hf29 ?_
        refine v_goto (tgt := 247) dX10_value_217 (by decide) ?_
        exact v_sub (vs_c rfl (vs_c rfl vs_n)) (tX10_value_247 N v0 v3 f29 h)
    · replace h := ip_ c33 h
      refine v_aload_n dX10_value_197 rfl rfl ?_
      obtain ⟨x31, hx31, h⟩ := ob_some h
      refine v_getR dX10_value_198 fl_X10_41 hx31 ?_
      refine v_iload_n dX10_value_201 rfl rfl ?_
      refine v_iload_n dX10_value_202 rfl rfl ?_
      obtain ⟨f32, hf32, h⟩ := ob_some h
      refine v_iast dX10_value_203 hf32 ?_
      refine v_iload_n dX10_value_204 rfl rfl ?_
      obtain rfl := Option.some.inj h
      exact v_iret dX10_value_205 rfl rfl
  · replace h := in_ c34 h
    refine v_iconst (v := 0) dX10_value_187 (by decide) ?_
    obtain rfl := Option.some.inj h
    exact v_iret dX10_value_188 rfl rfl

set_option maxRecDepth 20000 in
theorem tX10_value_142 {l : Launch} {g : GT} {sz : Option Nat} (N : Nat)  {r : (Int32 × HF)} : ∀ (v0 : Nat) (v2 : Int32) (v3 : Int32) (s0 : Nat) (f : HF), DX10_value_142 N v0 v2 v3 s0 f = some r → V l g (fun _ => True) (RX10, cX10_value, 5, (Option.some Jvm.ClassFile.FieldType.int), [], "value") 2 (roI (.inl r.1) r.2 sz) 142 [(0, .ref v0), (2, .int v2), (3, .int v3)] [.ref s0] f sz 0 0 := by
  intro v0 v2 v3 s0 f h
  unfold DX10_value_142 at h
  refine v_iconst (v := 3) dX10_value_142 (by decide) ?_
  refine v_goto (tgt := 177) dX10_value_143 (by decide) ?_
  exact v_sub (vs_c rfl (vs_c rfl (vs_c rfl vs_n))) (tX10_value_177 N v0 v2 v3 s0 (3 : Int32) f h)

set_option maxRecDepth 20000 in
theorem tX10_value_176 {l : Launch} {g : GT} {sz : Option Nat} (N : Nat)  {r : (Int32 × HF)} : ∀ (v0 : Nat) (v2 : Int32) (v3 : Int32) (s0 : Nat) (f : HF), DX10_value_176 N v0 v2 v3 s0 f = some r → V l g (fun _ => True) (RX10, cX10_value, 5, (Option.some Jvm.ClassFile.FieldType.int), [], "value") 2 (roI (.inl r.1) r.2 sz) 176 [(0, .ref v0), (2, .int v2), (3, .int v3)] [.ref s0] f sz 0 0 := by
  intro v0 v2 v3 s0 f h
  unfold DX10_value_176 at h
  refine v_iconst (v := 0) dX10_value_176 (by decide) ?_
  exact v_sub (vs_c rfl (vs_c rfl (vs_c rfl vs_n))) (tX10_value_177 N v0 v2 v3 s0 (0 : Int32) f h)

set_option maxRecDepth 20000 in
theorem tX10_value_112 {l : Launch} {g : GT} {sz : Option Nat} (N : Nat)  {r : (Int32 × HF)} : ∀ (v0 : Nat) (v1 : Int32) (v2 : Int32) (v3 : Int32) (s0 : Int32) (f : HF), DX10_value_112 N v0 v1 v2 v3 s0 f = some r → V l g (fun _ => True) (RX10, cX10_value, 5, (Option.some Jvm.ClassFile.FieldType.int), [], "value") 2 (roI (.inl r.1) r.2 sz) 112 [(0, .ref v0), (1, .int v1), (2, .int v2), (3, .int v3)] [.int s0] f sz 0 0 := by
  intro v0 v1 v2 v3 s0 f h
  unfold DX10_value_112 at h
  refine v_istore (ls1 := [(4, .int s0), (0, .ref v0), (1, .int v1), (2, .int v2), (3, .int v3)]) dX10_value_112 (by decide) rfl ?_
  refine v_aload_n dX10_value_114 rfl rfl ?_
  refine v_iload dX10_value_115 rfl ?_
  refine v_if_ne (tgt := 124) dX10_value_117 (by decide) (fun c48 => ?_) (fun c48 => ?_)
  · replace h := in_ c48 h
    refine v_aload_n dX10_value_124 rfl rfl ?_
    obtain ⟨x13, hx13, h⟩ := ob_some h
    refine v_getR dX10_value_125 fl_X10_72 hx13 ?_
    refine v_iload_n dX10_value_128 rfl rfl ?_
    obtain ⟨x14, hx14, h⟩ := ob_some h
    refine v_zald dX10_value_129 hx14 ?_
    refine v_if_ne (tgt := 142) dX10_value_130 (by decide) (fun c47 => ?_) (fun c47 => ?_)
    · replace h := in_ c47 h
      exact v_sub (vs_c rfl (vs_c rfl (vs_c rfl vs_n))) (tX10_value_142 N v0 v2 v3 v0 f h)
    · replace h := ip_ c47 h
      refine v_aload_n dX10_value_133 rfl rfl ?_
      obtain ⟨x35, hx35, h⟩ := ob_some h
      refine v_getR dX10_value_134 fl_X10_31 hx35 ?_
      refine v_iload_n dX10_value_137 rfl rfl ?_
      obtain ⟨x36, hx36, h⟩ := ob_some h
      refine v_zald dX10_value_138 hx36 ?_
      refine v_if_eq (tgt := 146) dX10_value_139 (by decide) (fun c46 => ?_) (fun c46 => ?_)
      · replace h := ip_ c46 h
        refine v_aload_n dX10_value_146 rfl rfl ?_
        refine v_iload_n dX10_value_147 rfl rfl ?_
        obtain ⟨x37, hx38, h⟩ := ob_some h
        have ehx38 := tX10_isSigned (l := l) (g := g) (sz := sz) N v0 v3 f hx38
        refine v_cVI dX10_value_148 ml_X10_140 ok_X10_isSigned ehx38 (kX10_isSigned N v0 v3 f hx38) rfl (by decide) rfl (rest := [.ref v0]) rfl (Nat.le_of_ble_eq_true rfl) ?_
        refine v_if_eq (tgt := 176) dX10_value_151 (by decide) (fun c45 => ?_) (fun c45 => ?_)
        · replace h := ip_ c45 h
          exact v_sub (vs_c rfl (vs_c rfl (vs_c rfl vs_n))) (tX10_value_176 N v0 v2 v3 v0 f h)
        · replace h := in_ c45 h
          refine v_iload_n dX10_value_154 rfl rfl ?_
          refine v_if_lt (tgt := 176) dX10_value_155 (by decide) (fun c44 => ?_) (fun c44 => ?_)
          · replace h := ip_ c44 h
            exact v_sub (vs_c rfl (vs_c rfl (vs_c rfl vs_n))) (tX10_value_176 N v0 v2 v3 v0 f h)
          · replace h := in_ c44 h
            refine v_aload_n dX10_value_158 rfl rfl ?_
            obtain ⟨x39, hx39, h⟩ := ob_some h
            refine v_getR dX10_value_159 fl_X10_38 hx39 ?_
            refine v_iload_n dX10_value_162 rfl rfl ?_
            obtain ⟨x40, hx40, h⟩ := ob_some h
            refine v_iald dX10_value_163 hx40 ?_
            refine v_aload_n dX10_value_164 rfl rfl ?_
            refine v_iload_n dX10_value_165 rfl rfl ?_
            obtain ⟨x41, hx42, h⟩ := ob_some h
            have ehx42 := tX10_most (l := l) (g := g) (sz := sz) N v0 v3 f hx42
            refine v_cVI dX10_value_166 ml_X10_152 ok_X10_most ehx42 (kX10_most N v0 v3 f hx42) rfl (by decide) rfl (rest := [.int x40, .ref v0]) rfl (Nat.le_of_ble_eq_true rfl) ?_
            refine v_icmp_lt (tgt := 176) dX10_value_169 (by decide) (fun c43 => ?_) (fun c43 => ?_)
            · replace h := ip_ c43 h
              exact v_sub (vs_c rfl (vs_c rfl (vs_c rfl vs_n))) (tX10_value_176 N v0 v2 v3 v0 f h)
            · replace h := in_ c43 h
              refine v_iconst (v := 4) dX10_value_172 (by decide) ?_
              refine v_goto (tgt := 177) dX10_value_173 (by decide) ?_
              exact v_sub (vs_c rfl (vs_c rfl (vs_c rfl vs_n))) (tX10_value_177 N v0 v2 v3 v0 (4 : Int32) f h)
      · replace h := in_ c46 h
        exact v_sub (vs_c rfl (vs_c rfl (vs_c rfl vs_n))) (tX10_value_142 N v0 v2 v3 v0 f h)
  · replace h := ip_ c48 h
    refine v_iconst (v := 2) dX10_value_120 (by decide) ?_
    refine v_goto (tgt := 177) dX10_value_121 (by decide) ?_
    exact v_sub (vs_c rfl (vs_c rfl (vs_c rfl vs_n))) (tX10_value_177 N v0 v2 v3 v0 (2 : Int32) f h)

set_option maxRecDepth 20000 in
theorem tX10_value_111 {l : Launch} {g : GT} {sz : Option Nat} (N : Nat)  {r : (Int32 × HF)} : ∀ (v0 : Nat) (v1 : Int32) (v2 : Int32) (v3 : Int32) (f : HF), DX10_value_111 N v0 v1 v2 v3 f = some r → V l g (fun _ => True) (RX10, cX10_value, 5, (Option.some Jvm.ClassFile.FieldType.int), [], "value") 2 (roI (.inl r.1) r.2 sz) 111 [(0, .ref v0), (1, .int v1), (2, .int v2), (3, .int v3)] [] f sz 0 0 := by
  intro v0 v1 v2 v3 f h
  unfold DX10_value_111 at h
  refine v_iconst (v := 0) dX10_value_111 (by decide) ?_
  exact v_sub (vs_c rfl (vs_c rfl (vs_c rfl (vs_c rfl vs_n)))) (tX10_value_112 N v0 v1 v2 v3 (0 : Int32) f h)

set_option maxRecDepth 20000 in
theorem tX10_value_82 {l : Launch} {g : GT} {sz : Option Nat} (N : Nat)  {r : (Int32 × HF)} : ∀ (v0 : Nat) (v1 : Int32) (v2 : Int32) (v3 : Int32) (f : HF), DX10_value_82 N v0 v1 v2 v3 f = some r → V l g (fun _ => True) (RX10, cX10_value, 5, (Option.some Jvm.ClassFile.FieldType.int), [], "value") 2 (roI (.inl r.1) r.2 sz) 82 [(0, .ref v0), (1, .int v1), (2, .int v2), (3, .int v3)] [] f sz 0 0 := by
  intro v0 v1 v2 v3 f h
  unfold DX10_value_82 at h
  refine v_iconst (v := 1) dX10_value_82 (by decide) ?_
  refine v_goto (tgt := 112) dX10_value_83 (by decide) ?_
  exact v_sub (vs_c rfl (vs_c rfl (vs_c rfl (vs_c rfl vs_n)))) (tX10_value_112 N v0 v1 v2 v3 (1 : Int32) f h)

set_option maxRecDepth 20000 in
theorem tX10_value_55 {l : Launch} {g : GT} {sz : Option Nat} (N : Nat)  {r : (Int32 × HF)} : ∀ (v0 : Nat) (v1 : Int32) (v2 : Int32) (v3 : Int32) (f : HF), DX10_value_55 N v0 v1 v2 v3 f = some r → V l g (fun _ => True) (RX10, cX10_value, 5, (Option.some Jvm.ClassFile.FieldType.int), [], "value") 2 (roI (.inl r.1) r.2 sz) 55 [(0, .ref v0), (1, .int v1), (2, .int v2), (3, .int v3)] [] f sz 0 0 := by
  intro v0 v1 v2 v3 f h
  unfold DX10_value_55 at h
  refine v_iconst (v := 1) dX10_value_55 (by decide) ?_
  refine v_goto (tgt := 112) dX10_value_56 (by decide) ?_
  exact v_sub (vs_c rfl (vs_c rfl (vs_c rfl (vs_c rfl vs_n)))) (tX10_value_112 N v0 v1 v2 v3 (1 : Int32) f h)

set_option maxRecDepth 20000 in
theorem tX10_value_14 {l : Launch} {g : GT} {sz : Option Nat} (N : Nat)  {r : (Int32 × HF)} : ∀ (v0 : Nat) (v1 : Int32) (v2 : Int32) (s0 : Nat) (s1 : Int32) (f : HF), DX10_value_14 N v0 v1 v2 s0 s1 f = some r → V l g (fun _ => True) (RX10, cX10_value, 5, (Option.some Jvm.ClassFile.FieldType.int), [], "value") 2 (roI (.inl r.1) r.2 sz) 14 [(0, .ref v0), (1, .int v1), (2, .int v2)] [.int s1, .ref s0] f sz 0 0 := by
  intro v0 v1 v2 s0 s1 f h
  unfold DX10_value_14 at h
  obtain ⟨f3, hf3, h⟩ := ob_some h
  refine v_pI dX10_value_14 fp_X10_102 hf3 ?_
  refine v_aload_n dX10_value_17 rfl rfl ?_
  obtain ⟨x4, hx4, h⟩ := ob_some h
  refine v_getI dX10_value_18 fl_X10_102 hx4 ?_
  refine v_if_le (tgt := 26) dX10_value_21 (by decide) (fun c61 => ?_) (fun c61 => ?_)
  · replace h := ip_ c61 h
    refine v_aload_n dX10_value_26 rfl rfl ?_
    obtain ⟨x5, hx5, h⟩ := ob_some h
    refine v_getR dX10_value_27 fl_X10_19 hx5 ?_
    refine v_iload_n dX10_value_30 rfl rfl ?_
    obtain ⟨x6, hx6, h⟩ := ob_some h
    refine v_iald dX10_value_31 hx6 ?_
    refine v_istore_n (ls1 := [(3, .int x6), (0, .ref v0), (1, .int v1), (2, .int v2)]) dX10_value_32 rfl (by decide) rfl ?_
    refine v_aload_n dX10_value_33 rfl rfl ?_
    refine v_iload_n dX10_value_34 rfl rfl ?_
    obtain ⟨x7, hx8, h⟩ := ob_some h
    have ehx8 := tX10_isSigned (l := l) (g := g) (sz := sz) N v0 x6 f3 hx8
    refine v_cVI dX10_value_35 ml_X10_140 ok_X10_isSigned ehx8 (kX10_isSigned N v0 x6 f3 hx8) rfl (by decide) rfl (rest := []) rfl (Nat.le_of_ble_eq_true rfl) ?_
    refine v_if_eq (tgt := 63) dX10_value_38 (by decide) (fun c60 => ?_) (fun c60 => ?_)
    · replace h := ip_ c60 h
      refine v_aload_n dX10_value_63 rfl rfl ?_
      obtain ⟨x9, hx9, h⟩ := ob_some h
      refine v_getR dX10_value_64 fl_X10_7 hx9 ?_
      refine v_iload_n dX10_value_67 rfl rfl ?_
      obtain ⟨x10, hx10, h⟩ := ob_some h
      refine v_iald dX10_value_68 hx10 ?_
      refine v_iconst (v := 2) dX10_value_69 (by decide) ?_
      refine v_icmp_ne (tgt := 90) dX10_value_70 (by decide) (fun c55 => ?_) (fun c55 => ?_)
      · replace h := in_ c55 h
        refine v_aload_n dX10_value_90 rfl rfl ?_
        refine v_iload_n dX10_value_91 rfl rfl ?_
        obtain ⟨x11, hx12, h⟩ := ob_some h
        have ehx12 := tX10_isPicked (l := l) (g := g) (sz := sz) N v0 x6 f3 hx12
        refine v_cVI dX10_value_92 ml_X10_146 ok_X10_isPicked ehx12 (kX10_isPicked N v0 x6 f3 hx12) rfl (by decide) rfl (rest := []) rfl (Nat.le_of_ble_eq_true rfl) ?_
        refine v_if_eq (tgt := 111) dX10_value_95 (by decide) (fun c52 => ?_) (fun c52 => ?_)
        · replace h := ip_ c52 h
          exact v_sub (vs_c rfl (vs_c rfl (vs_c rfl (vs_c rfl vs_n)))) (tX10_value_111 N v0 v1 v2 x6 f3 h)
        · replace h := in_ c52 h
          refine v_aload_n dX10_value_98 rfl rfl ?_
          refine v_iload_n dX10_value_99 rfl rfl ?_
          refine v_iload_n dX10_value_100 rfl rfl ?_
          obtain ⟨x49, hx50, h⟩ := ob_some h
          have ehx50 := tX10_mayPick (l := l) (g := g) (sz := sz) N v0 x6 v2 f3 hx50
          refine v_cVI dX10_value_101 ml_X10_149 ok_X10_mayPick ehx50 (kX10_mayPick N v0 x6 v2 f3 hx50) rfl (by decide) rfl (rest := []) rfl (Nat.le_of_ble_eq_true rfl) ?_
          refine v_if_eq (tgt := 111) dX10_value_104 (by decide) (fun c51 => ?_) (fun c51 => ?_)
          · replace h := ip_ c51 h
            exact v_sub (vs_c rfl (vs_c rfl (vs_c rfl (vs_c rfl vs_n)))) (tX10_value_111 N v0 v1 v2 x6 f3 h)
          · replace h := in_ c51 h
            refine v_iconst (v := 1) dX10_value_107 (by decide) ?_
            refine v_goto (tgt := 112) dX10_value_108 (by decide) ?_
            exact v_sub (vs_c rfl (vs_c rfl (vs_c rfl (vs_c rfl vs_n)))) (tX10_value_112 N v0 v1 v2 x6 (1 : Int32) f3 h)
      · replace h := ip_ c55 h
        refine v_iload_n dX10_value_73 rfl rfl ?_
        refine v_if_eq (tgt := 82) dX10_value_74 (by decide) (fun c54 => ?_) (fun c54 => ?_)
        · replace h := ip_ c54 h
          exact v_sub (vs_c rfl (vs_c rfl (vs_c rfl (vs_c rfl vs_n)))) (tX10_value_82 N v0 v1 v2 x6 f3 h)
        · replace h := in_ c54 h
          refine v_iload_n dX10_value_77 rfl rfl ?_
          refine v_iconst (v := 1) dX10_value_78 (by decide) ?_
          refine v_icmp_ne (tgt := 86) dX10_value_79 (by decide) (fun c53 => ?_) (fun c53 => ?_)
          · replace h := in_ c53 h
            refine v_iconst (v := 0) dX10_value_86 (by decide) ?_
            refine v_goto (tgt := 112) dX10_value_87 (by decide) ?_
            exact v_sub (vs_c rfl (vs_c rfl (vs_c rfl (vs_c rfl vs_n)))) (tX10_value_112 N v0 v1 v2 x6 (0 : Int32) f3 h)
          · replace h := ip_ c53 h
            exact v_sub (vs_c rfl (vs_c rfl (vs_c rfl (vs_c rfl vs_n)))) (tX10_value_82 N v0 v1 v2 x6 f3 h)
    · replace h := in_ c60 h
      refine v_iload_n dX10_value_41 rfl rfl ?_
      refine v_iconst (v := -1) dX10_value_42 (by decide) ?_
      refine v_icmp_eq (tgt := 55) dX10_value_43 (by decide) (fun c59 => ?_) (fun c59 => ?_)
      · replace h := ip_ c59 h
        exact v_sub (vs_c rfl (vs_c rfl (vs_c rfl (vs_c rfl vs_n)))) (tX10_value_55 N v0 v1 v2 x6 f3 h)
      · replace h := in_ c59 h
        refine v_aload_n dX10_value_46 rfl rfl ?_
        refine v_iload_n dX10_value_47 rfl rfl ?_
        refine v_iload_n dX10_value_48 rfl rfl ?_
        obtain ⟨x56, hx57, h⟩ := ob_some h
        have ehx57 := tX10_isSign (l := l) (g := g) (sz := sz) N v0 x6 v2 f3 hx57
        refine v_cVI dX10_value_49 ml_X10_143 ok_X10_isSign ehx57 (kX10_isSign N v0 x6 v2 f3 hx57) rfl (by decide) rfl (rest := []) rfl (Nat.le_of_ble_eq_true rfl) ?_
        refine v_if_eq (tgt := 59) dX10_value_52 (by decide) (fun c58 => ?_) (fun c58 => ?_)
        · replace h := ip_ c58 h
          refine v_iconst (v := 0) dX10_value_59 (by decide) ?_
          refine v_goto (tgt := 112) dX10_value_60 (by decide) ?_
          exact v_sub (vs_c rfl (vs_c rfl (vs_c rfl (vs_c rfl vs_n)))) (tX10_value_112 N v0 v1 v2 x6 (0 : Int32) f3 h)
        · replace h := in_ c58 h
          exact v_sub (vs_c rfl (vs_c rfl (vs_c rfl (vs_c rfl vs_n)))) (tX10_value_55 N v0 v1 v2 x6 f3 h)
  · replace h := in_ c61 h
    refine v_iconst (v := 0) dX10_value_24 (by decide) ?_
    obtain rfl := Option.some.inj h
    exact v_iret dX10_value_25 rfl rfl

set_option maxRecDepth 20000 in
theorem kX10_value (N : Nat) (this : Nat) (p0 : Int32) (p1 : Int32) (f : HF) {r : (Int32 × HF)} (h : DX10_value N this p0 p1 f = some r) : ck f this 9 = some () := by
  unfold DX10_value at h
  obtain ⟨_, hck, _⟩ := ob_some h
  exact hck

set_option maxRecDepth 20000 in
theorem tX10_value {l : Launch} {g : GT} {sz : Option Nat} (N : Nat) (this : Nat) (p0 : Int32) (p1 : Int32) (f : HF) {r : (Int32 × HF)} (h : DX10_value N this p0 p1 f = some r) : Mt l g yX10_value cX10_value 5 (Option.some Jvm.ClassFile.FieldType.int) 2 [.ref this, .int p0, .int p1] f sz (roI (.inl r.1) r.2 sz) := by
  unfold DX10_value at h
  obtain ⟨_, hck, h⟩ := ob_some h
  refine mt_of (by decide) (Nat.le_of_ble_eq_true rfl) (?_ : V l g (fun _ => True) (RX10, cX10_value, 5, (Option.some Jvm.ClassFile.FieldType.int), [], "value") 2 (roI (.inl r.1) r.2 sz) 0 [(0, .ref this), (1, .int p0), (2, .int p1)] [] f sz 0 0)
  refine v_aload_n dX10_value_0 rfl rfl ?_
  refine v_aload_n dX10_value_1 rfl rfl ?_
  refine v_iload_n dX10_value_2 rfl rfl ?_
  obtain ⟨x1, hx2, h⟩ := ob_some h
  have ehx2 := tX10_no (l := l) (g := g) (sz := sz) N this p0 f hx2
  refine v_cVI dX10_value_3 ml_X10_109 ok_X10_no ehx2 (kX10_no N this p0 f hx2) rfl (by decide) rfl (rest := [.ref this]) rfl (Nat.le_of_ble_eq_true rfl) ?_
  refine v_if_eq (tgt := 13) dX10_value_6 (by decide) (fun c62 => ?_) (fun c62 => ?_)
  · replace h := ip_ c62 h
    refine v_iconst (v := 0) dX10_value_13 (by decide) ?_
    exact v_sub (vs_c rfl (vs_c rfl (vs_c rfl vs_n))) (tX10_value_14 N this p0 p1 this (0 : Int32) f h)
  · replace h := in_ c62 h
    refine v_iconst (v := 1) dX10_value_9 (by decide) ?_
    refine v_goto (tgt := 14) dX10_value_10 (by decide) ?_
    exact v_sub (vs_c rfl (vs_c rfl (vs_c rfl vs_n))) (tX10_value_14 N this p0 p1 this (1 : Int32) f h)

/-! X10 option (W) -/
def DX10_option_134 (N : Nat)  (v0 : Nat) (v2 : Int32) (v3 : Int32) (s0 : Nat) (s1 : Int32) (f : HF) : Option (Int32 × HF) :=
    (pV f s0 9 0 (.int s1)).bind fun f13 =>
    (gI f13 v0 9 0).bind fun x14 =>
    if x14 ≤ 0 then
      (gR f13 v0 9 13).bind fun x15 =>
      (gR f13 v0 9 14).bind fun x16 =>
      (aI f13 x16 0 v3).bind fun x17 =>
      (sI f13 x15 0 (((12 : Int32) * v3) + x17) v2).bind fun f18 =>
      (gR f18 v0 9 14).bind fun x19 =>
      (aI f18 x19 0 v3).bind fun x20 =>
      (sI f18 x19 0 v3 (x20 + (1 : Int32))).bind fun f21 =>
      (gR f21 v0 9 14).bind fun x22 =>
      (aI f21 x22 0 v3).bind fun x23 =>
      some ((x23 - (1 : Int32)), f21)
    else
      some ((0 : Int32), f13)

def DX10_option_100 (N : Nat) (k63 : Nat → Int32 → Int32 → Int32 → Int32 → HF → Option (Int32 × HF)) (v0 : Nat) (v2 : Int32) (v3 : Int32) (v5 : Int32) (s0 : Int32) (f : HF) : Option (Int32 × HF) :=
    k63 v0 v2 v3 s0 (v5 + 1) f

def DX10_option_99 (N : Nat) (k63 : Nat → Int32 → Int32 → Int32 → Int32 → HF → Option (Int32 × HF)) (v0 : Nat) (v2 : Int32) (v3 : Int32) (v5 : Int32) (f : HF) : Option (Int32 × HF) :=
    DX10_option_100 N k63 v0 v2 v3 v5 (0 : Int32) f

def DX10_option_63 (N : Nat)  (n : Nat) (v0 : Nat) (v2 : Int32) (v3 : Int32) (v4 : Int32) (v5 : Int32) (f : HF) : Option (Int32 × HF) :=
  match n with
  | 0 => none
  | n + 1 =>
    (gR f v0 9 14).bind fun x9 =>
    (aI f x9 0 v3).bind fun x10 =>
    if x10 ≤ v5 then
      if v4 = 0 then
        DX10_option_134 N v0 v2 v3 v0 (2 : Int32) f
      else
        (gR f v0 9 14).bind fun x11 =>
        (aI f x11 0 v3).bind fun x12 =>
        if x12 = (12 : Int32) then
          DX10_option_134 N v0 v2 v3 v0 (3 : Int32) f
        else
          DX10_option_134 N v0 v2 v3 v0 (0 : Int32) f
    else
      if v4 = 0 then
        DX10_option_99 N (DX10_option_63 N n) v0 v2 v3 v5 f
      else
        (gR f v0 9 13).bind fun x27 =>
        (aI f x27 0 (((12 : Int32) * v3) + v5)).bind fun x28 =>
        if x28 = v2 then
          DX10_option_99 N (DX10_option_63 N n) v0 v2 v3 v5 f
        else
          DX10_option_100 N (DX10_option_63 N n) v0 v2 v3 v5 (1 : Int32) f

def DX10_option_58 (N : Nat)  (v0 : Nat) (v2 : Int32) (v3 : Int32) (s0 : Int32) (f : HF) : Option (Int32 × HF) :=
    DX10_option_63 N N v0 v2 v3 s0 (0 : Int32) f

def DX10_option_57 (N : Nat)  (v0 : Nat) (v2 : Int32) (v3 : Int32) (f : HF) : Option (Int32 × HF) :=
    DX10_option_58 N v0 v2 v3 (0 : Int32) f

def DX10_option_14 (N : Nat)  (v0 : Nat) (v1 : Int32) (v2 : Int32) (s0 : Nat) (s1 : Int32) (f : HF) : Option (Int32 × HF) :=
    (pV f s0 9 0 (.int s1)).bind fun f3 =>
    (gI f3 v0 9 0).bind fun x4 =>
    if x4 ≤ 0 then
      (gR f3 v0 9 5).bind fun x5 =>
      (aI f3 x5 0 v1).bind fun x6 =>
      (DX10_isPicked N v0 x6 f3).bind fun x7 =>
      if x7 = 0 then
        DX10_option_57 N v0 v2 x6 f3
      else
        (DX10_isIn N (v2.toInt64) (0 : Int64) (99999 : Int64) f3).bind fun x32 =>
        if x32 = 0 then
          DX10_option_57 N v0 v2 x6 f3
        else
          DX10_option_58 N v0 v2 x6 (1 : Int32) f3
    else
      some ((0 : Int32), f3)

def DX10_option (N : Nat) (this : Nat) (p0 : Int32) (p1 : Int32) (f : HF) : Option (Int32 × HF) :=
  (ck f this 9).bind fun _ =>
  (DX10_no N this p0 f).bind fun x1 =>
  if x1 = 0 then
    DX10_option_14 N this p0 p1 this (0 : Int32) f
  else
    DX10_option_14 N this p0 p1 this (1 : Int32) f

set_option maxRecDepth 20000 in
theorem tX10_option_134 {l : Launch} {g : GT} {sz : Option Nat} (N : Nat)  {r : (Int32 × HF)} : ∀ (v0 : Nat) (v2 : Int32) (v3 : Int32) (s0 : Nat) (s1 : Int32) (f : HF), DX10_option_134 N v0 v2 v3 s0 s1 f = some r → V l g (fun _ => True) (RX10, cX10_option, 6, (Option.some Jvm.ClassFile.FieldType.int), [], "option") 1 (roI (.inl r.1) r.2 sz) 134 [(0, .ref v0), (2, .int v2), (3, .int v3)] [.int s1, .ref s0] f sz 0 0 := by
  intro v0 v2 v3 s0 s1 f h
  unfold DX10_option_134 at h
  obtain ⟨f13, hf13, h⟩ := ob_some h
  refine v_pI dX10_option_134 fp_X10_102 hf13 ?_
  refine v_aload_n dX10_option_137 rfl rfl ?_
  obtain ⟨x14, hx14, h⟩ := ob_some h
  refine v_getI dX10_option_138 fl_X10_102 hx14 ?_
  refine v_if_le (tgt := 146) dX10_option_141 (by decide) (fun c24 => ?_) (fun c24 => ?_)
  · replace h := ip_ c24 h
    refine v_aload_n dX10_option_146 rfl rfl ?_
    obtain ⟨x15, hx15, h⟩ := ob_some h
    refine v_getR dX10_option_147 fl_X10_44 hx15 ?_
    refine v_bipush (v := 12) dX10_option_150 (by decide) ?_
    refine v_iload_n dX10_option_152 rfl rfl ?_
    refine v_imul dX10_option_153 ?_
    refine v_aload_n dX10_option_154 rfl rfl ?_
    obtain ⟨x16, hx16, h⟩ := ob_some h
    refine v_getR dX10_option_155 fl_X10_47 hx16 ?_
    refine v_iload_n dX10_option_158 rfl rfl ?_
    obtain ⟨x17, hx17, h⟩ := ob_some h
    refine v_iald dX10_option_159 hx17 ?_
    refine v_iadd dX10_option_160 ?_
    refine v_iload_n dX10_option_161 rfl rfl ?_
    obtain ⟨f18, hf18, h⟩ := ob_some h
    refine v_iast dX10_option_162 hf18 ?_
    refine v_aload_n dX10_option_163 rfl rfl ?_
    obtain ⟨x19, hx19, h⟩ := ob_some h
    refine v_getR dX10_option_164 fl_X10_47 hx19 ?_
    refine v_iload_n dX10_option_167 rfl rfl ?_
    refine v_dup2_11 dX10_option_168 rfl rfl ?_
    obtain ⟨x20, hx20, h⟩ := ob_some h
    refine v_iald dX10_option_169 hx20 ?_
    refine v_iconst (v := 1) dX10_option_170 (by decide) ?_
    refine v_iadd dX10_option_171 ?_
    obtain ⟨f21, hf21, h⟩ := ob_some h
    refine v_iast dX10_option_172 hf21 ?_
    refine v_aload_n dX10_option_173 rfl rfl ?_
    obtain ⟨x22, hx22, h⟩ := ob_some h
    refine v_getR dX10_option_174 fl_X10_47 hx22 ?_
    refine v_iload_n dX10_option_177 rfl rfl ?_
    obtain ⟨x23, hx23, h⟩ := ob_some h
    refine v_iald dX10_option_178 hx23 ?_
    refine v_iconst (v := 1) dX10_option_179 (by decide) ?_
    refine v_isub dX10_option_180 ?_
    obtain rfl := Option.some.inj h
    exact v_iret dX10_option_181 rfl rfl
  · replace h := in_ c24 h
    refine v_iconst (v := 0) dX10_option_144 (by decide) ?_
    obtain rfl := Option.some.inj h
    exact v_iret dX10_option_145 rfl rfl

set_option maxRecDepth 20000 in
theorem tX10_option_100 {l : Launch} {g : GT} {sz : Option Nat} (N : Nat) (k63 : Nat → Int32 → Int32 → Int32 → Int32 → HF → Option (Int32 × HF)) {r : (Int32 × HF)} (hk63 : ∀ (w0 : Nat) (w2 : Int32) (w3 : Int32) (w4 : Int32) (w5 : Int32) (f : HF), k63 w0 w2 w3 w4 w5 f = some r → V l g (fun _ => True) (RX10, cX10_option, 6, (Option.some Jvm.ClassFile.FieldType.int), [], "option") 1 (roI (.inl r.1) r.2 sz) 63 [(0, .ref w0), (2, .int w2), (3, .int w3), (4, .int w4), (5, .int w5)] [] f sz 0 0) : ∀ (v0 : Nat) (v2 : Int32) (v3 : Int32) (v5 : Int32) (s0 : Int32) (f : HF), DX10_option_100 N k63 v0 v2 v3 v5 s0 f = some r → V l g (fun _ => True) (RX10, cX10_option, 6, (Option.some Jvm.ClassFile.FieldType.int), [], "option") 1 (roI (.inl r.1) r.2 sz) 100 [(0, .ref v0), (2, .int v2), (3, .int v3), (5, .int v5)] [.int s0] f sz 0 0 := by
  intro v0 v2 v3 v5 s0 f h
  unfold DX10_option_100 at h
  refine v_istore (ls1 := [(4, .int s0), (0, .ref v0), (2, .int v2), (3, .int v3), (5, .int v5)]) dX10_option_100 (by decide) rfl ?_
  refine v_iinc (v := (v5 + 1)) (ls1 := [(5, .int (v5 + 1)), (4, .int s0), (0, .ref v0), (2, .int v2), (3, .int v3)]) dX10_option_102 rfl rfl (by decide) rfl ?_
  refine v_goto (tgt := 63) dX10_option_105 (by decide) ?_
  exact v_sub (vs_c rfl (vs_c rfl (vs_c rfl (vs_c rfl (vs_c rfl vs_n))))) (hk63 v0 v2 v3 s0 (v5 + 1) f h)

set_option maxRecDepth 20000 in
theorem tX10_option_99 {l : Launch} {g : GT} {sz : Option Nat} (N : Nat) (k63 : Nat → Int32 → Int32 → Int32 → Int32 → HF → Option (Int32 × HF)) {r : (Int32 × HF)} (hk63 : ∀ (w0 : Nat) (w2 : Int32) (w3 : Int32) (w4 : Int32) (w5 : Int32) (f : HF), k63 w0 w2 w3 w4 w5 f = some r → V l g (fun _ => True) (RX10, cX10_option, 6, (Option.some Jvm.ClassFile.FieldType.int), [], "option") 1 (roI (.inl r.1) r.2 sz) 63 [(0, .ref w0), (2, .int w2), (3, .int w3), (4, .int w4), (5, .int w5)] [] f sz 0 0) : ∀ (v0 : Nat) (v2 : Int32) (v3 : Int32) (v5 : Int32) (f : HF), DX10_option_99 N k63 v0 v2 v3 v5 f = some r → V l g (fun _ => True) (RX10, cX10_option, 6, (Option.some Jvm.ClassFile.FieldType.int), [], "option") 1 (roI (.inl r.1) r.2 sz) 99 [(0, .ref v0), (2, .int v2), (3, .int v3), (5, .int v5)] [] f sz 0 0 := by
  intro v0 v2 v3 v5 f h
  unfold DX10_option_99 at h
  refine v_iconst (v := 0) dX10_option_99 (by decide) ?_
  exact v_sub (vs_c rfl (vs_c rfl (vs_c rfl (vs_c rfl vs_n)))) (tX10_option_100 N k63 hk63 v0 v2 v3 v5 (0 : Int32) f h)

set_option maxRecDepth 20000 in
theorem tX10_option_63 {l : Launch} {g : GT} {sz : Option Nat} (N : Nat)  {r : (Int32 × HF)} : ∀ (n : Nat), ∀ (v0 : Nat) (v2 : Int32) (v3 : Int32) (v4 : Int32) (v5 : Int32) (f : HF), DX10_option_63 N n v0 v2 v3 v4 v5 f = some r → V l g (fun _ => True) (RX10, cX10_option, 6, (Option.some Jvm.ClassFile.FieldType.int), [], "option") 1 (roI (.inl r.1) r.2 sz) 63 [(0, .ref v0), (2, .int v2), (3, .int v3), (4, .int v4), (5, .int v5)] [] f sz 0 0 := by
  intro n
  induction n with
  | zero => intro v0 v2 v3 v4 v5 f h; cases h
  | succ n ih =>
    intro v0 v2 v3 v4 v5 f h
    rw [DX10_option_63] at h
    refine v_iload dX10_option_63 rfl ?_
    refine v_aload_n dX10_option_65 rfl rfl ?_
    obtain ⟨x9, hx9, h⟩ := ob_some h
    refine v_getR dX10_option_66 fl_X10_47 hx9 ?_
    refine v_iload_n dX10_option_69 rfl rfl ?_
    obtain ⟨x10, hx10, h⟩ := ob_some h
    refine v_iald dX10_option_70 hx10 ?_
    refine v_icmp_ge (tgt := 108) dX10_option_71 (by decide) (fun c31 => ?_) (fun c31 => ?_)
    · replace h := ip_ c31 h
      refine v_aload_n dX10_option_108 rfl rfl ?_
      refine v_iload dX10_option_109 rfl ?_
      refine v_if_ne (tgt := 118) dX10_option_111 (by decide) (fun c26 => ?_) (fun c26 => ?_)
      · replace h := in_ c26 h
        refine v_aload_n dX10_option_118 rfl rfl ?_
        obtain ⟨x11, hx11, h⟩ := ob_some h
        refine v_getR dX10_option_119 fl_X10_47 hx11 ?_
        refine v_iload_n dX10_option_122 rfl rfl ?_
        obtain ⟨x12, hx12, h⟩ := ob_some h
        refine v_iald dX10_option_123 hx12 ?_
        refine v_bipush (v := 12) dX10_option_124 (by decide) ?_
        refine v_icmp_ne (tgt := 133) dX10_option_126 (by decide) (fun c25 => ?_) (fun c25 => ?_)
        · replace h := in_ c25 h
          refine v_iconst (v := 0) dX10_option_133 (by decide) ?_
          exact v_sub (vs_c rfl (vs_c rfl (vs_c rfl vs_n))) (tX10_option_134 N v0 v2 v3 v0 (0 : Int32) f h)
        · replace h := ip_ c25 h
          refine v_iconst (v := 3) dX10_option_129 (by decide) ?_
          refine v_goto (tgt := 134) dX10_option_130 (by decide) ?_
          exact v_sub (vs_c rfl (vs_c rfl (vs_c rfl vs_n))) (tX10_option_134 N v0 v2 v3 v0 (3 : Int32) f h)
      · replace h := ip_ c26 h
        refine v_iconst (v := 2) dX10_option_114 (by decide) ?_
        refine v_goto (tgt := 134) dX10_option_115 (by decide) ?_
        exact v_sub (vs_c rfl (vs_c rfl (vs_c rfl vs_n))) (tX10_option_134 N v0 v2 v3 v0 (2 : Int32) f h)
    · replace h := in_ c31 h
      refine v_iload dX10_option_74 rfl ?_
      refine v_if_eq (tgt := 99) dX10_option_76 (by decide) (fun c30 => ?_) (fun c30 => ?_)
      · replace h := ip_ c30 h
        exact v_sub (vs_c rfl (vs_c rfl (vs_c rfl (vs_c rfl vs_n)))) (tX10_option_99 N (DX10_option_63 N n) ih v0 v2 v3 v5 f h)
      · replace h := in_ c30 h
        refine v_aload_n dX10_option_79 rfl rfl ?_
        obtain ⟨x27, hx27, h⟩ := ob_some h
        refine v_getR dX10_option_80 fl_X10_44 hx27 ?_
        refine v_bipush (v := 12) dX10_option_83 (by decide) ?_
        refine v_iload_n dX10_option_85 rfl rfl ?_
        refine v_imul dX10_option_86 ?_
        refine v_iload dX10_option_87 rfl ?_
        refine v_iadd dX10_option_89 ?_
        obtain ⟨x28, hx28, h⟩ := ob_some h
        refine v_iald dX10_option_90 hx28 ?_
        refine v_iload_n dX10_option_91 rfl rfl ?_
        refine v_icmp_eq (tgt := 99) dX10_option_92 (by decide) (fun c29 => ?_) (fun c29 => ?_)
        · replace h := ip_ c29 h
          exact v_sub (vs_c rfl (vs_c rfl (vs_c rfl (vs_c rfl vs_n)))) (tX10_option_99 N (DX10_option_63 N n) ih v0 v2 v3 v5 f h)
        · replace h := in_ c29 h
          refine v_iconst (v := 1) dX10_option_95 (by decide) ?_
          refine v_goto (tgt := 100) dX10_option_96 (by decide) ?_
          exact v_sub (vs_c rfl (vs_c rfl (vs_c rfl (vs_c rfl vs_n)))) (tX10_option_100 N (DX10_option_63 N n) ih v0 v2 v3 v5 (1 : Int32) f h)

set_option maxRecDepth 20000 in
theorem tX10_option_58 {l : Launch} {g : GT} {sz : Option Nat} (N : Nat)  {r : (Int32 × HF)} : ∀ (v0 : Nat) (v2 : Int32) (v3 : Int32) (s0 : Int32) (f : HF), DX10_option_58 N v0 v2 v3 s0 f = some r → V l g (fun _ => True) (RX10, cX10_option, 6, (Option.some Jvm.ClassFile.FieldType.int), [], "option") 1 (roI (.inl r.1) r.2 sz) 58 [(0, .ref v0), (2, .int v2), (3, .int v3)] [.int s0] f sz 0 0 := by
  intro v0 v2 v3 s0 f h
  unfold DX10_option_58 at h
  refine v_istore (ls1 := [(4, .int s0), (0, .ref v0), (2, .int v2), (3, .int v3)]) dX10_option_58 (by decide) rfl ?_
  refine v_iconst (v := 0) dX10_option_60 (by decide) ?_
  refine v_istore (ls1 := [(5, .int (0 : Int32)), (4, .int s0), (0, .ref v0), (2, .int v2), (3, .int v3)]) dX10_option_61 (by decide) rfl ?_
  exact v_sub (vs_c rfl (vs_c rfl (vs_c rfl (vs_c rfl (vs_c rfl vs_n))))) (tX10_option_63 N N v0 v2 v3 s0 (0 : Int32) f h)

set_option maxRecDepth 20000 in
theorem tX10_option_57 {l : Launch} {g : GT} {sz : Option Nat} (N : Nat)  {r : (Int32 × HF)} : ∀ (v0 : Nat) (v2 : Int32) (v3 : Int32) (f : HF), DX10_option_57 N v0 v2 v3 f = some r → V l g (fun _ => True) (RX10, cX10_option, 6, (Option.some Jvm.ClassFile.FieldType.int), [], "option") 1 (roI (.inl r.1) r.2 sz) 57 [(0, .ref v0), (2, .int v2), (3, .int v3)] [] f sz 0 0 := by
  intro v0 v2 v3 f h
  unfold DX10_option_57 at h
  refine v_iconst (v := 0) dX10_option_57 (by decide) ?_
  exact v_sub (vs_c rfl (vs_c rfl (vs_c rfl vs_n))) (tX10_option_58 N v0 v2 v3 (0 : Int32) f h)

set_option maxRecDepth 20000 in
theorem tX10_option_14 {l : Launch} {g : GT} {sz : Option Nat} (N : Nat)  {r : (Int32 × HF)} : ∀ (v0 : Nat) (v1 : Int32) (v2 : Int32) (s0 : Nat) (s1 : Int32) (f : HF), DX10_option_14 N v0 v1 v2 s0 s1 f = some r → V l g (fun _ => True) (RX10, cX10_option, 6, (Option.some Jvm.ClassFile.FieldType.int), [], "option") 1 (roI (.inl r.1) r.2 sz) 14 [(0, .ref v0), (1, .int v1), (2, .int v2)] [.int s1, .ref s0] f sz 0 0 := by
  intro v0 v1 v2 s0 s1 f h
  unfold DX10_option_14 at h
  obtain ⟨f3, hf3, h⟩ := ob_some h
  refine v_pI dX10_option_14 fp_X10_102 hf3 ?_
  refine v_aload_n dX10_option_17 rfl rfl ?_
  obtain ⟨x4, hx4, h⟩ := ob_some h
  refine v_getI dX10_option_18 fl_X10_102 hx4 ?_
  refine v_if_le (tgt := 26) dX10_option_21 (by decide) (fun c36 => ?_) (fun c36 => ?_)
  · replace h := ip_ c36 h
    refine v_aload_n dX10_option_26 rfl rfl ?_
    obtain ⟨x5, hx5, h⟩ := ob_some h
    refine v_getR dX10_option_27 fl_X10_19 hx5 ?_
    refine v_iload_n dX10_option_30 rfl rfl ?_
    obtain ⟨x6, hx6, h⟩ := ob_some h
    refine v_iald dX10_option_31 hx6 ?_
    refine v_istore_n (ls1 := [(3, .int x6), (0, .ref v0), (1, .int v1), (2, .int v2)]) dX10_option_32 rfl (by decide) rfl ?_
    refine v_aload_n dX10_option_33 rfl rfl ?_
    refine v_iload_n dX10_option_34 rfl rfl ?_
    obtain ⟨x7, hx8, h⟩ := ob_some h
    have ehx8 := tX10_isPicked (l := l) (g := g) (sz := sz) N v0 x6 f3 hx8
    refine v_cVI dX10_option_35 ml_X10_146 ok_X10_isPicked ehx8 (kX10_isPicked N v0 x6 f3 hx8) rfl (by decide) rfl (rest := []) rfl (Nat.le_of_ble_eq_true rfl) ?_
    refine v_if_eq (tgt := 57) dX10_option_38 (by decide) (fun c35 => ?_) (fun c35 => ?_)
    · replace h := ip_ c35 h
      exact v_sub (vs_c rfl (vs_c rfl (vs_c rfl vs_n))) (tX10_option_57 N v0 v2 x6 f3 h)
    · replace h := in_ c35 h
      refine v_iload_n dX10_option_41 rfl rfl ?_
      refine v_i2l dX10_option_42 ?_
      refine v_lconst (v := 0) dX10_option_43 (by decide) ?_
      refine v_ldc2 dX10_option_44 kc_X10_156 ?_
      obtain ⟨x32, hx33, h⟩ := ob_some h
      have ehx33 := tX10_isIn (l := l) (g := g) (sz := sz) N (v2.toInt64) (0 : Int64) (99999 : Int64) f3 hx33
      refine v_cSI dX10_option_47 ml_X10_115 ok_X10_isIn ehx33 (by decide) rfl (rest := []) rfl (Nat.le_of_ble_eq_true rfl) ?_
      refine v_if_eq (tgt := 57) dX10_option_50 (by decide) (fun c34 => ?_) (fun c34 => ?_)
      · replace h := ip_ c34 h
        exact v_sub (vs_c rfl (vs_c rfl (vs_c rfl vs_n))) (tX10_option_57 N v0 v2 x6 f3 h)
      · replace h := in_ c34 h
        refine v_iconst (v := 1) dX10_option_53 (by decide) ?_
        refine v_goto (tgt := 58) dX10_option_54 (by decide) ?_
        exact v_sub (vs_c rfl (vs_c rfl (vs_c rfl vs_n))) (tX10_option_58 N v0 v2 x6 (1 : Int32) f3 h)
  · replace h := in_ c36 h
    refine v_iconst (v := 0) dX10_option_24 (by decide) ?_
    obtain rfl := Option.some.inj h
    exact v_iret dX10_option_25 rfl rfl

set_option maxRecDepth 20000 in
theorem kX10_option (N : Nat) (this : Nat) (p0 : Int32) (p1 : Int32) (f : HF) {r : (Int32 × HF)} (h : DX10_option N this p0 p1 f = some r) : ck f this 9 = some () := by
  unfold DX10_option at h
  obtain ⟨_, hck, _⟩ := ob_some h
  exact hck

set_option maxRecDepth 20000 in
theorem tX10_option {l : Launch} {g : GT} {sz : Option Nat} (N : Nat) (this : Nat) (p0 : Int32) (p1 : Int32) (f : HF) {r : (Int32 × HF)} (h : DX10_option N this p0 p1 f = some r) : Mt l g yX10_option cX10_option 6 (Option.some Jvm.ClassFile.FieldType.int) 1 [.ref this, .int p0, .int p1] f sz (roI (.inl r.1) r.2 sz) := by
  unfold DX10_option at h
  obtain ⟨_, hck, h⟩ := ob_some h
  refine mt_of (by decide) (Nat.le_of_ble_eq_true rfl) (?_ : V l g (fun _ => True) (RX10, cX10_option, 6, (Option.some Jvm.ClassFile.FieldType.int), [], "option") 1 (roI (.inl r.1) r.2 sz) 0 [(0, .ref this), (1, .int p0), (2, .int p1)] [] f sz 0 0)
  refine v_aload_n dX10_option_0 rfl rfl ?_
  refine v_aload_n dX10_option_1 rfl rfl ?_
  refine v_iload_n dX10_option_2 rfl rfl ?_
  obtain ⟨x1, hx2, h⟩ := ob_some h
  have ehx2 := tX10_no (l := l) (g := g) (sz := sz) N this p0 f hx2
  refine v_cVI dX10_option_3 ml_X10_109 ok_X10_no ehx2 (kX10_no N this p0 f hx2) rfl (by decide) rfl (rest := [.ref this]) rfl (Nat.le_of_ble_eq_true rfl) ?_
  refine v_if_eq (tgt := 13) dX10_option_6 (by decide) (fun c37 => ?_) (fun c37 => ?_)
  · replace h := ip_ c37 h
    refine v_iconst (v := 0) dX10_option_13 (by decide) ?_
    exact v_sub (vs_c rfl (vs_c rfl (vs_c rfl vs_n))) (tX10_option_14 N this p0 p1 this (0 : Int32) f h)
  · replace h := in_ c37 h
    refine v_iconst (v := 1) dX10_option_9 (by decide) ?_
    refine v_goto (tgt := 14) dX10_option_10 (by decide) ?_
    exact v_sub (vs_c rfl (vs_c rfl (vs_c rfl vs_n))) (tX10_option_14 N this p0 p1 this (1 : Int32) f h)

/-! X10 maySet (R) -/
def DX10_maySet_178 (N : Nat) (f : HF)  (v3 : Int32) : Option Int32 :=
    (DX10_isIn N (v3.toInt64) (0 : Int64) (100000 : Int64) f).bind fun x37 =>
    if x37 = 0 ∨ x37 = 1 then some x37 else none

def DX10_maySet (N : Nat) (this : Nat) (p0 : Int32) (p1 : Int32) (p2 : Int32) (f : HF) : Option Int32 :=
  (ck f this 9).bind fun _ =>
  if p1 = 0 then
    (DX10_isIn N (p2.toInt64) (0 : Int64) (1 : Int64) f).bind fun x2 =>
    if x2 = 0 ∨ x2 = 1 then some x2 else none
  else
  if p1 = 1 then
    (gR f this 9 2).bind fun x5 =>
    (aI f x5 0 p0).bind fun x6 =>
    if x6 = (1 : Int32) then
      if p2 = 0 then
        some (1 : Int32)
      else
        (DX10_isIn N (p2.toInt64) (1 : Int64) (30 : Int64) f).bind fun x7 =>
        if x7 = 0 then
          some (0 : Int32)
        else
          (gR f this 9 11).bind fun x9 =>
          (aI f x9 0 p0).bind fun x10 =>
          if p2 < x10 then
            some (0 : Int32)
          else
            some (1 : Int32)
    else
      some (0 : Int32)
  else
  if p1 = 2 then
    (gR f this 9 2).bind fun x16 =>
    (aI f x16 0 p0).bind fun x17 =>
    if x17 = (3 : Int32) then
      (DX10_isIn N (p2.toInt64) (0 : Int64) (1 : Int64) f).bind fun x18 =>
      if x18 = 0 then
        some (0 : Int32)
      else
        some (1 : Int32)
    else
      some (0 : Int32)
  else
  if p1 = 3 then
    (gR f this 9 2).bind fun x23 =>
    (aI f x23 0 p0).bind fun x24 =>
    if x24 = (5 : Int32) then
      (DX10_isIn N (p2.toInt64) (0 : Int64) (3 : Int64) f).bind fun x25 =>
      if x25 = 0 then
        some (0 : Int32)
      else
        some (1 : Int32)
    else
      some (0 : Int32)
  else
  if p1 = 4 then
    (gR f this 9 2).bind fun x30 =>
    (aI f x30 0 p0).bind fun x31 =>
    if x31 = (5 : Int32) then
      (DX10_isIn N (p2.toInt64) (0 : Int64) (1 : Int64) f).bind fun x32 =>
      if x32 = 0 then
        some (0 : Int32)
      else
        some (1 : Int32)
    else
      some (0 : Int32)
  else
  if p1 = 5 then
    DX10_maySet_178 N f p2
  else
  if p1 = 6 then
    DX10_maySet_178 N f p2
  else
  if p1 = 7 then
    (DX10_isIn N (p2.toInt64) (0 : Int64) (2 : Int64) f).bind fun x41 =>
    if x41 = 0 ∨ x41 = 1 then some x41 else none
  else
  some (0 : Int32)

set_option maxRecDepth 20000 in
theorem tX10_maySet_178 {l : Launch} {g : GT} {sz : Option Nat} (N : Nat) (f : HF)  {r : Int32} : ∀ (v3 : Int32), DX10_maySet_178 N f v3 = some r → V l g (fun _ => True) (RX10, cX10_maySet, 4, (Option.some Jvm.ClassFile.FieldType.boolean), [], "maySet") 1 (roI (.inl r) f sz) 178 [(3, .int v3)] [] f sz 0 0 := by
  intro v3 h
  unfold DX10_maySet_178 at h
  refine v_iload_n dX10_maySet_178 rfl rfl ?_
  refine v_i2l dX10_maySet_179 ?_
  refine v_lconst (v := 0) dX10_maySet_180 (by decide) ?_
  refine v_ldc2 dX10_maySet_181 kc_X10_162 ?_
  obtain ⟨x37, hx38, h⟩ := ob_some h
  have ehx38 := tX10_isIn (l := l) (g := g) (sz := sz) N (v3.toInt64) (0 : Int64) (100000 : Int64) f hx38
  refine v_cSI dX10_maySet_184 ml_X10_115 ok_X10_isIn ehx38 (by decide) rfl (rest := []) rfl (Nat.le_of_ble_eq_true rfl) ?_
  obtain ⟨hB, h⟩ := if_some h
  obtain rfl := Option.some.inj h
  exact v_zret dX10_maySet_187 rfl hB rfl

set_option maxRecDepth 20000 in
theorem kX10_maySet (N : Nat) (this : Nat) (p0 : Int32) (p1 : Int32) (p2 : Int32) (f : HF) {r : Int32} (h : DX10_maySet N this p0 p1 p2 f = some r) : ck f this 9 = some () := by
  unfold DX10_maySet at h
  obtain ⟨_, hck, _⟩ := ob_some h
  exact hck

set_option maxRecDepth 20000 in
theorem tX10_maySet {l : Launch} {g : GT} {sz : Option Nat} (N : Nat) (this : Nat) (p0 : Int32) (p1 : Int32) (p2 : Int32) (f : HF) {r : Int32} (h : DX10_maySet N this p0 p1 p2 f = some r) : Mt l g yX10_maySet cX10_maySet 4 (Option.some Jvm.ClassFile.FieldType.boolean) 1 [.ref this, .int p0, .int p1, .int p2] f sz (roI (.inl r) f sz) := by
  unfold DX10_maySet at h
  obtain ⟨_, hck, h⟩ := ob_some h
  refine mt_of (by decide) (Nat.le_of_ble_eq_true rfl) (?_ : V l g (fun _ => True) (RX10, cX10_maySet, 4, (Option.some Jvm.ClassFile.FieldType.boolean), [], "maySet") 1 (roI (.inl r) f sz) 0 [(0, .ref this), (1, .int p0), (2, .int p1), (3, .int p2)] [] f sz 0 0)
  refine v_iload_n dX10_maySet_0 rfl rfl ?_
  by_cases c1 : p1 = 0
  · replace h := ip_ c1 h
    refine v_tableIn (tgt := 48) (off := 47) dX10_maySet_1 (by rw [c1] <;> decide) (by rw [c1] <;> decide) (by rw [c1] <;> rfl) (by decide) ?_
    refine v_iload_n dX10_maySet_48 rfl rfl ?_
    refine v_i2l dX10_maySet_49 ?_
    refine v_lconst (v := 0) dX10_maySet_50 (by decide) ?_
    refine v_lconst (v := 1) dX10_maySet_51 (by decide) ?_
    obtain ⟨x2, hx3, h⟩ := ob_some h
    have ehx3 := tX10_isIn (l := l) (g := g) (sz := sz) N (p2.toInt64) (0 : Int64) (1 : Int64) f hx3
    refine v_cSI dX10_maySet_52 ml_X10_115 ok_X10_isIn ehx3 (by decide) rfl (rest := []) rfl (Nat.le_of_ble_eq_true rfl) ?_
    obtain ⟨hB, h⟩ := if_some h
    obtain rfl := Option.some.inj h
    exact v_zret dX10_maySet_55 rfl hB rfl
  replace h := in_ c1 h
  by_cases c4 : p1 = 1
  · replace h := ip_ c4 h
    refine v_tableIn (tgt := 56) (off := 55) dX10_maySet_1 (by rw [c4] <;> decide) (by rw [c4] <;> decide) (by rw [c4] <;> rfl) (by decide) ?_
    refine v_aload_n dX10_maySet_56 rfl rfl ?_
    obtain ⟨x5, hx5, h⟩ := ob_some h
    refine v_getR dX10_maySet_57 fl_X10_7 hx5 ?_
    refine v_iload_n dX10_maySet_60 rfl rfl ?_
    obtain ⟨x6, hx6, h⟩ := ob_some h
    refine v_iald dX10_maySet_61 hx6 ?_
    refine v_iconst (v := 1) dX10_maySet_62 (by decide) ?_
    refine v_icmp_ne (tgt := 96) dX10_maySet_63 (by decide) (fun c14 => ?_) (fun c14 => ?_)
    · replace h := in_ c14 h
      refine v_iconst (v := 0) dX10_maySet_96 (by decide) ?_
      obtain rfl := Option.some.inj h
      exact v_zret dX10_maySet_97 rfl (Or.inl rfl) rfl
    · replace h := ip_ c14 h
      refine v_iload_n dX10_maySet_66 rfl rfl ?_
      refine v_if_eq (tgt := 92) dX10_maySet_67 (by decide) (fun c13 => ?_) (fun c13 => ?_)
      · replace h := ip_ c13 h
        refine v_iconst (v := 1) dX10_maySet_92 (by decide) ?_
        refine v_goto (tgt := 97) dX10_maySet_93 (by decide) ?_
        obtain rfl := Option.some.inj h
        exact v_zret dX10_maySet_97 rfl (Or.inr rfl) rfl
      · replace h := in_ c13 h
        refine v_iload_n dX10_maySet_70 rfl rfl ?_
        refine v_i2l dX10_maySet_71 ?_
        refine v_lconst (v := 1) dX10_maySet_72 (by decide) ?_
        refine v_ldc2 dX10_maySet_73 kc_X10_158 ?_
        obtain ⟨x7, hx8, h⟩ := ob_some h
        have ehx8 := tX10_isIn (l := l) (g := g) (sz := sz) N (p2.toInt64) (1 : Int64) (30 : Int64) f hx8
        refine v_cSI dX10_maySet_76 ml_X10_115 ok_X10_isIn ehx8 (by decide) rfl (rest := []) rfl (Nat.le_of_ble_eq_true rfl) ?_
        refine v_if_eq (tgt := 96) dX10_maySet_79 (by decide) (fun c12 => ?_) (fun c12 => ?_)
        · replace h := ip_ c12 h
          refine v_iconst (v := 0) dX10_maySet_96 (by decide) ?_
          obtain rfl := Option.some.inj h
          exact v_zret dX10_maySet_97 rfl (Or.inl rfl) rfl
        · replace h := in_ c12 h
          refine v_iload_n dX10_maySet_82 rfl rfl ?_
          refine v_aload_n dX10_maySet_83 rfl rfl ?_
          obtain ⟨x9, hx9, h⟩ := ob_some h
          refine v_getR dX10_maySet_84 fl_X10_38 hx9 ?_
          refine v_iload_n dX10_maySet_87 rfl rfl ?_
          obtain ⟨x10, hx10, h⟩ := ob_some h
          refine v_iald dX10_maySet_88 hx10 ?_
          refine v_icmp_lt (tgt := 96) dX10_maySet_89 (by decide) (fun c11 => ?_) (fun c11 => ?_)
          · replace h := ip_ c11 h
            refine v_iconst (v := 0) dX10_maySet_96 (by decide) ?_
            obtain rfl := Option.some.inj h
            exact v_zret dX10_maySet_97 rfl (Or.inl rfl) rfl
          · replace h := in_ c11 h
            refine v_iconst (v := 1) dX10_maySet_92 (by decide) ?_
            refine v_goto (tgt := 97) dX10_maySet_93 (by decide) ?_
            obtain rfl := Option.some.inj h
            exact v_zret dX10_maySet_97 rfl (Or.inr rfl) rfl
  replace h := in_ c4 h
  by_cases c15 : p1 = 2
  · replace h := ip_ c15 h
    refine v_tableIn (tgt := 98) (off := 97) dX10_maySet_1 (by rw [c15] <;> decide) (by rw [c15] <;> decide) (by rw [c15] <;> rfl) (by decide) ?_
    refine v_aload_n dX10_maySet_98 rfl rfl ?_
    obtain ⟨x16, hx16, h⟩ := ob_some h
    refine v_getR dX10_maySet_99 fl_X10_7 hx16 ?_
    refine v_iload_n dX10_maySet_102 rfl rfl ?_
    obtain ⟨x17, hx17, h⟩ := ob_some h
    refine v_iald dX10_maySet_103 hx17 ?_
    refine v_iconst (v := 3) dX10_maySet_104 (by decide) ?_
    refine v_icmp_ne (tgt := 122) dX10_maySet_105 (by decide) (fun c21 => ?_) (fun c21 => ?_)
    · replace h := in_ c21 h
      refine v_iconst (v := 0) dX10_maySet_122 (by decide) ?_
      obtain rfl := Option.some.inj h
      exact v_zret dX10_maySet_123 rfl (Or.inl rfl) rfl
    · replace h := ip_ c21 h
      refine v_iload_n dX10_maySet_108 rfl rfl ?_
      refine v_i2l dX10_maySet_109 ?_
      refine v_lconst (v := 0) dX10_maySet_110 (by decide) ?_
      refine v_lconst (v := 1) dX10_maySet_111 (by decide) ?_
      obtain ⟨x18, hx19, h⟩ := ob_some h
      have ehx19 := tX10_isIn (l := l) (g := g) (sz := sz) N (p2.toInt64) (0 : Int64) (1 : Int64) f hx19
      refine v_cSI dX10_maySet_112 ml_X10_115 ok_X10_isIn ehx19 (by decide) rfl (rest := []) rfl (Nat.le_of_ble_eq_true rfl) ?_
      refine v_if_eq (tgt := 122) dX10_maySet_115 (by decide) (fun c20 => ?_) (fun c20 => ?_)
      · replace h := ip_ c20 h
        refine v_iconst (v := 0) dX10_maySet_122 (by decide) ?_
        obtain rfl := Option.some.inj h
        exact v_zret dX10_maySet_123 rfl (Or.inl rfl) rfl
      · replace h := in_ c20 h
        refine v_iconst (v := 1) dX10_maySet_118 (by decide) ?_
        refine v_goto (tgt := 123) dX10_maySet_119 (by decide) ?_
        obtain rfl := Option.some.inj h
        exact v_zret dX10_maySet_123 rfl (Or.inr rfl) rfl
  replace h := in_ c15 h
  by_cases c22 : p1 = 3
  · replace h := ip_ c22 h
    refine v_tableIn (tgt := 124) (off := 123) dX10_maySet_1 (by rw [c22] <;> decide) (by rw [c22] <;> decide) (by rw [c22] <;> rfl) (by decide) ?_
    refine v_aload_n dX10_maySet_124 rfl rfl ?_
    obtain ⟨x23, hx23, h⟩ := ob_some h
    refine v_getR dX10_maySet_125 fl_X10_7 hx23 ?_
    refine v_iload_n dX10_maySet_128 rfl rfl ?_
    obtain ⟨x24, hx24, h⟩ := ob_some h
    refine v_iald dX10_maySet_129 hx24 ?_
    refine v_iconst (v := 5) dX10_maySet_130 (by decide) ?_
    refine v_icmp_ne (tgt := 150) dX10_maySet_131 (by decide) (fun c28 => ?_) (fun c28 => ?_)
    · replace h := in_ c28 h
      refine v_iconst (v := 0) dX10_maySet_150 (by decide) ?_
      obtain rfl := Option.some.inj h
      exact v_zret dX10_maySet_151 rfl (Or.inl rfl) rfl
    · replace h := ip_ c28 h
      refine v_iload_n dX10_maySet_134 rfl rfl ?_
      refine v_i2l dX10_maySet_135 ?_
      refine v_lconst (v := 0) dX10_maySet_136 (by decide) ?_
      refine v_ldc2 dX10_maySet_137 kc_X10_160 ?_
      obtain ⟨x25, hx26, h⟩ := ob_some h
      have ehx26 := tX10_isIn (l := l) (g := g) (sz := sz) N (p2.toInt64) (0 : Int64) (3 : Int64) f hx26
      refine v_cSI dX10_maySet_140 ml_X10_115 ok_X10_isIn ehx26 (by decide) rfl (rest := []) rfl (Nat.le_of_ble_eq_true rfl) ?_
      refine v_if_eq (tgt := 150) dX10_maySet_143 (by decide) (fun c27 => ?_) (fun c27 => ?_)
      · replace h := ip_ c27 h
        refine v_iconst (v := 0) dX10_maySet_150 (by decide) ?_
        obtain rfl := Option.some.inj h
        exact v_zret dX10_maySet_151 rfl (Or.inl rfl) rfl
      · replace h := in_ c27 h
        refine v_iconst (v := 1) dX10_maySet_146 (by decide) ?_
        refine v_goto (tgt := 151) dX10_maySet_147 (by decide) ?_
        obtain rfl := Option.some.inj h
        exact v_zret dX10_maySet_151 rfl (Or.inr rfl) rfl
  replace h := in_ c22 h
  by_cases c29 : p1 = 4
  · replace h := ip_ c29 h
    refine v_tableIn (tgt := 152) (off := 151) dX10_maySet_1 (by rw [c29] <;> decide) (by rw [c29] <;> decide) (by rw [c29] <;> rfl) (by decide) ?_
    refine v_aload_n dX10_maySet_152 rfl rfl ?_
    obtain ⟨x30, hx30, h⟩ := ob_some h
    refine v_getR dX10_maySet_153 fl_X10_7 hx30 ?_
    refine v_iload_n dX10_maySet_156 rfl rfl ?_
    obtain ⟨x31, hx31, h⟩ := ob_some h
    refine v_iald dX10_maySet_157 hx31 ?_
    refine v_iconst (v := 5) dX10_maySet_158 (by decide) ?_
    refine v_icmp_ne (tgt := 176) dX10_maySet_159 (by decide) (fun c35 => ?_) (fun c35 => ?_)
    · replace h := in_ c35 h
      refine v_iconst (v := 0) dX10_maySet_176 (by decide) ?_
      obtain rfl := Option.some.inj h
      exact v_zret dX10_maySet_177 rfl (Or.inl rfl) rfl
    · replace h := ip_ c35 h
      refine v_iload_n dX10_maySet_162 rfl rfl ?_
      refine v_i2l dX10_maySet_163 ?_
      refine v_lconst (v := 0) dX10_maySet_164 (by decide) ?_
      refine v_lconst (v := 1) dX10_maySet_165 (by decide) ?_
      obtain ⟨x32, hx33, h⟩ := ob_some h
      have ehx33 := tX10_isIn (l := l) (g := g) (sz := sz) N (p2.toInt64) (0 : Int64) (1 : Int64) f hx33
      refine v_cSI dX10_maySet_166 ml_X10_115 ok_X10_isIn ehx33 (by decide) rfl (rest := []) rfl (Nat.le_of_ble_eq_true rfl) ?_
      refine v_if_eq (tgt := 176) dX10_maySet_169 (by decide) (fun c34 => ?_) (fun c34 => ?_)
      · replace h := ip_ c34 h
        refine v_iconst (v := 0) dX10_maySet_176 (by decide) ?_
        obtain rfl := Option.some.inj h
        exact v_zret dX10_maySet_177 rfl (Or.inl rfl) rfl
      · replace h := in_ c34 h
        refine v_iconst (v := 1) dX10_maySet_172 (by decide) ?_
        refine v_goto (tgt := 177) dX10_maySet_173 (by decide) ?_
        obtain rfl := Option.some.inj h
        exact v_zret dX10_maySet_177 rfl (Or.inr rfl) rfl
  replace h := in_ c29 h
  by_cases c36 : p1 = 5
  · replace h := ip_ c36 h
    refine v_tableIn (tgt := 178) (off := 177) dX10_maySet_1 (by rw [c36] <;> decide) (by rw [c36] <;> decide) (by rw [c36] <;> rfl) (by decide) ?_
    exact v_sub (vs_c rfl vs_n) (tX10_maySet_178 N f p2 h)
  replace h := in_ c36 h
  by_cases c39 : p1 = 6
  · replace h := ip_ c39 h
    refine v_tableIn (tgt := 178) (off := 177) dX10_maySet_1 (by rw [c39] <;> decide) (by rw [c39] <;> decide) (by rw [c39] <;> rfl) (by decide) ?_
    exact v_sub (vs_c rfl vs_n) (tX10_maySet_178 N f p2 h)
  replace h := in_ c39 h
  by_cases c40 : p1 = 7
  · replace h := ip_ c40 h
    refine v_tableIn (tgt := 188) (off := 187) dX10_maySet_1 (by rw [c40] <;> decide) (by rw [c40] <;> decide) (by rw [c40] <;> rfl) (by decide) ?_
    refine v_iload_n dX10_maySet_188 rfl rfl ?_
    refine v_i2l dX10_maySet_189 ?_
    refine v_lconst (v := 0) dX10_maySet_190 (by decide) ?_
    refine v_ldc2 dX10_maySet_191 kc_X10_164 ?_
    obtain ⟨x41, hx42, h⟩ := ob_some h
    have ehx42 := tX10_isIn (l := l) (g := g) (sz := sz) N (p2.toInt64) (0 : Int64) (2 : Int64) f hx42
    refine v_cSI dX10_maySet_194 ml_X10_115 ok_X10_isIn ehx42 (by decide) rfl (rest := []) rfl (Nat.le_of_ble_eq_true rfl) ?_
    obtain ⟨hB, h⟩ := if_some h
    obtain rfl := Option.some.inj h
    exact v_zret dX10_maySet_197 rfl hB rfl
  replace h := in_ c40 h
  refine v_tableOut (tgt := 198) dX10_maySet_1 (tsw_out p1 0 7 (fun z z1 z2 => by
    rcases (show z = 0 ∨ z = 1 ∨ z = 2 ∨ z = 3 ∨ z = 4 ∨ z = 5 ∨ z = 6 ∨ z = 7 by omega) with rfl | rfl | rfl | rfl | rfl | rfl | rfl | rfl
    · exact c1
    · exact c4
    · exact c15
    · exact c22
    · exact c29
    · exact c36
    · exact c39
    · exact c40
    )) (by decide) ?_
  refine v_iconst (v := 0) dX10_maySet_198 (by decide) ?_
  obtain rfl := Option.some.inj h
  exact v_zret dX10_maySet_199 rfl (Or.inl rfl) rfl

