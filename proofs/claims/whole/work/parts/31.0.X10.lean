/-! X10 thrown (R) -/
def DX10_thrown (N : Nat) (this : Nat) (f : HF) : Option Int32 :=
  (ck f this 9).bind fun _ =>
  (gI f this 9 0).bind fun x1 =>
  some x1

set_option maxRecDepth 20000 in
theorem kX10_thrown (N : Nat) (this : Nat) (f : HF) {r : Int32} (h : DX10_thrown N this f = some r) : ck f this 9 = some () := by
  unfold DX10_thrown at h
  obtain ⟨_, hck, _⟩ := ob_some h
  exact hck

set_option maxRecDepth 20000 in
theorem tX10_thrown {l : Launch} {g : GT} {sz : Option Nat} (N : Nat) (this : Nat) (f : HF) {r : Int32} (h : DX10_thrown N this f = some r) : Mt l g yX10_thrown cX10_thrown 1 (Option.some Jvm.ClassFile.FieldType.int) 0 [.ref this] f sz (roI (.inl r) f sz) := by
  unfold DX10_thrown at h
  obtain ⟨_, hck, h⟩ := ob_some h
  refine mt_of (by decide) (Nat.le_of_ble_eq_true rfl) (?_ : V l g (fun _ => True) (RX10, cX10_thrown, 1, (Option.some Jvm.ClassFile.FieldType.int), [], "thrown") 0 (roI (.inl r) f sz) 0 [(0, .ref this)] [] f sz 0 0)
  refine v_aload_n dX10_thrown_0 rfl rfl ?_
  obtain ⟨x1, hx1, h⟩ := ob_some h
  refine v_getI dX10_thrown_1 fl_X10_102 hx1 ?_
  obtain rfl := Option.some.inj h
  exact v_iret dX10_thrown_4 rfl rfl

/-! X10 isIn (R) -/
def DX10_isIn (N : Nat) (p0 : Int64) (p1 : Int64) (p2 : Int64) (f : HF) : Option Int32 :=
  if p0 < p1 then
    some (0 : Int32)
  else
    if p2 < p0 then
      some (0 : Int32)
    else
      some (1 : Int32)

set_option maxRecDepth 20000 in
theorem tX10_isIn {l : Launch} {g : GT} {sz : Option Nat} (N : Nat) (p0 : Int64) (p1 : Int64) (p2 : Int64) (f : HF) {r : Int32} (h : DX10_isIn N p0 p1 p2 f = some r) : Mt l g yX10_isIn cX10_isIn 6 (Option.some Jvm.ClassFile.FieldType.boolean) 0 [.long p0, .long p1, .long p2] f sz (roI (.inl r) f sz) := by
  unfold DX10_isIn at h
  refine mt_of (by decide) (Nat.le_of_ble_eq_true rfl) (?_ : V l g (fun _ => True) (RX10, cX10_isIn, 6, (Option.some Jvm.ClassFile.FieldType.boolean), [], "isIn") 0 (roI (.inl r) f sz) 0 [(0, .long p0), (2, .long p1), (4, .long p2)] [] f sz 0 0)
  refine v_lload_n dX10_isIn_0 rfl rfl ?_
  refine v_lload_n dX10_isIn_1 rfl rfl ?_
  refine v_lcmp_lt (tgt := 17) dX10_isIn_2 dX10_isIn_3 (by decide) (fun c2 => ?_) (fun c2 => ?_)
  · replace h := ip_ c2 h
    refine v_iconst (v := 0) dX10_isIn_17 (by decide) ?_
    obtain rfl := Option.some.inj h
    exact v_zret dX10_isIn_18 rfl (Or.inl rfl) rfl
  · replace h := in_ c2 h
    refine v_lload_n dX10_isIn_6 rfl rfl ?_
    refine v_lload dX10_isIn_7 rfl ?_
    refine v_lcmp_gt (tgt := 17) dX10_isIn_9 dX10_isIn_10 (by decide) (fun c1 => ?_) (fun c1 => ?_)
    · replace h := ip_ c1 h
      refine v_iconst (v := 0) dX10_isIn_17 (by decide) ?_
      obtain rfl := Option.some.inj h
      exact v_zret dX10_isIn_18 rfl (Or.inl rfl) rfl
    · replace h := in_ c1 h
      refine v_iconst (v := 1) dX10_isIn_13 (by decide) ?_
      refine v_goto (tgt := 18) dX10_isIn_14 (by decide) ?_
      obtain rfl := Option.some.inj h
      exact v_zret dX10_isIn_18 rfl (Or.inr rfl) rfl

/-! X10 no (R) -/
def DX10_no (N : Nat) (this : Nat) (p0 : Int32) (f : HF) : Option Int32 :=
  (ck f this 9).bind fun _ =>
  if p0 < 0 then
    some (1 : Int32)
  else
    (gI f this 9 1).bind fun x1 =>
    if p0 < x1 then
      some (0 : Int32)
    else
      some (1 : Int32)

set_option maxRecDepth 20000 in
theorem kX10_no (N : Nat) (this : Nat) (p0 : Int32) (f : HF) {r : Int32} (h : DX10_no N this p0 f = some r) : ck f this 9 = some () := by
  unfold DX10_no at h
  obtain ⟨_, hck, _⟩ := ob_some h
  exact hck

set_option maxRecDepth 20000 in
theorem tX10_no {l : Launch} {g : GT} {sz : Option Nat} (N : Nat) (this : Nat) (p0 : Int32) (f : HF) {r : Int32} (h : DX10_no N this p0 f = some r) : Mt l g yX10_no cX10_no 2 (Option.some Jvm.ClassFile.FieldType.boolean) 0 [.ref this, .int p0] f sz (roI (.inl r) f sz) := by
  unfold DX10_no at h
  obtain ⟨_, hck, h⟩ := ob_some h
  refine mt_of (by decide) (Nat.le_of_ble_eq_true rfl) (?_ : V l g (fun _ => True) (RX10, cX10_no, 2, (Option.some Jvm.ClassFile.FieldType.boolean), [], "no") 0 (roI (.inl r) f sz) 0 [(0, .ref this), (1, .int p0)] [] f sz 0 0)
  refine v_iload_n dX10_no_0 rfl rfl ?_
  refine v_if_lt (tgt := 12) dX10_no_1 (by decide) (fun c3 => ?_) (fun c3 => ?_)
  · replace h := ip_ c3 h
    refine v_iconst (v := 1) dX10_no_12 (by decide) ?_
    refine v_goto (tgt := 17) dX10_no_13 (by decide) ?_
    obtain rfl := Option.some.inj h
    exact v_zret dX10_no_17 rfl (Or.inr rfl) rfl
  · replace h := in_ c3 h
    refine v_iload_n dX10_no_4 rfl rfl ?_
    refine v_aload_n dX10_no_5 rfl rfl ?_
    obtain ⟨x1, hx1, h⟩ := ob_some h
    refine v_getI dX10_no_6 fl_X10_106 hx1 ?_
    refine v_icmp_lt (tgt := 16) dX10_no_9 (by decide) (fun c2 => ?_) (fun c2 => ?_)
    · replace h := ip_ c2 h
      refine v_iconst (v := 0) dX10_no_16 (by decide) ?_
      obtain rfl := Option.some.inj h
      exact v_zret dX10_no_17 rfl (Or.inl rfl) rfl
    · replace h := in_ c2 h
      refine v_iconst (v := 1) dX10_no_12 (by decide) ?_
      refine v_goto (tgt := 17) dX10_no_13 (by decide) ?_
      obtain rfl := Option.some.inj h
      exact v_zret dX10_no_17 rfl (Or.inr rfl) rfl

/-! X10 isSameName (R) -/
def DX10_isSameName_49 (N : Nat) (f : HF)  (v3 : Int32) (v4 : Int32) : Option Int32 :=
    if 0 ≤ v3 then
      some (0 : Int32)
    else
      if 0 ≤ v4 then
        some (0 : Int32)
      else
        some (1 : Int32)

def DX10_isSameName_5 (N : Nat) (f : HF)  (n : Nat) (v0 : Nat) (v3 : Int32) (v4 : Int32) : Option Int32 :=
  match n with
  | 0 => none
  | n + 1 =>
    if v3 < 0 then
      DX10_isSameName_49 N f v3 v4
    else
      if v4 < 0 then
        DX10_isSameName_49 N f v3 v4
      else
        (gR f v0 9 4).bind fun x3 =>
        (aI f x3 0 v3).bind fun x4 =>
        (gR f v0 9 4).bind fun x5 =>
        (aI f x5 0 v4).bind fun x6 =>
        if x4 = x6 then
          (gR f v0 9 3).bind fun x7 =>
          (aI f x7 0 v3).bind fun x8 =>
          (gR f v0 9 3).bind fun x9 =>
          (aI f x9 0 v4).bind fun x10 =>
          DX10_isSameName_5 N f n v0 x8 x10
        else
          DX10_isSameName_49 N f v3 v4

def DX10_isSameName (N : Nat) (this : Nat) (p0 : Int32) (p1 : Int32) (f : HF) : Option Int32 :=
  (ck f this 9).bind fun _ =>
  DX10_isSameName_5 N f N this p0 p1

set_option maxRecDepth 20000 in
theorem tX10_isSameName_49 {l : Launch} {g : GT} {sz : Option Nat} (N : Nat) (f : HF)  {r : Int32} : ∀ (v3 : Int32) (v4 : Int32), DX10_isSameName_49 N f v3 v4 = some r → V l g (fun _ => True) (RX10, cX10_isSameName, 5, (Option.some Jvm.ClassFile.FieldType.boolean), [], "isSameName") 0 (roI (.inl r) f sz) 49 [(3, .int v3), (4, .int v4)] [] f sz 0 0 := by
  intro v3 v4 h
  unfold DX10_isSameName_49 at h
  refine v_iload_n dX10_isSameName_49 rfl rfl ?_
  refine v_if_ge (tgt := 62) dX10_isSameName_50 (by decide) (fun c2 => ?_) (fun c2 => ?_)
  · replace h := ip_ c2 h
    refine v_iconst (v := 0) dX10_isSameName_62 (by decide) ?_
    obtain rfl := Option.some.inj h
    exact v_zret dX10_isSameName_63 rfl (Or.inl rfl) rfl
  · replace h := in_ c2 h
    refine v_iload dX10_isSameName_53 rfl ?_
    refine v_if_ge (tgt := 62) dX10_isSameName_55 (by decide) (fun c1 => ?_) (fun c1 => ?_)
    · replace h := ip_ c1 h
      refine v_iconst (v := 0) dX10_isSameName_62 (by decide) ?_
      obtain rfl := Option.some.inj h
      exact v_zret dX10_isSameName_63 rfl (Or.inl rfl) rfl
    · replace h := in_ c1 h
      refine v_iconst (v := 1) dX10_isSameName_58 (by decide) ?_
      refine v_goto (tgt := 63) dX10_isSameName_59 (by decide) ?_
      obtain rfl := Option.some.inj h
      exact v_zret dX10_isSameName_63 rfl (Or.inr rfl) rfl

set_option maxRecDepth 20000 in
theorem tX10_isSameName_5 {l : Launch} {g : GT} {sz : Option Nat} (N : Nat) (f : HF)  {r : Int32} : ∀ (n : Nat), ∀ (v0 : Nat) (v3 : Int32) (v4 : Int32), DX10_isSameName_5 N f n v0 v3 v4 = some r → V l g (fun _ => True) (RX10, cX10_isSameName, 5, (Option.some Jvm.ClassFile.FieldType.boolean), [], "isSameName") 0 (roI (.inl r) f sz) 5 [(0, .ref v0), (3, .int v3), (4, .int v4)] [] f sz 0 0 := by
  intro n
  induction n with
  | zero => intro v0 v3 v4 h; cases h
  | succ n ih =>
    intro v0 v3 v4 h
    rw [DX10_isSameName_5] at h
    refine v_iload_n dX10_isSameName_5 rfl rfl ?_
    refine v_if_lt (tgt := 49) dX10_isSameName_6 (by decide) (fun c13 => ?_) (fun c13 => ?_)
    · replace h := ip_ c13 h
      exact v_sub (vs_c rfl (vs_c rfl vs_n)) (tX10_isSameName_49 N f v3 v4 h)
    · replace h := in_ c13 h
      refine v_iload dX10_isSameName_9 rfl ?_
      refine v_if_lt (tgt := 49) dX10_isSameName_11 (by decide) (fun c12 => ?_) (fun c12 => ?_)
      · replace h := ip_ c12 h
        exact v_sub (vs_c rfl (vs_c rfl vs_n)) (tX10_isSameName_49 N f v3 v4 h)
      · replace h := in_ c12 h
        refine v_aload_n dX10_isSameName_14 rfl rfl ?_
        obtain ⟨x3, hx3, h⟩ := ob_some h
        refine v_getR dX10_isSameName_15 fl_X10_16 hx3 ?_
        refine v_iload_n dX10_isSameName_18 rfl rfl ?_
        obtain ⟨x4, hx4, h⟩ := ob_some h
        refine v_iald dX10_isSameName_19 hx4 ?_
        refine v_aload_n dX10_isSameName_20 rfl rfl ?_
        obtain ⟨x5, hx5, h⟩ := ob_some h
        refine v_getR dX10_isSameName_21 fl_X10_16 hx5 ?_
        refine v_iload dX10_isSameName_24 rfl ?_
        obtain ⟨x6, hx6, h⟩ := ob_some h
        refine v_iald dX10_isSameName_26 hx6 ?_
        refine v_icmp_ne (tgt := 49) dX10_isSameName_27 (by decide) (fun c11 => ?_) (fun c11 => ?_)
        · replace h := in_ c11 h
          exact v_sub (vs_c rfl (vs_c rfl vs_n)) (tX10_isSameName_49 N f v3 v4 h)
        · replace h := ip_ c11 h
          refine v_aload_n dX10_isSameName_30 rfl rfl ?_
          obtain ⟨x7, hx7, h⟩ := ob_some h
          refine v_getR dX10_isSameName_31 fl_X10_13 hx7 ?_
          refine v_iload_n dX10_isSameName_34 rfl rfl ?_
          obtain ⟨x8, hx8, h⟩ := ob_some h
          refine v_iald dX10_isSameName_35 hx8 ?_
          refine v_istore_n (ls1 := [(3, .int x8), (0, .ref v0), (4, .int v4)]) dX10_isSameName_36 rfl (by decide) rfl ?_
          refine v_aload_n dX10_isSameName_37 rfl rfl ?_
          obtain ⟨x9, hx9, h⟩ := ob_some h
          refine v_getR dX10_isSameName_38 fl_X10_13 hx9 ?_
          refine v_iload dX10_isSameName_41 rfl ?_
          obtain ⟨x10, hx10, h⟩ := ob_some h
          refine v_iald dX10_isSameName_43 hx10 ?_
          refine v_istore (ls1 := [(4, .int x10), (3, .int x8), (0, .ref v0)]) dX10_isSameName_44 (by decide) rfl ?_
          refine v_goto (tgt := 5) dX10_isSameName_46 (by decide) ?_
          exact v_sub (vs_c rfl (vs_c rfl (vs_c rfl vs_n))) (ih v0 x8 x10 h)

set_option maxRecDepth 20000 in
theorem kX10_isSameName (N : Nat) (this : Nat) (p0 : Int32) (p1 : Int32) (f : HF) {r : Int32} (h : DX10_isSameName N this p0 p1 f = some r) : ck f this 9 = some () := by
  unfold DX10_isSameName at h
  obtain ⟨_, hck, _⟩ := ob_some h
  exact hck

set_option maxRecDepth 20000 in
theorem tX10_isSameName {l : Launch} {g : GT} {sz : Option Nat} (N : Nat) (this : Nat) (p0 : Int32) (p1 : Int32) (f : HF) {r : Int32} (h : DX10_isSameName N this p0 p1 f = some r) : Mt l g yX10_isSameName cX10_isSameName 5 (Option.some Jvm.ClassFile.FieldType.boolean) 0 [.ref this, .int p0, .int p1] f sz (roI (.inl r) f sz) := by
  unfold DX10_isSameName at h
  obtain ⟨_, hck, h⟩ := ob_some h
  refine mt_of (by decide) (Nat.le_of_ble_eq_true rfl) (?_ : V l g (fun _ => True) (RX10, cX10_isSameName, 5, (Option.some Jvm.ClassFile.FieldType.boolean), [], "isSameName") 0 (roI (.inl r) f sz) 0 [(0, .ref this), (1, .int p0), (2, .int p1)] [] f sz 0 0)
  refine v_iload_n dX10_isSameName_0 rfl rfl ?_
  refine v_istore_n (ls1 := [(3, .int p0), (0, .ref this), (1, .int p0), (2, .int p1)]) dX10_isSameName_1 rfl (by decide) rfl ?_
  refine v_iload_n dX10_isSameName_2 rfl rfl ?_
  refine v_istore (ls1 := [(4, .int p1), (3, .int p0), (0, .ref this), (1, .int p0), (2, .int p1)]) dX10_isSameName_3 (by decide) rfl ?_
  exact v_sub (vs_c rfl (vs_c rfl (vs_c rfl vs_n))) (tX10_isSameName_5 N f N this p0 p1 h)

/-! X10 lookUp (R) -/
def DX10_lookUp_59 (N : Nat) (f : HF) (k2 : Nat → Int32 → Int32 → Int32 → Option Int32) (v0 : Nat) (v1 : Int32) (v2 : Int32) (v3 : Int32) (s0 : Int32) : Option Int32 :=
    if s0 = 0 then
      k2 v0 v1 v2 (v3 + 1)
    else
      some v3

def DX10_lookUp_58 (N : Nat) (f : HF) (k2 : Nat → Int32 → Int32 → Int32 → Option Int32) (v0 : Nat) (v1 : Int32) (v2 : Int32) (v3 : Int32) : Option Int32 :=
    DX10_lookUp_59 N f k2 v0 v1 v2 v3 (0 : Int32)

def DX10_lookUp_54 (N : Nat) (f : HF) (k2 : Nat → Int32 → Int32 → Int32 → Option Int32) (v0 : Nat) (v1 : Int32) (v2 : Int32) (v3 : Int32) : Option Int32 :=
    DX10_lookUp_59 N f k2 v0 v1 v2 v3 (1 : Int32)

def DX10_lookUp_2 (N : Nat) (f : HF)  (n : Nat) (v0 : Nat) (v1 : Int32) (v2 : Int32) (v3 : Int32) : Option Int32 :=
  match n with
  | 0 => none
  | n + 1 =>
    (gI f v0 9 1).bind fun x1 =>
    if x1 ≤ v3 then
      some (-1 : Int32)
    else
      (gR f v0 9 4).bind fun x2 =>
      (aI f x2 0 v3).bind fun x3 =>
      if x3 = v2 then
        (gR f v0 9 3).bind fun x5 =>
        (aI f x5 0 v3).bind fun x6 =>
        if 0 ≤ x6 then
          if v1 < 0 then
            DX10_lookUp_58 N f (DX10_lookUp_2 N f n) v0 v1 v2 v3
          else
            (gR f v0 9 3).bind fun x7 =>
            (aI f x7 0 v3).bind fun x8 =>
            (DX10_isSameName N v0 x8 v1 f).bind fun x9 =>
            if x9 = 0 then
              DX10_lookUp_58 N f (DX10_lookUp_2 N f n) v0 v1 v2 v3
            else
              DX10_lookUp_54 N f (DX10_lookUp_2 N f n) v0 v1 v2 v3
        else
          if 0 ≤ v1 then
            DX10_lookUp_58 N f (DX10_lookUp_2 N f n) v0 v1 v2 v3
          else
            DX10_lookUp_54 N f (DX10_lookUp_2 N f n) v0 v1 v2 v3
      else
        DX10_lookUp_58 N f (DX10_lookUp_2 N f n) v0 v1 v2 v3

def DX10_lookUp (N : Nat) (this : Nat) (p0 : Int32) (p1 : Int32) (f : HF) : Option Int32 :=
  (ck f this 9).bind fun _ =>
  DX10_lookUp_2 N f N this p0 p1 (0 : Int32)

set_option maxRecDepth 20000 in
theorem tX10_lookUp_59 {l : Launch} {g : GT} {sz : Option Nat} (N : Nat) (f : HF) (k2 : Nat → Int32 → Int32 → Int32 → Option Int32) {r : Int32} (hk2 : ∀ (w0 : Nat) (w1 : Int32) (w2 : Int32) (w3 : Int32), k2 w0 w1 w2 w3 = some r → V l g (fun _ => True) (RX10, cX10_lookUp, 5, (Option.some Jvm.ClassFile.FieldType.int), [], "lookUp") 1 (roI (.inl r) f sz) 2 [(0, .ref w0), (1, .int w1), (2, .int w2), (3, .int w3)] [] f sz 0 0) : ∀ (v0 : Nat) (v1 : Int32) (v2 : Int32) (v3 : Int32) (s0 : Int32), DX10_lookUp_59 N f k2 v0 v1 v2 v3 s0 = some r → V l g (fun _ => True) (RX10, cX10_lookUp, 5, (Option.some Jvm.ClassFile.FieldType.int), [], "lookUp") 1 (roI (.inl r) f sz) 59 [(0, .ref v0), (1, .int v1), (2, .int v2), (3, .int v3)] [.int s0] f sz 0 0 := by
  intro v0 v1 v2 v3 s0 h
  unfold DX10_lookUp_59 at h
  refine v_istore (ls1 := [(4, .int s0), (0, .ref v0), (1, .int v1), (2, .int v2), (3, .int v3)]) dX10_lookUp_59 (by decide) rfl ?_
  refine v_iload dX10_lookUp_61 rfl ?_
  refine v_if_eq (tgt := 68) dX10_lookUp_63 (by decide) (fun c4 => ?_) (fun c4 => ?_)
  · replace h := ip_ c4 h
    refine v_iinc (v := (v3 + 1)) (ls1 := [(3, .int (v3 + 1)), (4, .int s0), (0, .ref v0), (1, .int v1), (2, .int v2)]) dX10_lookUp_68 rfl rfl (by decide) rfl ?_
    refine v_goto (tgt := 2) dX10_lookUp_71 (by decide) ?_
    exact v_sub (vs_c rfl (vs_c rfl (vs_c rfl (vs_c rfl vs_n)))) (hk2 v0 v1 v2 (v3 + 1) h)
  · replace h := in_ c4 h
    refine v_iload_n dX10_lookUp_66 rfl rfl ?_
    obtain rfl := Option.some.inj h
    exact v_iret dX10_lookUp_67 rfl rfl

set_option maxRecDepth 20000 in
theorem tX10_lookUp_58 {l : Launch} {g : GT} {sz : Option Nat} (N : Nat) (f : HF) (k2 : Nat → Int32 → Int32 → Int32 → Option Int32) {r : Int32} (hk2 : ∀ (w0 : Nat) (w1 : Int32) (w2 : Int32) (w3 : Int32), k2 w0 w1 w2 w3 = some r → V l g (fun _ => True) (RX10, cX10_lookUp, 5, (Option.some Jvm.ClassFile.FieldType.int), [], "lookUp") 1 (roI (.inl r) f sz) 2 [(0, .ref w0), (1, .int w1), (2, .int w2), (3, .int w3)] [] f sz 0 0) : ∀ (v0 : Nat) (v1 : Int32) (v2 : Int32) (v3 : Int32), DX10_lookUp_58 N f k2 v0 v1 v2 v3 = some r → V l g (fun _ => True) (RX10, cX10_lookUp, 5, (Option.some Jvm.ClassFile.FieldType.int), [], "lookUp") 1 (roI (.inl r) f sz) 58 [(0, .ref v0), (1, .int v1), (2, .int v2), (3, .int v3)] [] f sz 0 0 := by
  intro v0 v1 v2 v3 h
  unfold DX10_lookUp_58 at h
  refine v_iconst (v := 0) dX10_lookUp_58 (by decide) ?_
  exact v_sub (vs_c rfl (vs_c rfl (vs_c rfl (vs_c rfl vs_n)))) (tX10_lookUp_59 N f k2 hk2 v0 v1 v2 v3 (0 : Int32) h)

set_option maxRecDepth 20000 in
theorem tX10_lookUp_54 {l : Launch} {g : GT} {sz : Option Nat} (N : Nat) (f : HF) (k2 : Nat → Int32 → Int32 → Int32 → Option Int32) {r : Int32} (hk2 : ∀ (w0 : Nat) (w1 : Int32) (w2 : Int32) (w3 : Int32), k2 w0 w1 w2 w3 = some r → V l g (fun _ => True) (RX10, cX10_lookUp, 5, (Option.some Jvm.ClassFile.FieldType.int), [], "lookUp") 1 (roI (.inl r) f sz) 2 [(0, .ref w0), (1, .int w1), (2, .int w2), (3, .int w3)] [] f sz 0 0) : ∀ (v0 : Nat) (v1 : Int32) (v2 : Int32) (v3 : Int32), DX10_lookUp_54 N f k2 v0 v1 v2 v3 = some r → V l g (fun _ => True) (RX10, cX10_lookUp, 5, (Option.some Jvm.ClassFile.FieldType.int), [], "lookUp") 1 (roI (.inl r) f sz) 54 [(0, .ref v0), (1, .int v1), (2, .int v2), (3, .int v3)] [] f sz 0 0 := by
  intro v0 v1 v2 v3 h
  unfold DX10_lookUp_54 at h
  refine v_iconst (v := 1) dX10_lookUp_54 (by decide) ?_
  refine v_goto (tgt := 59) dX10_lookUp_55 (by decide) ?_
  exact v_sub (vs_c rfl (vs_c rfl (vs_c rfl (vs_c rfl vs_n)))) (tX10_lookUp_59 N f k2 hk2 v0 v1 v2 v3 (1 : Int32) h)

set_option maxRecDepth 20000 in
theorem tX10_lookUp_2 {l : Launch} {g : GT} {sz : Option Nat} (N : Nat) (f : HF)  {r : Int32} : ∀ (n : Nat), ∀ (v0 : Nat) (v1 : Int32) (v2 : Int32) (v3 : Int32), DX10_lookUp_2 N f n v0 v1 v2 v3 = some r → V l g (fun _ => True) (RX10, cX10_lookUp, 5, (Option.some Jvm.ClassFile.FieldType.int), [], "lookUp") 1 (roI (.inl r) f sz) 2 [(0, .ref v0), (1, .int v1), (2, .int v2), (3, .int v3)] [] f sz 0 0 := by
  intro n
  induction n with
  | zero => intro v0 v1 v2 v3 h; cases h
  | succ n ih =>
    intro v0 v1 v2 v3 h
    rw [DX10_lookUp_2] at h
    refine v_iload_n dX10_lookUp_2 rfl rfl ?_
    refine v_aload_n dX10_lookUp_3 rfl rfl ?_
    obtain ⟨x1, hx1, h⟩ := ob_some h
    refine v_getI dX10_lookUp_4 fl_X10_106 hx1 ?_
    refine v_icmp_ge (tgt := 74) dX10_lookUp_7 (by decide) (fun c16 => ?_) (fun c16 => ?_)
    · replace h := ip_ c16 h
      refine v_iconst (v := -1) dX10_lookUp_74 (by decide) ?_
      obtain rfl := Option.some.inj h
      exact v_iret dX10_lookUp_75 rfl rfl
    · replace h := in_ c16 h
      refine v_aload_n dX10_lookUp_10 rfl rfl ?_
      obtain ⟨x2, hx2, h⟩ := ob_some h
      refine v_getR dX10_lookUp_11 fl_X10_16 hx2 ?_
      refine v_iload_n dX10_lookUp_14 rfl rfl ?_
      obtain ⟨x3, hx3, h⟩ := ob_some h
      refine v_iald dX10_lookUp_15 hx3 ?_
      refine v_iload_n dX10_lookUp_16 rfl rfl ?_
      refine v_icmp_ne (tgt := 58) dX10_lookUp_17 (by decide) (fun c15 => ?_) (fun c15 => ?_)
      · replace h := in_ c15 h
        exact v_sub (vs_c rfl (vs_c rfl (vs_c rfl (vs_c rfl vs_n)))) (tX10_lookUp_58 N f (DX10_lookUp_2 N f n) ih v0 v1 v2 v3 h)
      · replace h := ip_ c15 h
        refine v_aload_n dX10_lookUp_20 rfl rfl ?_
        obtain ⟨x5, hx5, h⟩ := ob_some h
        refine v_getR dX10_lookUp_21 fl_X10_13 hx5 ?_
        refine v_iload_n dX10_lookUp_24 rfl rfl ?_
        obtain ⟨x6, hx6, h⟩ := ob_some h
        refine v_iald dX10_lookUp_25 hx6 ?_
        refine v_if_ge (tgt := 36) dX10_lookUp_26 (by decide) (fun c14 => ?_) (fun c14 => ?_)
        · replace h := ip_ c14 h
          refine v_iload_n dX10_lookUp_36 rfl rfl ?_
          refine v_if_lt (tgt := 58) dX10_lookUp_37 (by decide) (fun c12 => ?_) (fun c12 => ?_)
          · replace h := ip_ c12 h
            exact v_sub (vs_c rfl (vs_c rfl (vs_c rfl (vs_c rfl vs_n)))) (tX10_lookUp_58 N f (DX10_lookUp_2 N f n) ih v0 v1 v2 v3 h)
          · replace h := in_ c12 h
            refine v_aload_n dX10_lookUp_40 rfl rfl ?_
            refine v_aload_n dX10_lookUp_41 rfl rfl ?_
            obtain ⟨x7, hx7, h⟩ := ob_some h
            refine v_getR dX10_lookUp_42 fl_X10_13 hx7 ?_
            refine v_iload_n dX10_lookUp_45 rfl rfl ?_
            obtain ⟨x8, hx8, h⟩ := ob_some h
            refine v_iald dX10_lookUp_46 hx8 ?_
            refine v_iload_n dX10_lookUp_47 rfl rfl ?_
            obtain ⟨x9, hx10, h⟩ := ob_some h
            have ehx10 := tX10_isSameName (l := l) (g := g) (sz := sz) N v0 x8 v1 f hx10
            refine v_cVI dX10_lookUp_48 ml_X10_129 ok_X10_isSameName ehx10 (kX10_isSameName N v0 x8 v1 f hx10) rfl (by decide) rfl (rest := []) rfl (Nat.le_of_ble_eq_true rfl) ?_
            refine v_if_eq (tgt := 58) dX10_lookUp_51 (by decide) (fun c11 => ?_) (fun c11 => ?_)
            · replace h := ip_ c11 h
              exact v_sub (vs_c rfl (vs_c rfl (vs_c rfl (vs_c rfl vs_n)))) (tX10_lookUp_58 N f (DX10_lookUp_2 N f n) ih v0 v1 v2 v3 h)
            · replace h := in_ c11 h
              exact v_sub (vs_c rfl (vs_c rfl (vs_c rfl (vs_c rfl vs_n)))) (tX10_lookUp_54 N f (DX10_lookUp_2 N f n) ih v0 v1 v2 v3 h)
        · replace h := in_ c14 h
          refine v_iload_n dX10_lookUp_29 rfl rfl ?_
          refine v_if_ge (tgt := 58) dX10_lookUp_30 (by decide) (fun c13 => ?_) (fun c13 => ?_)
          · replace h := ip_ c13 h
            exact v_sub (vs_c rfl (vs_c rfl (vs_c rfl (vs_c rfl vs_n)))) (tX10_lookUp_58 N f (DX10_lookUp_2 N f n) ih v0 v1 v2 v3 h)
          · replace h := in_ c13 h
            refine v_goto (tgt := 54) dX10_lookUp_33 (by decide) ?_
            exact v_sub (vs_c rfl (vs_c rfl (vs_c rfl (vs_c rfl vs_n)))) (tX10_lookUp_54 N f (DX10_lookUp_2 N f n) ih v0 v1 v2 v3 h)

set_option maxRecDepth 20000 in
theorem kX10_lookUp (N : Nat) (this : Nat) (p0 : Int32) (p1 : Int32) (f : HF) {r : Int32} (h : DX10_lookUp N this p0 p1 f = some r) : ck f this 9 = some () := by
  unfold DX10_lookUp at h
  obtain ⟨_, hck, _⟩ := ob_some h
  exact hck

set_option maxRecDepth 20000 in
theorem tX10_lookUp {l : Launch} {g : GT} {sz : Option Nat} (N : Nat) (this : Nat) (p0 : Int32) (p1 : Int32) (f : HF) {r : Int32} (h : DX10_lookUp N this p0 p1 f = some r) : Mt l g yX10_lookUp cX10_lookUp 5 (Option.some Jvm.ClassFile.FieldType.int) 1 [.ref this, .int p0, .int p1] f sz (roI (.inl r) f sz) := by
  unfold DX10_lookUp at h
  obtain ⟨_, hck, h⟩ := ob_some h
  refine mt_of (by decide) (Nat.le_of_ble_eq_true rfl) (?_ : V l g (fun _ => True) (RX10, cX10_lookUp, 5, (Option.some Jvm.ClassFile.FieldType.int), [], "lookUp") 1 (roI (.inl r) f sz) 0 [(0, .ref this), (1, .int p0), (2, .int p1)] [] f sz 0 0)
  refine v_iconst (v := 0) dX10_lookUp_0 (by decide) ?_
  refine v_istore_n (ls1 := [(3, .int (0 : Int32)), (0, .ref this), (1, .int p0), (2, .int p1)]) dX10_lookUp_1 rfl (by decide) rfl ?_
  exact v_sub (vs_c rfl (vs_c rfl (vs_c rfl (vs_c rfl vs_n)))) (tX10_lookUp_2 N f N this p0 p1 (0 : Int32) h)

/-! X10 field (W) -/
def DX10_field_212 (N : Nat)  (v0 : Nat) (v5 : Int32) (s0 : Nat) (s1 : Int32) (s2 : Int32) (f : HF) : Option (Int32 × HF) :=
    (sI f s0 0 s1 s2).bind fun f24 =>
    (gR f24 v0 9 15).bind fun x25 =>
    (sI f24 x25 0 (((5 : Int32) * v5) + (3 : Int32)) (3 : Int32)).bind fun f26 =>
    (gR f26 v0 9 16).bind fun x27 =>
    (sL f26 x27 v5 (-999999999999 : Int64)).bind fun f28 =>
    (gR f28 v0 9 17).bind fun x29 =>
    (sL f28 x29 v5 (999999999999 : Int64)).bind fun f30 =>
    (gR f30 v0 9 18).bind fun x31 =>
    (sI f30 x31 0 v5 (-1 : Int32)).bind fun f32 =>
    (gI f32 v0 9 1).bind fun x33 =>
    (pV f32 v0 9 1 (.int (x33 + (1 : Int32)))).bind fun f34 =>
    some (v5, f34)

def DX10_field_175 (N : Nat)  (v0 : Nat) (v2 : Int32) (v5 : Int32) (s0 : Nat) (s1 : Int32) (s2 : Int32) (f : HF) : Option (Int32 × HF) :=
    (sI f s0 0 s1 s2).bind fun f18 =>
    (gR f18 v0 9 6).bind fun x19 =>
    (sI f18 x19 0 v5 (800 : Int32)).bind fun f20 =>
    (gR f20 v0 9 7).bind fun x21 =>
    (sI f20 x21 0 v5 (160 : Int32)).bind fun f22 =>
    (gR f22 v0 9 12).bind fun x23 =>
    if v2 = (2 : Int32) then
      DX10_field_212 N v0 v5 x23 v5 (0 : Int32) f22
    else
      DX10_field_212 N v0 v5 x23 v5 (-1 : Int32) f22

def DX10_field_115 (N : Nat)  (v0 : Nat) (v1 : Int32) (v2 : Int32) (v3 : Int32) (v4 : Int32) (s0 : Nat) (s1 : Int32) (f : HF) : Option (Int32 × HF) :=
    (pV f s0 9 0 (.int s1)).bind fun f8 =>
    (gI f8 v0 9 0).bind fun x9 =>
    if x9 ≤ 0 then
      (gI f8 v0 9 1).bind fun x10 =>
      (gR f8 v0 9 2).bind fun x11 =>
      (sI f8 x11 0 x10 v2).bind fun f12 =>
      (gR f12 v0 9 3).bind fun x13 =>
      (sI f12 x13 0 x10 v1).bind fun f14 =>
      (gR f14 v0 9 4).bind fun x15 =>
      (sI f14 x15 0 x10 v3).bind fun f16 =>
      (gR f16 v0 9 5).bind fun x17 =>
      if v4 < 0 then
        DX10_field_175 N v0 v2 x10 x17 x10 x10 f16
      else
        DX10_field_175 N v0 v2 x10 x17 x10 v4 f16
    else
      some ((0 : Int32), f8)

def DX10_field_101 (N : Nat)  (v0 : Nat) (v1 : Int32) (v2 : Int32) (v3 : Int32) (v4 : Int32) (s0 : Nat) (f : HF) : Option (Int32 × HF) :=
    (gI f v0 9 1).bind fun x7 =>
    if x7 = (40 : Int32) then
      DX10_field_115 N v0 v1 v2 v3 v4 s0 (4 : Int32) f
    else
      DX10_field_115 N v0 v1 v2 v3 v4 s0 (0 : Int32) f

def DX10_field_60 (N : Nat)  (v0 : Nat) (v1 : Int32) (v2 : Int32) (v3 : Int32) (s0 : Nat) (s1 : Int32) (f : HF) : Option (Int32 × HF) :=
    (pV f s0 9 0 (.int s1)).bind fun f3 =>
    (gI f3 v0 9 0).bind fun x4 =>
    if x4 ≤ 0 then
      (DX10_lookUp N v0 v1 v3 f3).bind fun x5 =>
      if x5 < 0 then
        DX10_field_101 N v0 v1 v2 v3 x5 v0 f3
      else
        (gR f3 v0 9 2).bind fun x39 =>
        (aI f3 x39 0 x5).bind fun x40 =>
        if x40 = v2 then
          DX10_field_101 N v0 v1 v2 v3 x5 v0 f3
        else
          DX10_field_115 N v0 v1 v2 v3 x5 v0 (3 : Int32) f3
    else
      some ((0 : Int32), f3)

def DX10_field_55 (N : Nat)  (v0 : Nat) (v1 : Int32) (v2 : Int32) (v3 : Int32) (s0 : Nat) (f : HF) : Option (Int32 × HF) :=
    DX10_field_60 N v0 v1 v2 v3 s0 (2 : Int32) f

def DX10_field_59 (N : Nat)  (v0 : Nat) (v1 : Int32) (v2 : Int32) (v3 : Int32) (s0 : Nat) (f : HF) : Option (Int32 × HF) :=
    DX10_field_60 N v0 v1 v2 v3 s0 (0 : Int32) f

def DX10_field_18 (N : Nat)  (v0 : Nat) (v1 : Int32) (v2 : Int32) (v3 : Int32) (s0 : Nat) (f : HF) : Option (Int32 × HF) :=
    (DX10_isIn N (v2.toInt64) (0 : Int64) (5 : Int64) f).bind fun x1 =>
    if x1 = 0 then
      DX10_field_55 N v0 v1 v2 v3 s0 f
    else
      (DX10_isIn N (v3.toInt64) (0 : Int64) (999 : Int64) f).bind fun x44 =>
      if x44 = 0 then
        DX10_field_55 N v0 v1 v2 v3 s0 f
      else
        if v1 < 0 then
          DX10_field_59 N v0 v1 v2 v3 s0 f
        else
          (gR f v0 9 2).bind fun x46 =>
          (aI f x46 0 v1).bind fun x47 =>
          if x47 = 0 then
            DX10_field_59 N v0 v1 v2 v3 s0 f
          else
            DX10_field_55 N v0 v1 v2 v3 s0 f

def DX10_field (N : Nat) (this : Nat) (p0 : Int32) (p1 : Int32) (p2 : Int32) (f : HF) : Option (Int32 × HF) :=
  (ck f this 9).bind fun _ =>
  if p0 = (-1 : Int32) then
    DX10_field_18 N this p0 p1 p2 this f
  else
    (DX10_no N this p0 f).bind fun x52 =>
    if x52 = 0 then
      DX10_field_18 N this p0 p1 p2 this f
    else
      DX10_field_60 N this p0 p1 p2 this (1 : Int32) f

set_option maxRecDepth 20000 in
theorem tX10_field_212 {l : Launch} {g : GT} {sz : Option Nat} (N : Nat)  {r : (Int32 × HF)} : ∀ (v0 : Nat) (v5 : Int32) (s0 : Nat) (s1 : Int32) (s2 : Int32) (f : HF), DX10_field_212 N v0 v5 s0 s1 s2 f = some r → V l g (fun _ => True) (RX10, cX10_field, 6, (Option.some Jvm.ClassFile.FieldType.int), [], "field") 2 (roI (.inl r.1) r.2 sz) 212 [(0, .ref v0), (5, .int v5)] [.int s2, .int s1, .ref s0] f sz 0 0 := by
  intro v0 v5 s0 s1 s2 f h
  unfold DX10_field_212 at h
  obtain ⟨f24, hf24, h⟩ := ob_some h
  refine v_iast dX10_field_212 hf24 ?_
  refine v_aload_n dX10_field_213 rfl rfl ?_
  obtain ⟨x25, hx25, h⟩ := ob_some h
  refine v_getR dX10_field_214 fl_X10_50 hx25 ?_
  refine v_iconst (v := 5) dX10_field_217 (by decide) ?_
  refine v_iload dX10_field_218 rfl ?_
  refine v_imul dX10_field_220 ?_
  refine v_iconst (v := 3) dX10_field_221 (by decide) ?_
  refine v_iadd dX10_field_222 ?_
  refine v_iconst (v := 3) dX10_field_223 (by decide) ?_
  obtain ⟨f26, hf26, h⟩ := ob_some h
  refine v_iast dX10_field_224 hf26 ?_
  refine v_aload_n dX10_field_225 rfl rfl ?_
  obtain ⟨x27, hx27, h⟩ := ob_some h
  refine v_getR dX10_field_226 fl_X10_53 hx27 ?_
  refine v_iload dX10_field_229 rfl ?_
  refine v_ldc2 dX10_field_231 kc_X10_125 ?_
  obtain ⟨f28, hf28, h⟩ := ob_some h
  refine v_last dX10_field_234 hf28 ?_
  refine v_aload_n dX10_field_235 rfl rfl ?_
  obtain ⟨x29, hx29, h⟩ := ob_some h
  refine v_getR dX10_field_236 fl_X10_57 hx29 ?_
  refine v_iload dX10_field_239 rfl ?_
  refine v_ldc2 dX10_field_241 kc_X10_127 ?_
  obtain ⟨f30, hf30, h⟩ := ob_some h
  refine v_last dX10_field_244 hf30 ?_
  refine v_aload_n dX10_field_245 rfl rfl ?_
  obtain ⟨x31, hx31, h⟩ := ob_some h
  refine v_getR dX10_field_246 fl_X10_60 hx31 ?_
  refine v_iload dX10_field_249 rfl ?_
  refine v_iconst (v := -1) dX10_field_251 (by decide) ?_
  obtain ⟨f32, hf32, h⟩ := ob_some h
  refine v_iast dX10_field_252 hf32 ?_
  refine v_aload_n dX10_field_253 rfl rfl ?_
  refine v_dup dX10_field_254 rfl ?_
  obtain ⟨x33, hx33, h⟩ := ob_some h
  refine v_getI dX10_field_255 fl_X10_106 hx33 ?_
  refine v_iconst (v := 1) dX10_field_258 (by decide) ?_
  refine v_iadd dX10_field_259 ?_
  obtain ⟨f34, hf34, h⟩ := ob_some h
  refine v_pI dX10_field_260 fp_X10_106 hf34 ?_
  refine v_iload dX10_field_263 rfl ?_
  obtain rfl := Option.some.inj h
  exact v_iret dX10_field_265 rfl rfl

set_option maxRecDepth 20000 in
theorem tX10_field_175 {l : Launch} {g : GT} {sz : Option Nat} (N : Nat)  {r : (Int32 × HF)} : ∀ (v0 : Nat) (v2 : Int32) (v5 : Int32) (s0 : Nat) (s1 : Int32) (s2 : Int32) (f : HF), DX10_field_175 N v0 v2 v5 s0 s1 s2 f = some r → V l g (fun _ => True) (RX10, cX10_field, 6, (Option.some Jvm.ClassFile.FieldType.int), [], "field") 2 (roI (.inl r.1) r.2 sz) 175 [(0, .ref v0), (2, .int v2), (5, .int v5)] [.int s2, .int s1, .ref s0] f sz 0 0 := by
  intro v0 v2 v5 s0 s1 s2 f h
  unfold DX10_field_175 at h
  obtain ⟨f18, hf18, h⟩ := ob_some h
  refine v_iast dX10_field_175 hf18 ?_
  refine v_aload_n dX10_field_176 rfl rfl ?_
  obtain ⟨x19, hx19, h⟩ := ob_some h
  refine v_getR dX10_field_177 fl_X10_22 hx19 ?_
  refine v_iload dX10_field_180 rfl ?_
  refine v_sipush (v := 800) dX10_field_182 (by decide) ?_
  obtain ⟨f20, hf20, h⟩ := ob_some h
  refine v_iast dX10_field_185 hf20 ?_
  refine v_aload_n dX10_field_186 rfl rfl ?_
  obtain ⟨x21, hx21, h⟩ := ob_some h
  refine v_getR dX10_field_187 fl_X10_25 hx21 ?_
  refine v_iload dX10_field_190 rfl ?_
  refine v_sipush (v := 160) dX10_field_192 (by decide) ?_
  obtain ⟨f22, hf22, h⟩ := ob_some h
  refine v_iast dX10_field_195 hf22 ?_
  refine v_aload_n dX10_field_196 rfl rfl ?_
  obtain ⟨x23, hx23, h⟩ := ob_some h
  refine v_getR dX10_field_197 fl_X10_41 hx23 ?_
  refine v_iload dX10_field_200 rfl ?_
  refine v_iload_n dX10_field_202 rfl rfl ?_
  refine v_iconst (v := 2) dX10_field_203 (by decide) ?_
  refine v_icmp_ne (tgt := 211) dX10_field_204 (by decide) (fun c35 => ?_) (fun c35 => ?_)
  · replace h := in_ c35 h
    refine v_iconst (v := -1) dX10_field_211 (by decide) ?_
    exact v_sub (vs_c rfl (vs_c rfl vs_n)) (tX10_field_212 N v0 v5 x23 v5 (-1 : Int32) f22 h)
  · replace h := ip_ c35 h
    refine v_iconst (v := 0) dX10_field_207 (by decide) ?_
    refine v_goto (tgt := 212) dX10_field_208 (by decide) ?_
    exact v_sub (vs_c rfl (vs_c rfl vs_n)) (tX10_field_212 N v0 v5 x23 v5 (0 : Int32) f22 h)

set_option maxRecDepth 20000 in
theorem tX10_field_115 {l : Launch} {g : GT} {sz : Option Nat} (N : Nat)  {r : (Int32 × HF)} : ∀ (v0 : Nat) (v1 : Int32) (v2 : Int32) (v3 : Int32) (v4 : Int32) (s0 : Nat) (s1 : Int32) (f : HF), DX10_field_115 N v0 v1 v2 v3 v4 s0 s1 f = some r → V l g (fun _ => True) (RX10, cX10_field, 6, (Option.some Jvm.ClassFile.FieldType.int), [], "field") 2 (roI (.inl r.1) r.2 sz) 115 [(0, .ref v0), (1, .int v1), (2, .int v2), (3, .int v3), (4, .int v4)] [.int s1, .ref s0] f sz 0 0 := by
  intro v0 v1 v2 v3 v4 s0 s1 f h
  unfold DX10_field_115 at h
  obtain ⟨f8, hf8, h⟩ := ob_some h
  refine v_pI dX10_field_115 fp_X10_102 hf8 ?_
  refine v_aload_n dX10_field_118 rfl rfl ?_
  obtain ⟨x9, hx9, h⟩ := ob_some h
  refine v_getI dX10_field_119 fl_X10_102 hx9 ?_
  refine v_if_le (tgt := 127) dX10_field_122 (by decide) (fun c37 => ?_) (fun c37 => ?_)
  · replace h := ip_ c37 h
    refine v_aload_n dX10_field_127 rfl rfl ?_
    obtain ⟨x10, hx10, h⟩ := ob_some h
    refine v_getI dX10_field_128 fl_X10_106 hx10 ?_
    refine v_istore (ls1 := [(5, .int x10), (0, .ref v0), (1, .int v1), (2, .int v2), (3, .int v3), (4, .int v4)]) dX10_field_131 (by decide) rfl ?_
    refine v_aload_n dX10_field_133 rfl rfl ?_
    obtain ⟨x11, hx11, h⟩ := ob_some h
    refine v_getR dX10_field_134 fl_X10_7 hx11 ?_
    refine v_iload dX10_field_137 rfl ?_
    refine v_iload_n dX10_field_139 rfl rfl ?_
    obtain ⟨f12, hf12, h⟩ := ob_some h
    refine v_iast dX10_field_140 hf12 ?_
    refine v_aload_n dX10_field_141 rfl rfl ?_
    obtain ⟨x13, hx13, h⟩ := ob_some h
    refine v_getR dX10_field_142 fl_X10_13 hx13 ?_
    refine v_iload dX10_field_145 rfl ?_
    refine v_iload_n dX10_field_147 rfl rfl ?_
    obtain ⟨f14, hf14, h⟩ := ob_some h
    refine v_iast dX10_field_148 hf14 ?_
    refine v_aload_n dX10_field_149 rfl rfl ?_
    obtain ⟨x15, hx15, h⟩ := ob_some h
    refine v_getR dX10_field_150 fl_X10_16 hx15 ?_
    refine v_iload dX10_field_153 rfl ?_
    refine v_iload_n dX10_field_155 rfl rfl ?_
    obtain ⟨f16, hf16, h⟩ := ob_some h
    refine v_iast dX10_field_156 hf16 ?_
    refine v_aload_n dX10_field_157 rfl rfl ?_
    obtain ⟨x17, hx17, h⟩ := ob_some h
    refine v_getR dX10_field_158 fl_X10_19 hx17 ?_
    refine v_iload dX10_field_161 rfl ?_
    refine v_iload dX10_field_163 rfl ?_
    refine v_if_lt (tgt := 173) dX10_field_165 (by decide) (fun c36 => ?_) (fun c36 => ?_)
    · replace h := ip_ c36 h
      refine v_iload dX10_field_173 rfl ?_
      exact v_sub (vs_c rfl (vs_c rfl (vs_c rfl vs_n))) (tX10_field_175 N v0 v2 x10 x17 x10 x10 f16 h)
    · replace h := in_ c36 h
      refine v_iload dX10_field_168 rfl ?_
      refine v_goto (tgt := 175) dX10_field_170 (by decide) ?_
      exact v_sub (vs_c rfl (vs_c rfl (vs_c rfl vs_n))) (tX10_field_175 N v0 v2 x10 x17 x10 v4 f16 h)
  · replace h := in_ c37 h
    refine v_iconst (v := 0) dX10_field_125 (by decide) ?_
    obtain rfl := Option.some.inj h
    exact v_iret dX10_field_126 rfl rfl

set_option maxRecDepth 20000 in
theorem tX10_field_101 {l : Launch} {g : GT} {sz : Option Nat} (N : Nat)  {r : (Int32 × HF)} : ∀ (v0 : Nat) (v1 : Int32) (v2 : Int32) (v3 : Int32) (v4 : Int32) (s0 : Nat) (f : HF), DX10_field_101 N v0 v1 v2 v3 v4 s0 f = some r → V l g (fun _ => True) (RX10, cX10_field, 6, (Option.some Jvm.ClassFile.FieldType.int), [], "field") 2 (roI (.inl r.1) r.2 sz) 101 [(0, .ref v0), (1, .int v1), (2, .int v2), (3, .int v3), (4, .int v4)] [.ref s0] f sz 0 0 := by
  intro v0 v1 v2 v3 v4 s0 f h
  unfold DX10_field_101 at h
  refine v_aload_n dX10_field_101 rfl rfl ?_
  obtain ⟨x7, hx7, h⟩ := ob_some h
  refine v_getI dX10_field_102 fl_X10_106 hx7 ?_
  refine v_bipush (v := 40) dX10_field_105 (by decide) ?_
  refine v_icmp_ne (tgt := 114) dX10_field_107 (by decide) (fun c38 => ?_) (fun c38 => ?_)
  · replace h := in_ c38 h
    refine v_iconst (v := 0) dX10_field_114 (by decide) ?_
    exact v_sub (vs_c rfl (vs_c rfl (vs_c rfl (vs_c rfl (vs_c rfl vs_n))))) (tX10_field_115 N v0 v1 v2 v3 v4 s0 (0 : Int32) f h)
  · replace h := ip_ c38 h
    refine v_iconst (v := 4) dX10_field_110 (by decide) ?_
    refine v_goto (tgt := 115) dX10_field_111 (by decide) ?_
    exact v_sub (vs_c rfl (vs_c rfl (vs_c rfl (vs_c rfl (vs_c rfl vs_n))))) (tX10_field_115 N v0 v1 v2 v3 v4 s0 (4 : Int32) f h)

set_option maxRecDepth 20000 in
theorem tX10_field_60 {l : Launch} {g : GT} {sz : Option Nat} (N : Nat)  {r : (Int32 × HF)} : ∀ (v0 : Nat) (v1 : Int32) (v2 : Int32) (v3 : Int32) (s0 : Nat) (s1 : Int32) (f : HF), DX10_field_60 N v0 v1 v2 v3 s0 s1 f = some r → V l g (fun _ => True) (RX10, cX10_field, 6, (Option.some Jvm.ClassFile.FieldType.int), [], "field") 2 (roI (.inl r.1) r.2 sz) 60 [(0, .ref v0), (1, .int v1), (2, .int v2), (3, .int v3)] [.int s1, .ref s0] f sz 0 0 := by
  intro v0 v1 v2 v3 s0 s1 f h
  unfold DX10_field_60 at h
  obtain ⟨f3, hf3, h⟩ := ob_some h
  refine v_pI dX10_field_60 fp_X10_102 hf3 ?_
  refine v_aload_n dX10_field_63 rfl rfl ?_
  obtain ⟨x4, hx4, h⟩ := ob_some h
  refine v_getI dX10_field_64 fl_X10_102 hx4 ?_
  refine v_if_le (tgt := 72) dX10_field_67 (by decide) (fun c43 => ?_) (fun c43 => ?_)
  · replace h := ip_ c43 h
    refine v_aload_n dX10_field_72 rfl rfl ?_
    refine v_iload_n dX10_field_73 rfl rfl ?_
    refine v_iload_n dX10_field_74 rfl rfl ?_
    obtain ⟨x5, hx6, h⟩ := ob_some h
    have ehx6 := tX10_lookUp (l := l) (g := g) (sz := sz) N v0 v1 v3 f3 hx6
    refine v_cVI dX10_field_75 ml_X10_121 ok_X10_lookUp ehx6 (kX10_lookUp N v0 v1 v3 f3 hx6) rfl (by decide) rfl (rest := []) rfl (Nat.le_of_ble_eq_true rfl) ?_
    refine v_istore (ls1 := [(4, .int x5), (0, .ref v0), (1, .int v1), (2, .int v2), (3, .int v3)]) dX10_field_78 (by decide) rfl ?_
    refine v_aload_n dX10_field_80 rfl rfl ?_
    refine v_iload dX10_field_81 rfl ?_
    refine v_if_lt (tgt := 101) dX10_field_83 (by decide) (fun c42 => ?_) (fun c42 => ?_)
    · replace h := ip_ c42 h
      exact v_sub (vs_c rfl (vs_c rfl (vs_c rfl (vs_c rfl (vs_c rfl vs_n))))) (tX10_field_101 N v0 v1 v2 v3 x5 v0 f3 h)
    · replace h := in_ c42 h
      refine v_aload_n dX10_field_86 rfl rfl ?_
      obtain ⟨x39, hx39, h⟩ := ob_some h
      refine v_getR dX10_field_87 fl_X10_7 hx39 ?_
      refine v_iload dX10_field_90 rfl ?_
      obtain ⟨x40, hx40, h⟩ := ob_some h
      refine v_iald dX10_field_92 hx40 ?_
      refine v_iload_n dX10_field_93 rfl rfl ?_
      refine v_icmp_eq (tgt := 101) dX10_field_94 (by decide) (fun c41 => ?_) (fun c41 => ?_)
      · replace h := ip_ c41 h
        exact v_sub (vs_c rfl (vs_c rfl (vs_c rfl (vs_c rfl (vs_c rfl vs_n))))) (tX10_field_101 N v0 v1 v2 v3 x5 v0 f3 h)
      · replace h := in_ c41 h
        refine v_iconst (v := 3) dX10_field_97 (by decide) ?_
        refine v_goto (tgt := 115) dX10_field_98 (by decide) ?_
        exact v_sub (vs_c rfl (vs_c rfl (vs_c rfl (vs_c rfl (vs_c rfl vs_n))))) (tX10_field_115 N v0 v1 v2 v3 x5 v0 (3 : Int32) f3 h)
  · replace h := in_ c43 h
    refine v_iconst (v := 0) dX10_field_70 (by decide) ?_
    obtain rfl := Option.some.inj h
    exact v_iret dX10_field_71 rfl rfl

set_option maxRecDepth 20000 in
theorem tX10_field_55 {l : Launch} {g : GT} {sz : Option Nat} (N : Nat)  {r : (Int32 × HF)} : ∀ (v0 : Nat) (v1 : Int32) (v2 : Int32) (v3 : Int32) (s0 : Nat) (f : HF), DX10_field_55 N v0 v1 v2 v3 s0 f = some r → V l g (fun _ => True) (RX10, cX10_field, 6, (Option.some Jvm.ClassFile.FieldType.int), [], "field") 2 (roI (.inl r.1) r.2 sz) 55 [(0, .ref v0), (1, .int v1), (2, .int v2), (3, .int v3)] [.ref s0] f sz 0 0 := by
  intro v0 v1 v2 v3 s0 f h
  unfold DX10_field_55 at h
  refine v_iconst (v := 2) dX10_field_55 (by decide) ?_
  refine v_goto (tgt := 60) dX10_field_56 (by decide) ?_
  exact v_sub (vs_c rfl (vs_c rfl (vs_c rfl (vs_c rfl vs_n)))) (tX10_field_60 N v0 v1 v2 v3 s0 (2 : Int32) f h)

set_option maxRecDepth 20000 in
theorem tX10_field_59 {l : Launch} {g : GT} {sz : Option Nat} (N : Nat)  {r : (Int32 × HF)} : ∀ (v0 : Nat) (v1 : Int32) (v2 : Int32) (v3 : Int32) (s0 : Nat) (f : HF), DX10_field_59 N v0 v1 v2 v3 s0 f = some r → V l g (fun _ => True) (RX10, cX10_field, 6, (Option.some Jvm.ClassFile.FieldType.int), [], "field") 2 (roI (.inl r.1) r.2 sz) 59 [(0, .ref v0), (1, .int v1), (2, .int v2), (3, .int v3)] [.ref s0] f sz 0 0 := by
  intro v0 v1 v2 v3 s0 f h
  unfold DX10_field_59 at h
  refine v_iconst (v := 0) dX10_field_59 (by decide) ?_
  exact v_sub (vs_c rfl (vs_c rfl (vs_c rfl (vs_c rfl vs_n)))) (tX10_field_60 N v0 v1 v2 v3 s0 (0 : Int32) f h)

set_option maxRecDepth 20000 in
theorem tX10_field_18 {l : Launch} {g : GT} {sz : Option Nat} (N : Nat)  {r : (Int32 × HF)} : ∀ (v0 : Nat) (v1 : Int32) (v2 : Int32) (v3 : Int32) (s0 : Nat) (f : HF), DX10_field_18 N v0 v1 v2 v3 s0 f = some r → V l g (fun _ => True) (RX10, cX10_field, 6, (Option.some Jvm.ClassFile.FieldType.int), [], "field") 2 (roI (.inl r.1) r.2 sz) 18 [(0, .ref v0), (1, .int v1), (2, .int v2), (3, .int v3)] [.ref s0] f sz 0 0 := by
  intro v0 v1 v2 v3 s0 f h
  unfold DX10_field_18 at h
  refine v_iload_n dX10_field_18 rfl rfl ?_
  refine v_i2l dX10_field_19 ?_
  refine v_lconst (v := 0) dX10_field_20 (by decide) ?_
  refine v_ldc2 dX10_field_21 kc_X10_113 ?_
  obtain ⟨x1, hx2, h⟩ := ob_some h
  have ehx2 := tX10_isIn (l := l) (g := g) (sz := sz) N (v2.toInt64) (0 : Int64) (5 : Int64) f hx2
  refine v_cSI dX10_field_24 ml_X10_115 ok_X10_isIn ehx2 (by decide) rfl (rest := [.ref s0]) rfl (Nat.le_of_ble_eq_true rfl) ?_
  refine v_if_eq (tgt := 55) dX10_field_27 (by decide) (fun c51 => ?_) (fun c51 => ?_)
  · replace h := ip_ c51 h
    exact v_sub (vs_c rfl (vs_c rfl (vs_c rfl (vs_c rfl vs_n)))) (tX10_field_55 N v0 v1 v2 v3 s0 f h)
  · replace h := in_ c51 h
    refine v_iload_n dX10_field_30 rfl rfl ?_
    refine v_i2l dX10_field_31 ?_
    refine v_lconst (v := 0) dX10_field_32 (by decide) ?_
    refine v_ldc2 dX10_field_33 kc_X10_119 ?_
    obtain ⟨x44, hx45, h⟩ := ob_some h
    have ehx45 := tX10_isIn (l := l) (g := g) (sz := sz) N (v3.toInt64) (0 : Int64) (999 : Int64) f hx45
    refine v_cSI dX10_field_36 ml_X10_115 ok_X10_isIn ehx45 (by decide) rfl (rest := [.ref s0]) rfl (Nat.le_of_ble_eq_true rfl) ?_
    refine v_if_eq (tgt := 55) dX10_field_39 (by decide) (fun c50 => ?_) (fun c50 => ?_)
    · replace h := ip_ c50 h
      exact v_sub (vs_c rfl (vs_c rfl (vs_c rfl (vs_c rfl vs_n)))) (tX10_field_55 N v0 v1 v2 v3 s0 f h)
    · replace h := in_ c50 h
      refine v_iload_n dX10_field_42 rfl rfl ?_
      refine v_if_lt (tgt := 59) dX10_field_43 (by decide) (fun c49 => ?_) (fun c49 => ?_)
      · replace h := ip_ c49 h
        exact v_sub (vs_c rfl (vs_c rfl (vs_c rfl (vs_c rfl vs_n)))) (tX10_field_59 N v0 v1 v2 v3 s0 f h)
      · replace h := in_ c49 h
        refine v_aload_n dX10_field_46 rfl rfl ?_
        obtain ⟨x46, hx46, h⟩ := ob_some h
        refine v_getR dX10_field_47 fl_X10_7 hx46 ?_
        refine v_iload_n dX10_field_50 rfl rfl ?_
        obtain ⟨x47, hx47, h⟩ := ob_some h
        refine v_iald dX10_field_51 hx47 ?_
        refine v_if_eq (tgt := 59) dX10_field_52 (by decide) (fun c48 => ?_) (fun c48 => ?_)
        · replace h := ip_ c48 h
          exact v_sub (vs_c rfl (vs_c rfl (vs_c rfl (vs_c rfl vs_n)))) (tX10_field_59 N v0 v1 v2 v3 s0 f h)
        · replace h := in_ c48 h
          exact v_sub (vs_c rfl (vs_c rfl (vs_c rfl (vs_c rfl vs_n)))) (tX10_field_55 N v0 v1 v2 v3 s0 f h)

set_option maxRecDepth 20000 in
theorem kX10_field (N : Nat) (this : Nat) (p0 : Int32) (p1 : Int32) (p2 : Int32) (f : HF) {r : (Int32 × HF)} (h : DX10_field N this p0 p1 p2 f = some r) : ck f this 9 = some () := by
  unfold DX10_field at h
  obtain ⟨_, hck, _⟩ := ob_some h
  exact hck

set_option maxRecDepth 20000 in
theorem tX10_field {l : Launch} {g : GT} {sz : Option Nat} (N : Nat) (this : Nat) (p0 : Int32) (p1 : Int32) (p2 : Int32) (f : HF) {r : (Int32 × HF)} (h : DX10_field N this p0 p1 p2 f = some r) : Mt l g yX10_field cX10_field 6 (Option.some Jvm.ClassFile.FieldType.int) 2 [.ref this, .int p0, .int p1, .int p2] f sz (roI (.inl r.1) r.2 sz) := by
  unfold DX10_field at h
  obtain ⟨_, hck, h⟩ := ob_some h
  refine mt_of (by decide) (Nat.le_of_ble_eq_true rfl) (?_ : V l g (fun _ => True) (RX10, cX10_field, 6, (Option.some Jvm.ClassFile.FieldType.int), [], "field") 2 (roI (.inl r.1) r.2 sz) 0 [(0, .ref this), (1, .int p0), (2, .int p1), (3, .int p2)] [] f sz 0 0)
  refine v_aload_n dX10_field_0 rfl rfl ?_
  refine v_iload_n dX10_field_1 rfl rfl ?_
  refine v_iconst (v := -1) dX10_field_2 (by decide) ?_
  refine v_icmp_eq (tgt := 18) dX10_field_3 (by decide) (fun c55 => ?_) (fun c55 => ?_)
  · replace h := ip_ c55 h
    exact v_sub (vs_c rfl (vs_c rfl (vs_c rfl (vs_c rfl vs_n)))) (tX10_field_18 N this p0 p1 p2 this f h)
  · replace h := in_ c55 h
    refine v_aload_n dX10_field_6 rfl rfl ?_
    refine v_iload_n dX10_field_7 rfl rfl ?_
    obtain ⟨x52, hx53, h⟩ := ob_some h
    have ehx53 := tX10_no (l := l) (g := g) (sz := sz) N this p0 f hx53
    refine v_cVI dX10_field_8 ml_X10_109 ok_X10_no ehx53 (kX10_no N this p0 f hx53) rfl (by decide) rfl (rest := [.ref this]) rfl (Nat.le_of_ble_eq_true rfl) ?_
    refine v_if_eq (tgt := 18) dX10_field_11 (by decide) (fun c54 => ?_) (fun c54 => ?_)
    · replace h := ip_ c54 h
      exact v_sub (vs_c rfl (vs_c rfl (vs_c rfl (vs_c rfl vs_n)))) (tX10_field_18 N this p0 p1 p2 this f h)
    · replace h := in_ c54 h
      refine v_iconst (v := 1) dX10_field_14 (by decide) ?_
      refine v_goto (tgt := 60) dX10_field_15 (by decide) ?_
      exact v_sub (vs_c rfl (vs_c rfl (vs_c rfl (vs_c rfl vs_n)))) (tX10_field_60 N this p0 p1 p2 this (1 : Int32) f h)

/-! X10 isSigned (R) -/
def DX10_isSigned (N : Nat) (this : Nat) (p0 : Int32) (f : HF) : Option Int32 :=
  (ck f this 9).bind fun _ =>
  (gR f this 9 2).bind fun x1 =>
  (aI f x1 0 p0).bind fun x2 =>
  if x2 = (1 : Int32) then
    some (1 : Int32)
  else
    (gR f this 9 2).bind fun x3 =>
    (aI f x3 0 p0).bind fun x4 =>
    if x4 = (5 : Int32) then
      some (1 : Int32)
    else
      some (0 : Int32)

set_option maxRecDepth 20000 in
theorem kX10_isSigned (N : Nat) (this : Nat) (p0 : Int32) (f : HF) {r : Int32} (h : DX10_isSigned N this p0 f = some r) : ck f this 9 = some () := by
  unfold DX10_isSigned at h
  obtain ⟨_, hck, _⟩ := ob_some h
  exact hck

set_option maxRecDepth 20000 in
theorem tX10_isSigned {l : Launch} {g : GT} {sz : Option Nat} (N : Nat) (this : Nat) (p0 : Int32) (f : HF) {r : Int32} (h : DX10_isSigned N this p0 f = some r) : Mt l g yX10_isSigned cX10_isSigned 2 (Option.some Jvm.ClassFile.FieldType.boolean) 0 [.ref this, .int p0] f sz (roI (.inl r) f sz) := by
  unfold DX10_isSigned at h
  obtain ⟨_, hck, h⟩ := ob_some h
  refine mt_of (by decide) (Nat.le_of_ble_eq_true rfl) (?_ : V l g (fun _ => True) (RX10, cX10_isSigned, 2, (Option.some Jvm.ClassFile.FieldType.boolean), [], "isSigned") 0 (roI (.inl r) f sz) 0 [(0, .ref this), (1, .int p0)] [] f sz 0 0)
  refine v_aload_n dX10_isSigned_0 rfl rfl ?_
  obtain ⟨x1, hx1, h⟩ := ob_some h
  refine v_getR dX10_isSigned_1 fl_X10_7 hx1 ?_
  refine v_iload_n dX10_isSigned_4 rfl rfl ?_
  obtain ⟨x2, hx2, h⟩ := ob_some h
  refine v_iald dX10_isSigned_5 hx2 ?_
  refine v_iconst (v := 1) dX10_isSigned_6 (by decide) ?_
  refine v_icmp_eq (tgt := 20) dX10_isSigned_7 (by decide) (fun c6 => ?_) (fun c6 => ?_)
  · replace h := ip_ c6 h
    refine v_iconst (v := 1) dX10_isSigned_20 (by decide) ?_
    refine v_goto (tgt := 25) dX10_isSigned_21 (by decide) ?_
    obtain rfl := Option.some.inj h
    exact v_zret dX10_isSigned_25 rfl (Or.inr rfl) rfl
  · replace h := in_ c6 h
    refine v_aload_n dX10_isSigned_10 rfl rfl ?_
    obtain ⟨x3, hx3, h⟩ := ob_some h
    refine v_getR dX10_isSigned_11 fl_X10_7 hx3 ?_
    refine v_iload_n dX10_isSigned_14 rfl rfl ?_
    obtain ⟨x4, hx4, h⟩ := ob_some h
    refine v_iald dX10_isSigned_15 hx4 ?_
    refine v_iconst (v := 5) dX10_isSigned_16 (by decide) ?_
    refine v_icmp_ne (tgt := 24) dX10_isSigned_17 (by decide) (fun c5 => ?_) (fun c5 => ?_)
    · replace h := in_ c5 h
      refine v_iconst (v := 0) dX10_isSigned_24 (by decide) ?_
      obtain rfl := Option.some.inj h
      exact v_zret dX10_isSigned_25 rfl (Or.inl rfl) rfl
    · replace h := ip_ c5 h
      refine v_iconst (v := 1) dX10_isSigned_20 (by decide) ?_
      refine v_goto (tgt := 25) dX10_isSigned_21 (by decide) ?_
      obtain rfl := Option.some.inj h
      exact v_zret dX10_isSigned_25 rfl (Or.inr rfl) rfl

/-! X10 isPicked (R) -/
def DX10_isPicked (N : Nat) (this : Nat) (p0 : Int32) (f : HF) : Option Int32 :=
  (ck f this 9).bind fun _ =>
  (gR f this 9 2).bind fun x1 =>
  (aI f x1 0 p0).bind fun x2 =>
  if x2 = (3 : Int32) then
    some (1 : Int32)
  else
    (gR f this 9 2).bind fun x3 =>
    (aI f x3 0 p0).bind fun x4 =>
    if x4 = (4 : Int32) then
      some (1 : Int32)
    else
      some (0 : Int32)

set_option maxRecDepth 20000 in
theorem kX10_isPicked (N : Nat) (this : Nat) (p0 : Int32) (f : HF) {r : Int32} (h : DX10_isPicked N this p0 f = some r) : ck f this 9 = some () := by
  unfold DX10_isPicked at h
  obtain ⟨_, hck, _⟩ := ob_some h
  exact hck

set_option maxRecDepth 20000 in
theorem tX10_isPicked {l : Launch} {g : GT} {sz : Option Nat} (N : Nat) (this : Nat) (p0 : Int32) (f : HF) {r : Int32} (h : DX10_isPicked N this p0 f = some r) : Mt l g yX10_isPicked cX10_isPicked 2 (Option.some Jvm.ClassFile.FieldType.boolean) 0 [.ref this, .int p0] f sz (roI (.inl r) f sz) := by
  unfold DX10_isPicked at h
  obtain ⟨_, hck, h⟩ := ob_some h
  refine mt_of (by decide) (Nat.le_of_ble_eq_true rfl) (?_ : V l g (fun _ => True) (RX10, cX10_isPicked, 2, (Option.some Jvm.ClassFile.FieldType.boolean), [], "isPicked") 0 (roI (.inl r) f sz) 0 [(0, .ref this), (1, .int p0)] [] f sz 0 0)
  refine v_aload_n dX10_isPicked_0 rfl rfl ?_
  obtain ⟨x1, hx1, h⟩ := ob_some h
  refine v_getR dX10_isPicked_1 fl_X10_7 hx1 ?_
  refine v_iload_n dX10_isPicked_4 rfl rfl ?_
  obtain ⟨x2, hx2, h⟩ := ob_some h
  refine v_iald dX10_isPicked_5 hx2 ?_
  refine v_iconst (v := 3) dX10_isPicked_6 (by decide) ?_
  refine v_icmp_eq (tgt := 20) dX10_isPicked_7 (by decide) (fun c6 => ?_) (fun c6 => ?_)
  · replace h := ip_ c6 h
    refine v_iconst (v := 1) dX10_isPicked_20 (by decide) ?_
    refine v_goto (tgt := 25) dX10_isPicked_21 (by decide) ?_
    obtain rfl := Option.some.inj h
    exact v_zret dX10_isPicked_25 rfl (Or.inr rfl) rfl
  · replace h := in_ c6 h
    refine v_aload_n dX10_isPicked_10 rfl rfl ?_
    obtain ⟨x3, hx3, h⟩ := ob_some h
    refine v_getR dX10_isPicked_11 fl_X10_7 hx3 ?_
    refine v_iload_n dX10_isPicked_14 rfl rfl ?_
    obtain ⟨x4, hx4, h⟩ := ob_some h
    refine v_iald dX10_isPicked_15 hx4 ?_
    refine v_iconst (v := 4) dX10_isPicked_16 (by decide) ?_
    refine v_icmp_ne (tgt := 24) dX10_isPicked_17 (by decide) (fun c5 => ?_) (fun c5 => ?_)
    · replace h := in_ c5 h
      refine v_iconst (v := 0) dX10_isPicked_24 (by decide) ?_
      obtain rfl := Option.some.inj h
      exact v_zret dX10_isPicked_25 rfl (Or.inl rfl) rfl
    · replace h := ip_ c5 h
      refine v_iconst (v := 1) dX10_isPicked_20 (by decide) ?_
      refine v_goto (tgt := 25) dX10_isPicked_21 (by decide) ?_
      obtain rfl := Option.some.inj h
      exact v_zret dX10_isPicked_25 rfl (Or.inr rfl) rfl

/-! X10 isNumberSign (R) -/
def DX10_isNumberSign_12 (N : Nat) (f : HF)  (v0 : Int32) : Option Int32 :=
    if v0 = (45 : Int32) then
      some (1 : Int32)
    else
      if v0 = (46 : Int32) then
        some (1 : Int32)
      else
        some (0 : Int32)

def DX10_isNumberSign (N : Nat) (p0 : Int32) (f : HF) : Option Int32 :=
  if p0 < (48 : Int32) then
    DX10_isNumberSign_12 N f p0
  else
    if p0 ≤ (57 : Int32) then
      some (1 : Int32)
    else
      DX10_isNumberSign_12 N f p0

set_option maxRecDepth 20000 in
theorem tX10_isNumberSign_12 {l : Launch} {g : GT} {sz : Option Nat} (N : Nat) (f : HF)  {r : Int32} : ∀ (v0 : Int32), DX10_isNumberSign_12 N f v0 = some r → V l g (fun _ => True) (RX10, cX10_isNumberSign, 1, (Option.some Jvm.ClassFile.FieldType.boolean), [], "isNumberSign") 0 (roI (.inl r) f sz) 12 [(0, .int v0)] [] f sz 0 0 := by
  intro v0 h
  unfold DX10_isNumberSign_12 at h
  refine v_iload_n dX10_isNumberSign_12 rfl rfl ?_
  refine v_bipush (v := 45) dX10_isNumberSign_13 (by decide) ?_
  refine v_icmp_eq (tgt := 24) dX10_isNumberSign_15 (by decide) (fun c2 => ?_) (fun c2 => ?_)
  · replace h := ip_ c2 h
    refine v_iconst (v := 1) dX10_isNumberSign_24 (by decide) ?_
    refine v_goto (tgt := 29) dX10_isNumberSign_25 (by decide) ?_
    obtain rfl := Option.some.inj h
    exact v_zret dX10_isNumberSign_29 rfl (Or.inr rfl) rfl
  · replace h := in_ c2 h
    refine v_iload_n dX10_isNumberSign_18 rfl rfl ?_
    refine v_bipush (v := 46) dX10_isNumberSign_19 (by decide) ?_
    refine v_icmp_ne (tgt := 28) dX10_isNumberSign_21 (by decide) (fun c1 => ?_) (fun c1 => ?_)
    · replace h := in_ c1 h
      refine v_iconst (v := 0) dX10_isNumberSign_28 (by decide) ?_
      obtain rfl := Option.some.inj h
      exact v_zret dX10_isNumberSign_29 rfl (Or.inl rfl) rfl
    · replace h := ip_ c1 h
      refine v_iconst (v := 1) dX10_isNumberSign_24 (by decide) ?_
      refine v_goto (tgt := 29) dX10_isNumberSign_25 (by decide) ?_
      obtain rfl := Option.some.inj h
      exact v_zret dX10_isNumberSign_29 rfl (Or.inr rfl) rfl

set_option maxRecDepth 20000 in
theorem tX10_isNumberSign {l : Launch} {g : GT} {sz : Option Nat} (N : Nat) (p0 : Int32) (f : HF) {r : Int32} (h : DX10_isNumberSign N p0 f = some r) : Mt l g yX10_isNumberSign cX10_isNumberSign 1 (Option.some Jvm.ClassFile.FieldType.boolean) 0 [.int p0] f sz (roI (.inl r) f sz) := by
  unfold DX10_isNumberSign at h
  refine mt_of (by decide) (Nat.le_of_ble_eq_true rfl) (?_ : V l g (fun _ => True) (RX10, cX10_isNumberSign, 1, (Option.some Jvm.ClassFile.FieldType.boolean), [], "isNumberSign") 0 (roI (.inl r) f sz) 0 [(0, .int p0)] [] f sz 0 0)
  refine v_iload_n dX10_isNumberSign_0 rfl rfl ?_
  refine v_bipush (v := 48) dX10_isNumberSign_1 (by decide) ?_
  refine v_icmp_lt (tgt := 12) dX10_isNumberSign_3 (by decide) (fun c4 => ?_) (fun c4 => ?_)
  · replace h := ip_ c4 h
    exact v_sub (vs_c rfl vs_n) (tX10_isNumberSign_12 N f p0 h)
  · replace h := in_ c4 h
    refine v_iload_n dX10_isNumberSign_6 rfl rfl ?_
    refine v_bipush (v := 57) dX10_isNumberSign_7 (by decide) ?_
    refine v_icmp_le (tgt := 24) dX10_isNumberSign_9 (by decide) (fun c3 => ?_) (fun c3 => ?_)
    · replace h := ip_ c3 h
      refine v_iconst (v := 1) dX10_isNumberSign_24 (by decide) ?_
      refine v_goto (tgt := 29) dX10_isNumberSign_25 (by decide) ?_
      obtain rfl := Option.some.inj h
      exact v_zret dX10_isNumberSign_29 rfl (Or.inr rfl) rfl
    · replace h := in_ c3 h
      exact v_sub (vs_c rfl vs_n) (tX10_isNumberSign_12 N f p0 h)

/-! X10 isSign (R) -/
def DX10_isSign (N : Nat) (this : Nat) (p0 : Int32) (p1 : Int32) (f : HF) : Option Int32 :=
  (ck f this 9).bind fun _ =>
  (gR f this 9 2).bind fun x1 =>
  (aI f x1 0 p0).bind fun x2 =>
  if x2 = (1 : Int32) then
    (DX10_isIn N (p1.toInt64) (32 : Int64) (126 : Int64) f).bind fun x5 =>
    if x5 = 0 ∨ x5 = 1 then some x5 else none
  else
    (DX10_isNumberSign N p1 f).bind fun x3 =>
    if x3 = 0 ∨ x3 = 1 then some x3 else none

set_option maxRecDepth 20000 in
theorem kX10_isSign (N : Nat) (this : Nat) (p0 : Int32) (p1 : Int32) (f : HF) {r : Int32} (h : DX10_isSign N this p0 p1 f = some r) : ck f this 9 = some () := by
  unfold DX10_isSign at h
  obtain ⟨_, hck, _⟩ := ob_some h
  exact hck

set_option maxRecDepth 20000 in
theorem tX10_isSign {l : Launch} {g : GT} {sz : Option Nat} (N : Nat) (this : Nat) (p0 : Int32) (p1 : Int32) (f : HF) {r : Int32} (h : DX10_isSign N this p0 p1 f = some r) : Mt l g yX10_isSign cX10_isSign 3 (Option.some Jvm.ClassFile.FieldType.boolean) 1 [.ref this, .int p0, .int p1] f sz (roI (.inl r) f sz) := by
  unfold DX10_isSign at h
  obtain ⟨_, hck, h⟩ := ob_some h
  refine mt_of (by decide) (Nat.le_of_ble_eq_true rfl) (?_ : V l g (fun _ => True) (RX10, cX10_isSign, 3, (Option.some Jvm.ClassFile.FieldType.boolean), [], "isSign") 1 (roI (.inl r) f sz) 0 [(0, .ref this), (1, .int p0), (2, .int p1)] [] f sz 0 0)
  refine v_aload_n dX10_isSign_0 rfl rfl ?_
  obtain ⟨x1, hx1, h⟩ := ob_some h
  refine v_getR dX10_isSign_1 fl_X10_7 hx1 ?_
  refine v_iload_n dX10_isSign_4 rfl rfl ?_
  obtain ⟨x2, hx2, h⟩ := ob_some h
  refine v_iald dX10_isSign_5 hx2 ?_
  refine v_iconst (v := 1) dX10_isSign_6 (by decide) ?_
  refine v_icmp_ne (tgt := 24) dX10_isSign_7 (by decide) (fun c7 => ?_) (fun c7 => ?_)
  · replace h := in_ c7 h
    refine v_iload_n dX10_isSign_24 rfl rfl ?_
    obtain ⟨x3, hx4, h⟩ := ob_some h
    have ehx4 := tX10_isNumberSign (l := l) (g := g) (sz := sz) N p1 f hx4
    refine v_cSI dX10_isSign_25 ml_X10_137 ok_X10_isNumberSign ehx4 (by decide) rfl (rest := []) rfl (Nat.le_of_ble_eq_true rfl) ?_
    obtain ⟨hB, h⟩ := if_some h
    obtain rfl := Option.some.inj h
    exact v_zret dX10_isSign_28 rfl hB rfl
  · replace h := ip_ c7 h
    refine v_iload_n dX10_isSign_10 rfl rfl ?_
    refine v_i2l dX10_isSign_11 ?_
    refine v_ldc2 dX10_isSign_12 kc_X10_133 ?_
    refine v_ldc2 dX10_isSign_15 kc_X10_135 ?_
    obtain ⟨x5, hx6, h⟩ := ob_some h
    have ehx6 := tX10_isIn (l := l) (g := g) (sz := sz) N (p1.toInt64) (32 : Int64) (126 : Int64) f hx6
    refine v_cSI dX10_isSign_18 ml_X10_115 ok_X10_isIn ehx6 (by decide) rfl (rest := []) rfl (Nat.le_of_ble_eq_true rfl) ?_
    refine v_goto (tgt := 28) dX10_isSign_21 (by decide) ?_
    obtain ⟨hB, h⟩ := if_some h
    obtain rfl := Option.some.inj h
    exact v_zret dX10_isSign_28 rfl hB rfl

/-! X10 most (R) -/
def DX10_most (N : Nat) (this : Nat) (p0 : Int32) (f : HF) : Option Int32 :=
  (ck f this 9).bind fun _ =>
  (gR f this 9 15).bind fun x1 =>
  (aI f x1 0 (((5 : Int32) * p0) + (1 : Int32))).bind fun x2 =>
  (gR f this 9 2).bind fun x3 =>
  (aI f x3 0 p0).bind fun x4 =>
  if x4 = (5 : Int32) then
    some (14 : Int32)
  else
    if x2 ≤ 0 then
      some (30 : Int32)
    else
      some x2

set_option maxRecDepth 20000 in
theorem kX10_most (N : Nat) (this : Nat) (p0 : Int32) (f : HF) {r : Int32} (h : DX10_most N this p0 f = some r) : ck f this 9 = some () := by
  unfold DX10_most at h
  obtain ⟨_, hck, _⟩ := ob_some h
  exact hck

set_option maxRecDepth 20000 in
theorem tX10_most {l : Launch} {g : GT} {sz : Option Nat} (N : Nat) (this : Nat) (p0 : Int32) (f : HF) {r : Int32} (h : DX10_most N this p0 f = some r) : Mt l g yX10_most cX10_most 3 (Option.some Jvm.ClassFile.FieldType.int) 0 [.ref this, .int p0] f sz (roI (.inl r) f sz) := by
  unfold DX10_most at h
  obtain ⟨_, hck, h⟩ := ob_some h
  refine mt_of (by decide) (Nat.le_of_ble_eq_true rfl) (?_ : V l g (fun _ => True) (RX10, cX10_most, 3, (Option.some Jvm.ClassFile.FieldType.int), [], "most") 0 (roI (.inl r) f sz) 0 [(0, .ref this), (1, .int p0)] [] f sz 0 0)
  refine v_aload_n dX10_most_0 rfl rfl ?_
  obtain ⟨x1, hx1, h⟩ := ob_some h
  refine v_getR dX10_most_1 fl_X10_50 hx1 ?_
  refine v_iconst (v := 5) dX10_most_4 (by decide) ?_
  refine v_iload_n dX10_most_5 rfl rfl ?_
  refine v_imul dX10_most_6 ?_
  refine v_iconst (v := 1) dX10_most_7 (by decide) ?_
  refine v_iadd dX10_most_8 ?_
  obtain ⟨x2, hx2, h⟩ := ob_some h
  refine v_iald dX10_most_9 hx2 ?_
  refine v_istore_n (ls1 := [(2, .int x2), (0, .ref this), (1, .int p0)]) dX10_most_10 rfl (by decide) rfl ?_
  refine v_aload_n dX10_most_11 rfl rfl ?_
  obtain ⟨x3, hx3, h⟩ := ob_some h
  refine v_getR dX10_most_12 fl_X10_7 hx3 ?_
  refine v_iload_n dX10_most_15 rfl rfl ?_
  obtain ⟨x4, hx4, h⟩ := ob_some h
  refine v_iald dX10_most_16 hx4 ?_
  refine v_iconst (v := 5) dX10_most_17 (by decide) ?_
  refine v_icmp_ne (tgt := 26) dX10_most_18 (by decide) (fun c6 => ?_) (fun c6 => ?_)
  · replace h := in_ c6 h
    refine v_iload_n dX10_most_26 rfl rfl ?_
    refine v_if_le (tgt := 34) dX10_most_27 (by decide) (fun c5 => ?_) (fun c5 => ?_)
    · replace h := ip_ c5 h
      refine v_bipush (v := 30) dX10_most_34 (by decide) ?_
      obtain rfl := Option.some.inj h
      exact v_iret dX10_most_36 rfl rfl
    · replace h := in_ c5 h
      refine v_iload_n dX10_most_30 rfl rfl ?_
      refine v_goto (tgt := 36) dX10_most_31 (by decide) ?_
      obtain rfl := Option.some.inj h
      exact v_iret dX10_most_36 rfl rfl
  · replace h := ip_ c6 h
    refine v_bipush (v := 14) dX10_most_21 (by decide) ?_
    refine v_goto (tgt := 36) dX10_most_23 (by decide) ?_
    obtain rfl := Option.some.inj h
    exact v_iret dX10_most_36 rfl rfl

